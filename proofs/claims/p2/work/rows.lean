section
-- ===== PART A: goes FIRST, ahead of the names: the tables' words, and 'selects' of the private methods out of them =====
/-- a private method of a class that the tables say can be made, by its rows of tables_1 -/
def lw_okq (q : MethodName × Nat) : Prop := (q.1.cls ≠ "java/lang/invoke/MethodHandle" ∧ q.1.cls ≠ "java/lang/invoke/VarHandle") ∧ Cond.instantiable q.1.cls q.2 ∈ tables_1 ∧ Cond.privateMethod q.1 ∈ tables_1 ∧ Cond.instanceMethod q.1 ∈ tables_1
theorem lw_p0 : lw_okq (⟨"java/lang/Throwable", "fillInStackTrace", "(I)Ljava/lang/Throwable;"⟩, 6) := ⟨⟨by decide +kernel, by decide +kernel⟩, List.mem_of_getElem? (i := 400) (by decide +kernel), List.mem_of_getElem? (i := 398) (by decide +kernel), List.mem_of_getElem? (i := 399) (by decide +kernel)⟩
theorem lw_p1 : lw_okq (⟨"MomentTexts", "zoneAt", "(I)LMomentTexts$Zone;"⟩, 9) := ⟨⟨by decide +kernel, by decide +kernel⟩, List.mem_of_getElem? (i := 24) (by decide +kernel), List.mem_of_getElem? (i := 689) (by decide +kernel), List.mem_of_getElem? (i := 690) (by decide +kernel)⟩
theorem lw_p2 : lw_okq (⟨"MomentTexts", "goOn", "(LMomentTexts$Zone;JII)J"⟩, 9) := ⟨⟨by decide +kernel, by decide +kernel⟩, List.mem_of_getElem? (i := 24) (by decide +kernel), List.mem_of_getElem? (i := 1294) (by decide +kernel), List.mem_of_getElem? (i := 1295) (by decide +kernel)⟩
theorem lw_p3 : lw_okq (⟨"MomentTexts", "instantOfSkipped", "(LMomentTexts$Zone;JI)J"⟩, 9) := ⟨⟨by decide +kernel, by decide +kernel⟩, List.mem_of_getElem? (i := 24) (by decide +kernel), List.mem_of_getElem? (i := 1298) (by decide +kernel), List.mem_of_getElem? (i := 1299) (by decide +kernel)⟩
theorem lw_p4 : lw_okq (⟨"MomentTextsModel", "isDay", "(J)Z"⟩, 41) := ⟨⟨by decide +kernel, by decide +kernel⟩, List.mem_of_getElem? (i := 1327) (by decide +kernel), List.mem_of_getElem? (i := 1500) (by decide +kernel), List.mem_of_getElem? (i := 1501) (by decide +kernel)⟩
theorem lw_p5 : lw_okq (⟨"MomentTextsModel", "weekYearOf", "(J)J"⟩, 41) := ⟨⟨by decide +kernel, by decide +kernel⟩, List.mem_of_getElem? (i := 1327) (by decide +kernel), List.mem_of_getElem? (i := 1505) (by decide +kernel), List.mem_of_getElem? (i := 1506) (by decide +kernel)⟩
theorem lw_p6 : lw_okq (⟨"MomentTextsModel", "civil", "(J)V"⟩, 41) := ⟨⟨by decide +kernel, by decide +kernel⟩, List.mem_of_getElem? (i := 1327) (by decide +kernel), List.mem_of_getElem? (i := 1509) (by decide +kernel), List.mem_of_getElem? (i := 1510) (by decide +kernel)⟩
theorem lw_p7 : lw_okq (⟨"MomentTextsModel", "monthsOn", "(JJ)J"⟩, 41) := ⟨⟨by decide +kernel, by decide +kernel⟩, List.mem_of_getElem? (i := 1327) (by decide +kernel), List.mem_of_getElem? (i := 1535) (by decide +kernel), List.mem_of_getElem? (i := 1536) (by decide +kernel)⟩
theorem lw_p8 : lw_okq (⟨"MomentTextsModel", "isLeapDay", "(J)Z"⟩, 41) := ⟨⟨by decide +kernel, by decide +kernel⟩, List.mem_of_getElem? (i := 1327) (by decide +kernel), List.mem_of_getElem? (i := 1547) (by decide +kernel), List.mem_of_getElem? (i := 1548) (by decide +kernel)⟩
theorem lw_p9 : lw_okq (⟨"MomentTextsModel", "isMinute", "(J)Z"⟩, 41) := ⟨⟨by decide +kernel, by decide +kernel⟩, List.mem_of_getElem? (i := 1327) (by decide +kernel), List.mem_of_getElem? (i := 1555) (by decide +kernel), List.mem_of_getElem? (i := 1556) (by decide +kernel)⟩
theorem lw_p10 : lw_okq (⟨"MomentTextsModel", "secondsOf", "(J)I"⟩, 41) := ⟨⟨by decide +kernel, by decide +kernel⟩, List.mem_of_getElem? (i := 1327) (by decide +kernel), List.mem_of_getElem? (i := 1561) (by decide +kernel), List.mem_of_getElem? (i := 1562) (by decide +kernel)⟩
theorem lw_p11 : lw_okq (⟨"MomentTextsModel", "startOf", "(J)J"⟩, 41) := ⟨⟨by decide +kernel, by decide +kernel⟩, List.mem_of_getElem? (i := 1327) (by decide +kernel), List.mem_of_getElem? (i := 1565) (by decide +kernel), List.mem_of_getElem? (i := 1566) (by decide +kernel)⟩
theorem lw_p12 : lw_okq (⟨"MomentTextsModel", "leapsBefore", "(J)J"⟩, 41) := ⟨⟨by decide +kernel, by decide +kernel⟩, List.mem_of_getElem? (i := 1327) (by decide +kernel), List.mem_of_getElem? (i := 1570) (by decide +kernel), List.mem_of_getElem? (i := 1571) (by decide +kernel)⟩
theorem lw_p13 : lw_okq (⟨"MomentTextsModel", "isInstant", "(J)Z"⟩, 41) := ⟨⟨by decide +kernel, by decide +kernel⟩, List.mem_of_getElem? (i := 1327) (by decide +kernel), List.mem_of_getElem? (i := 1579) (by decide +kernel), List.mem_of_getElem? (i := 1580) (by decide +kernel)⟩
theorem lw_p14 : lw_okq (⟨"MomentTextsModel", "read0", "(J)V"⟩, 41) := ⟨⟨by decide +kernel, by decide +kernel⟩, List.mem_of_getElem? (i := 1327) (by decide +kernel), List.mem_of_getElem? (i := 1583) (by decide +kernel), List.mem_of_getElem? (i := 1584) (by decide +kernel)⟩
theorem lw_p15 : lw_okq (⟨"MomentTextsModel", "isZone", "(I)Z"⟩, 41) := ⟨⟨by decide +kernel, by decide +kernel⟩, List.mem_of_getElem? (i := 1327) (by decide +kernel), List.mem_of_getElem? (i := 1600) (by decide +kernel), List.mem_of_getElem? (i := 1601) (by decide +kernel)⟩
def lw_privs_1 : List (MethodName × Nat) := [(⟨"java/lang/Throwable", "fillInStackTrace", "(I)Ljava/lang/Throwable;"⟩, 6), (⟨"MomentTexts", "zoneAt", "(I)LMomentTexts$Zone;"⟩, 9), (⟨"MomentTexts", "goOn", "(LMomentTexts$Zone;JII)J"⟩, 9), (⟨"MomentTexts", "instantOfSkipped", "(LMomentTexts$Zone;JI)J"⟩, 9), (⟨"MomentTextsModel", "isDay", "(J)Z"⟩, 41), (⟨"MomentTextsModel", "weekYearOf", "(J)J"⟩, 41), (⟨"MomentTextsModel", "civil", "(J)V"⟩, 41), (⟨"MomentTextsModel", "monthsOn", "(JJ)J"⟩, 41), (⟨"MomentTextsModel", "isLeapDay", "(J)Z"⟩, 41), (⟨"MomentTextsModel", "isMinute", "(J)Z"⟩, 41), (⟨"MomentTextsModel", "secondsOf", "(J)I"⟩, 41), (⟨"MomentTextsModel", "startOf", "(J)J"⟩, 41), (⟨"MomentTextsModel", "leapsBefore", "(J)J"⟩, 41), (⟨"MomentTextsModel", "isInstant", "(J)Z"⟩, 41), (⟨"MomentTextsModel", "read0", "(J)V"⟩, 41), (⟨"MomentTextsModel", "isZone", "(I)Z"⟩, 41)]
theorem lw_r1 : ∀ q ∈ lw_privs_1, lw_okq q := List.forall_mem_cons.mpr ⟨lw_p0, List.forall_mem_cons.mpr ⟨lw_p1, List.forall_mem_cons.mpr ⟨lw_p2, List.forall_mem_cons.mpr ⟨lw_p3, List.forall_mem_cons.mpr ⟨lw_p4, List.forall_mem_cons.mpr ⟨lw_p5, List.forall_mem_cons.mpr ⟨lw_p6, List.forall_mem_cons.mpr ⟨lw_p7, List.forall_mem_cons.mpr ⟨lw_p8, List.forall_mem_cons.mpr ⟨lw_p9, List.forall_mem_cons.mpr ⟨lw_p10, List.forall_mem_cons.mpr ⟨lw_p11, List.forall_mem_cons.mpr ⟨lw_p12, List.forall_mem_cons.mpr ⟨lw_p13, List.forall_mem_cons.mpr ⟨lw_p14, List.forall_mem_cons.mpr ⟨lw_p15, fun _ h => absurd h List.not_mem_nil⟩⟩⟩⟩⟩⟩⟩⟩⟩⟩⟩⟩⟩⟩⟩⟩
theorem lw_p16 : lw_okq (⟨"MomentTextsModel", "offsetAt", "(IJ)I"⟩, 41) := ⟨⟨by decide +kernel, by decide +kernel⟩, List.mem_of_getElem? (i := 1327) (by decide +kernel), List.mem_of_getElem? (i := 1608) (by decide +kernel), List.mem_of_getElem? (i := 1609) (by decide +kernel)⟩
theorem lw_p17 : lw_okq (⟨"MomentTextsModel", "ruleOffset", "(IJ)I"⟩, 41) := ⟨⟨by decide +kernel, by decide +kernel⟩, List.mem_of_getElem? (i := 1327) (by decide +kernel), List.mem_of_getElem? (i := 1612) (by decide +kernel), List.mem_of_getElem? (i := 1613) (by decide +kernel)⟩
theorem lw_p18 : lw_okq (⟨"MomentTextsModel", "ruleMinute", "(IIJ)J"⟩, 41) := ⟨⟨by decide +kernel, by decide +kernel⟩, List.mem_of_getElem? (i := 1327) (by decide +kernel), List.mem_of_getElem? (i := 1616) (by decide +kernel), List.mem_of_getElem? (i := 1617) (by decide +kernel)⟩
theorem lw_p19 : lw_okq (⟨"MomentTextsModel", "locals", "(IJI)I"⟩, 41) := ⟨⟨by decide +kernel, by decide +kernel⟩, List.mem_of_getElem? (i := 1327) (by decide +kernel), List.mem_of_getElem? (i := 1624) (by decide +kernel), List.mem_of_getElem? (i := 1625) (by decide +kernel)⟩
theorem lw_p20 : lw_okq (⟨"MomentTextsModel", "listOffsets", "(I)V"⟩, 41) := ⟨⟨by decide +kernel, by decide +kernel⟩, List.mem_of_getElem? (i := 1327) (by decide +kernel), List.mem_of_getElem? (i := 1628) (by decide +kernel), List.mem_of_getElem? (i := 1629) (by decide +kernel)⟩
theorem lw_p21 : lw_okq (⟨"MomentTextsModel", "addOffset", "(I)V"⟩, 41) := ⟨⟨by decide +kernel, by decide +kernel⟩, List.mem_of_getElem? (i := 1327) (by decide +kernel), List.mem_of_getElem? (i := 1632) (by decide +kernel), List.mem_of_getElem? (i := 1633) (by decide +kernel)⟩
theorem lw_p22 : lw_okq (⟨"MomentTextsModel", "listBegins", "(IJJ)V"⟩, 41) := ⟨⟨by decide +kernel, by decide +kernel⟩, List.mem_of_getElem? (i := 1327) (by decide +kernel), List.mem_of_getElem? (i := 1641) (by decide +kernel), List.mem_of_getElem? (i := 1642) (by decide +kernel)⟩
theorem lw_p23 : lw_okq (⟨"MomentTextsModel", "begin", "(JJJ)V"⟩, 41) := ⟨⟨by decide +kernel, by decide +kernel⟩, List.mem_of_getElem? (i := 1327) (by decide +kernel), List.mem_of_getElem? (i := 1645) (by decide +kernel), List.mem_of_getElem? (i := 1646) (by decide +kernel)⟩
theorem lw_p24 : lw_okq (⟨"MomentTextsModel", "offsetAtChange", "(J)Z"⟩, 41) := ⟨⟨by decide +kernel, by decide +kernel⟩, List.mem_of_getElem? (i := 1327) (by decide +kernel), List.mem_of_getElem? (i := 1649) (by decide +kernel), List.mem_of_getElem? (i := 1650) (by decide +kernel)⟩
theorem lw_p25 : lw_okq (⟨"MomentTextsModel", "on", "(IJJJ)J"⟩, 41) := ⟨⟨by decide +kernel, by decide +kernel⟩, List.mem_of_getElem? (i := 1327) (by decide +kernel), List.mem_of_getElem? (i := 1657) (by decide +kernel), List.mem_of_getElem? (i := 1658) (by decide +kernel)⟩
theorem lw_p26 : lw_okq (⟨"MomentTextsModel", "skipped", "(IJI)J"⟩, 41) := ⟨⟨by decide +kernel, by decide +kernel⟩, List.mem_of_getElem? (i := 1327) (by decide +kernel), List.mem_of_getElem? (i := 1661) (by decide +kernel), List.mem_of_getElem? (i := 1662) (by decide +kernel)⟩
theorem lw_p27 : lw_okq (⟨"MomentTextsModel", "isNotBehind", "(IJJJJ)Z"⟩, 41) := ⟨⟨by decide +kernel, by decide +kernel⟩, List.mem_of_getElem? (i := 1327) (by decide +kernel), List.mem_of_getElem? (i := 1674) (by decide +kernel), List.mem_of_getElem? (i := 1675) (by decide +kernel)⟩
theorem lw_p28 : lw_okq (⟨"MomentTextsModel", "begin", "()V"⟩, 41) := ⟨⟨by decide +kernel, by decide +kernel⟩, List.mem_of_getElem? (i := 1327) (by decide +kernel), List.mem_of_getElem? (i := 1683) (by decide +kernel), List.mem_of_getElem? (i := 1684) (by decide +kernel)⟩
theorem lw_p29 : lw_okq (⟨"MomentTextsModel", "ruleName", "()V"⟩, 41) := ⟨⟨by decide +kernel, by decide +kernel⟩, List.mem_of_getElem? (i := 1327) (by decide +kernel), List.mem_of_getElem? (i := 1687) (by decide +kernel), List.mem_of_getElem? (i := 1688) (by decide +kernel)⟩
theorem lw_p30 : lw_okq (⟨"MomentTextsModel", "takes", "(I)Z"⟩, 41) := ⟨⟨by decide +kernel, by decide +kernel⟩, List.mem_of_getElem? (i := 1327) (by decide +kernel), List.mem_of_getElem? (i := 1691) (by decide +kernel), List.mem_of_getElem? (i := 1692) (by decide +kernel)⟩
theorem lw_p31 : lw_okq (⟨"MomentTextsModel", "isGood", "()Z"⟩, 41) := ⟨⟨by decide +kernel, by decide +kernel⟩, List.mem_of_getElem? (i := 1327) (by decide +kernel), List.mem_of_getElem? (i := 1695) (by decide +kernel), List.mem_of_getElem? (i := 1696) (by decide +kernel)⟩
def lw_privs_2 : List (MethodName × Nat) := [(⟨"MomentTextsModel", "offsetAt", "(IJ)I"⟩, 41), (⟨"MomentTextsModel", "ruleOffset", "(IJ)I"⟩, 41), (⟨"MomentTextsModel", "ruleMinute", "(IIJ)J"⟩, 41), (⟨"MomentTextsModel", "locals", "(IJI)I"⟩, 41), (⟨"MomentTextsModel", "listOffsets", "(I)V"⟩, 41), (⟨"MomentTextsModel", "addOffset", "(I)V"⟩, 41), (⟨"MomentTextsModel", "listBegins", "(IJJ)V"⟩, 41), (⟨"MomentTextsModel", "begin", "(JJJ)V"⟩, 41), (⟨"MomentTextsModel", "offsetAtChange", "(J)Z"⟩, 41), (⟨"MomentTextsModel", "on", "(IJJJ)J"⟩, 41), (⟨"MomentTextsModel", "skipped", "(IJI)J"⟩, 41), (⟨"MomentTextsModel", "isNotBehind", "(IJJJJ)Z"⟩, 41), (⟨"MomentTextsModel", "begin", "()V"⟩, 41), (⟨"MomentTextsModel", "ruleName", "()V"⟩, 41), (⟨"MomentTextsModel", "takes", "(I)Z"⟩, 41), (⟨"MomentTextsModel", "isGood", "()Z"⟩, 41)]
theorem lw_r2 : ∀ q ∈ lw_privs_2, lw_okq q := List.forall_mem_cons.mpr ⟨lw_p16, List.forall_mem_cons.mpr ⟨lw_p17, List.forall_mem_cons.mpr ⟨lw_p18, List.forall_mem_cons.mpr ⟨lw_p19, List.forall_mem_cons.mpr ⟨lw_p20, List.forall_mem_cons.mpr ⟨lw_p21, List.forall_mem_cons.mpr ⟨lw_p22, List.forall_mem_cons.mpr ⟨lw_p23, List.forall_mem_cons.mpr ⟨lw_p24, List.forall_mem_cons.mpr ⟨lw_p25, List.forall_mem_cons.mpr ⟨lw_p26, List.forall_mem_cons.mpr ⟨lw_p27, List.forall_mem_cons.mpr ⟨lw_p28, List.forall_mem_cons.mpr ⟨lw_p29, List.forall_mem_cons.mpr ⟨lw_p30, List.forall_mem_cons.mpr ⟨lw_p31, fun _ h => absurd h List.not_mem_nil⟩⟩⟩⟩⟩⟩⟩⟩⟩⟩⟩⟩⟩⟩⟩⟩
theorem lw_p32 : lw_okq (⟨"MomentTextsModel", "sign", "()I"⟩, 41) := ⟨⟨by decide +kernel, by decide +kernel⟩, List.mem_of_getElem? (i := 1327) (by decide +kernel), List.mem_of_getElem? (i := 1699) (by decide +kernel), List.mem_of_getElem? (i := 1700) (by decide +kernel)⟩
theorem lw_p33 : lw_okq (⟨"MomentTextsModel", "fail", "()V"⟩, 41) := ⟨⟨by decide +kernel, by decide +kernel⟩, List.mem_of_getElem? (i := 1327) (by decide +kernel), List.mem_of_getElem? (i := 1709) (by decide +kernel), List.mem_of_getElem? (i := 1710) (by decide +kernel)⟩
theorem lw_p34 : lw_okq (⟨"MomentTextsModel", "expect", "(I)V"⟩, 41) := ⟨⟨by decide +kernel, by decide +kernel⟩, List.mem_of_getElem? (i := 1327) (by decide +kernel), List.mem_of_getElem? (i := 1713) (by decide +kernel), List.mem_of_getElem? (i := 1714) (by decide +kernel)⟩
theorem lw_p35 : lw_okq (⟨"MomentTextsModel", "ruleTime", "(ZI)I"⟩, 41) := ⟨⟨by decide +kernel, by decide +kernel⟩, List.mem_of_getElem? (i := 1327) (by decide +kernel), List.mem_of_getElem? (i := 1717) (by decide +kernel), List.mem_of_getElem? (i := 1718) (by decide +kernel)⟩
theorem lw_p36 : lw_okq (⟨"MomentTextsModel", "digits", "(I)I"⟩, 41) := ⟨⟨by decide +kernel, by decide +kernel⟩, List.mem_of_getElem? (i := 1327) (by decide +kernel), List.mem_of_getElem? (i := 1721) (by decide +kernel), List.mem_of_getElem? (i := 1722) (by decide +kernel)⟩
theorem lw_p37 : lw_okq (⟨"MomentTextsModel", "bad", "(I)V"⟩, 41) := ⟨⟨by decide +kernel, by decide +kernel⟩, List.mem_of_getElem? (i := 1327) (by decide +kernel), List.mem_of_getElem? (i := 1725) (by decide +kernel), List.mem_of_getElem? (i := 1726) (by decide +kernel)⟩
theorem lw_p38 : lw_okq (⟨"MomentTextsModel", "ruleDate", "(I)V"⟩, 41) := ⟨⟨by decide +kernel, by decide +kernel⟩, List.mem_of_getElem? (i := 1327) (by decide +kernel), List.mem_of_getElem? (i := 1729) (by decide +kernel), List.mem_of_getElem? (i := 1730) (by decide +kernel)⟩
theorem lw_p39 : lw_okq (⟨"MomentTextsModel", "upTo", "(III)I"⟩, 41) := ⟨⟨by decide +kernel, by decide +kernel⟩, List.mem_of_getElem? (i := 1327) (by decide +kernel), List.mem_of_getElem? (i := 1733) (by decide +kernel), List.mem_of_getElem? (i := 1734) (by decide +kernel)⟩
theorem lw_p40 : lw_okq (⟨"MomentTextsModel", "readPlain", "()V"⟩, 41) := ⟨⟨by decide +kernel, by decide +kernel⟩, List.mem_of_getElem? (i := 1327) (by decide +kernel), List.mem_of_getElem? (i := 1742) (by decide +kernel), List.mem_of_getElem? (i := 1743) (by decide +kernel)⟩
theorem lw_p41 : lw_okq (⟨"MomentTextsModel", "clearPart", "(I)V"⟩, 41) := ⟨⟨by decide +kernel, by decide +kernel⟩, List.mem_of_getElem? (i := 1327) (by decide +kernel), List.mem_of_getElem? (i := 1746) (by decide +kernel), List.mem_of_getElem? (i := 1747) (by decide +kernel)⟩
theorem lw_p42 : lw_okq (⟨"MomentTextsModel", "set", "(IJ)V"⟩, 41) := ⟨⟨by decide +kernel, by decide +kernel⟩, List.mem_of_getElem? (i := 1327) (by decide +kernel), List.mem_of_getElem? (i := 1750) (by decide +kernel), List.mem_of_getElem? (i := 1751) (by decide +kernel)⟩
theorem lw_p43 : lw_okq (⟨"MomentTextsModel", "dateNumber", "(II)V"⟩, 41) := ⟨⟨by decide +kernel, by decide +kernel⟩, List.mem_of_getElem? (i := 1327) (by decide +kernel), List.mem_of_getElem? (i := 1754) (by decide +kernel), List.mem_of_getElem? (i := 1755) (by decide +kernel)⟩
theorem lw_p44 : lw_okq (⟨"MomentTextsModel", "timeNumber", "(I)V"⟩, 41) := ⟨⟨by decide +kernel, by decide +kernel⟩, List.mem_of_getElem? (i := 1327) (by decide +kernel), List.mem_of_getElem? (i := 1758) (by decide +kernel), List.mem_of_getElem? (i := 1759) (by decide +kernel)⟩
theorem lw_p45 : lw_okq (⟨"MomentTextsModel", "part", "()J"⟩, 41) := ⟨⟨by decide +kernel, by decide +kernel⟩, List.mem_of_getElem? (i := 1327) (by decide +kernel), List.mem_of_getElem? (i := 1762) (by decide +kernel), List.mem_of_getElem? (i := 1763) (by decide +kernel)⟩
theorem lw_p46 : lw_okq (⟨"MomentTextsModel", "readDate", "(Z)V"⟩, 41) := ⟨⟨by decide +kernel, by decide +kernel⟩, List.mem_of_getElem? (i := 1327) (by decide +kernel), List.mem_of_getElem? (i := 1768) (by decide +kernel), List.mem_of_getElem? (i := 1769) (by decide +kernel)⟩
theorem lw_p47 : lw_okq (⟨"MomentTextsModel", "get", "(I)J"⟩, 41) := ⟨⟨by decide +kernel, by decide +kernel⟩, List.mem_of_getElem? (i := 1327) (by decide +kernel), List.mem_of_getElem? (i := 1772) (by decide +kernel), List.mem_of_getElem? (i := 1773) (by decide +kernel)⟩
def lw_privs_3 : List (MethodName × Nat) := [(⟨"MomentTextsModel", "sign", "()I"⟩, 41), (⟨"MomentTextsModel", "fail", "()V"⟩, 41), (⟨"MomentTextsModel", "expect", "(I)V"⟩, 41), (⟨"MomentTextsModel", "ruleTime", "(ZI)I"⟩, 41), (⟨"MomentTextsModel", "digits", "(I)I"⟩, 41), (⟨"MomentTextsModel", "bad", "(I)V"⟩, 41), (⟨"MomentTextsModel", "ruleDate", "(I)V"⟩, 41), (⟨"MomentTextsModel", "upTo", "(III)I"⟩, 41), (⟨"MomentTextsModel", "readPlain", "()V"⟩, 41), (⟨"MomentTextsModel", "clearPart", "(I)V"⟩, 41), (⟨"MomentTextsModel", "set", "(IJ)V"⟩, 41), (⟨"MomentTextsModel", "dateNumber", "(II)V"⟩, 41), (⟨"MomentTextsModel", "timeNumber", "(I)V"⟩, 41), (⟨"MomentTextsModel", "part", "()J"⟩, 41), (⟨"MomentTextsModel", "readDate", "(Z)V"⟩, 41), (⟨"MomentTextsModel", "get", "(I)J"⟩, 41)]
theorem lw_r3 : ∀ q ∈ lw_privs_3, lw_okq q := List.forall_mem_cons.mpr ⟨lw_p32, List.forall_mem_cons.mpr ⟨lw_p33, List.forall_mem_cons.mpr ⟨lw_p34, List.forall_mem_cons.mpr ⟨lw_p35, List.forall_mem_cons.mpr ⟨lw_p36, List.forall_mem_cons.mpr ⟨lw_p37, List.forall_mem_cons.mpr ⟨lw_p38, List.forall_mem_cons.mpr ⟨lw_p39, List.forall_mem_cons.mpr ⟨lw_p40, List.forall_mem_cons.mpr ⟨lw_p41, List.forall_mem_cons.mpr ⟨lw_p42, List.forall_mem_cons.mpr ⟨lw_p43, List.forall_mem_cons.mpr ⟨lw_p44, List.forall_mem_cons.mpr ⟨lw_p45, List.forall_mem_cons.mpr ⟨lw_p46, List.forall_mem_cons.mpr ⟨lw_p47, fun _ h => absurd h List.not_mem_nil⟩⟩⟩⟩⟩⟩⟩⟩⟩⟩⟩⟩⟩⟩⟩⟩
theorem lw_p48 : lw_okq (⟨"MomentTextsModel", "readTime", "(I)V"⟩, 41) := ⟨⟨by decide +kernel, by decide +kernel⟩, List.mem_of_getElem? (i := 1327) (by decide +kernel), List.mem_of_getElem? (i := 1776) (by decide +kernel), List.mem_of_getElem? (i := 1777) (by decide +kernel)⟩
theorem lw_p49 : lw_okq (⟨"MomentTextsModel", "readBoth", "()V"⟩, 41) := ⟨⟨by decide +kernel, by decide +kernel⟩, List.mem_of_getElem? (i := 1327) (by decide +kernel), List.mem_of_getElem? (i := 1780) (by decide +kernel), List.mem_of_getElem? (i := 1781) (by decide +kernel)⟩
theorem lw_p50 : lw_okq (⟨"MomentTextsModel", "readDuration", "()V"⟩, 41) := ⟨⟨by decide +kernel, by decide +kernel⟩, List.mem_of_getElem? (i := 1327) (by decide +kernel), List.mem_of_getElem? (i := 1784) (by decide +kernel), List.mem_of_getElem? (i := 1785) (by decide +kernel)⟩
theorem lw_p51 : lw_okq (⟨"MomentTextsModel", "readInterval", "()V"⟩, 41) := ⟨⟨by decide +kernel, by decide +kernel⟩, List.mem_of_getElem? (i := 1327) (by decide +kernel), List.mem_of_getElem? (i := 1791) (by decide +kernel), List.mem_of_getElem? (i := 1792) (by decide +kernel)⟩
theorem lw_p52 : lw_okq (⟨"MomentTextsModel", "lookAtDate", "()V"⟩, 41) := ⟨⟨by decide +kernel, by decide +kernel⟩, List.mem_of_getElem? (i := 1327) (by decide +kernel), List.mem_of_getElem? (i := 1795) (by decide +kernel), List.mem_of_getElem? (i := 1796) (by decide +kernel)⟩
theorem lw_p53 : lw_okq (⟨"MomentTextsModel", "lookAtTime", "()V"⟩, 41) := ⟨⟨by decide +kernel, by decide +kernel⟩, List.mem_of_getElem? (i := 1327) (by decide +kernel), List.mem_of_getElem? (i := 1800) (by decide +kernel), List.mem_of_getElem? (i := 1801) (by decide +kernel)⟩
theorem lw_p54 : lw_okq (⟨"MomentTextsModel", "offsetOfPart", "()J"⟩, 41) := ⟨⟨by decide +kernel, by decide +kernel⟩, List.mem_of_getElem? (i := 1327) (by decide +kernel), List.mem_of_getElem? (i := 1807) (by decide +kernel), List.mem_of_getElem? (i := 1808) (by decide +kernel)⟩
theorem lw_p55 : lw_okq (⟨"MomentTextsModel", "fillPart", "()V"⟩, 41) := ⟨⟨by decide +kernel, by decide +kernel⟩, List.mem_of_getElem? (i := 1327) (by decide +kernel), List.mem_of_getElem? (i := 1811) (by decide +kernel), List.mem_of_getElem? (i := 1812) (by decide +kernel)⟩
theorem lw_p56 : lw_okq (⟨"MomentTextsModel", "field0", "(IJ)V"⟩, 41) := ⟨⟨by decide +kernel, by decide +kernel⟩, List.mem_of_getElem? (i := 1327) (by decide +kernel), List.mem_of_getElem? (i := 1815) (by decide +kernel), List.mem_of_getElem? (i := 1816) (by decide +kernel)⟩
theorem lw_p57 : lw_okq (⟨"MomentTextsModel", "putYear", "(J)Z"⟩, 41) := ⟨⟨by decide +kernel, by decide +kernel⟩, List.mem_of_getElem? (i := 1327) (by decide +kernel), List.mem_of_getElem? (i := 1842) (by decide +kernel), List.mem_of_getElem? (i := 1843) (by decide +kernel)⟩
theorem lw_p58 : lw_okq (⟨"MomentTextsModel", "putNumber", "(JI)V"⟩, 41) := ⟨⟨by decide +kernel, by decide +kernel⟩, List.mem_of_getElem? (i := 1327) (by decide +kernel), List.mem_of_getElem? (i := 1847) (by decide +kernel), List.mem_of_getElem? (i := 1848) (by decide +kernel)⟩
theorem lw_p59 : lw_okq (⟨"MomentTextsModel", "put", "(I)V"⟩, 41) := ⟨⟨by decide +kernel, by decide +kernel⟩, List.mem_of_getElem? (i := 1327) (by decide +kernel), List.mem_of_getElem? (i := 1851) (by decide +kernel), List.mem_of_getElem? (i := 1852) (by decide +kernel)⟩
theorem lw_p60 : lw_okq (⟨"MomentTextsModel", "putPart", "(II)V"⟩, 41) := ⟨⟨by decide +kernel, by decide +kernel⟩, List.mem_of_getElem? (i := 1327) (by decide +kernel), List.mem_of_getElem? (i := 1860) (by decide +kernel), List.mem_of_getElem? (i := 1861) (by decide +kernel)⟩
theorem lw_p61 : lw_okq (⟨"MomentTextsModel", "putCount", "(JI)V"⟩, 41) := ⟨⟨by decide +kernel, by decide +kernel⟩, List.mem_of_getElem? (i := 1327) (by decide +kernel), List.mem_of_getElem? (i := 1869) (by decide +kernel), List.mem_of_getElem? (i := 1870) (by decide +kernel)⟩
theorem lw_p62 : lw_okq (⟨"MomentTextsModel", "putPlain", "(J)V"⟩, 41) := ⟨⟨by decide +kernel, by decide +kernel⟩, List.mem_of_getElem? (i := 1327) (by decide +kernel), List.mem_of_getElem? (i := 1873) (by decide +kernel), List.mem_of_getElem? (i := 1874) (by decide +kernel)⟩
def lw_privs_4 : List (MethodName × Nat) := [(⟨"MomentTextsModel", "readTime", "(I)V"⟩, 41), (⟨"MomentTextsModel", "readBoth", "()V"⟩, 41), (⟨"MomentTextsModel", "readDuration", "()V"⟩, 41), (⟨"MomentTextsModel", "readInterval", "()V"⟩, 41), (⟨"MomentTextsModel", "lookAtDate", "()V"⟩, 41), (⟨"MomentTextsModel", "lookAtTime", "()V"⟩, 41), (⟨"MomentTextsModel", "offsetOfPart", "()J"⟩, 41), (⟨"MomentTextsModel", "fillPart", "()V"⟩, 41), (⟨"MomentTextsModel", "field0", "(IJ)V"⟩, 41), (⟨"MomentTextsModel", "putYear", "(J)Z"⟩, 41), (⟨"MomentTextsModel", "putNumber", "(JI)V"⟩, 41), (⟨"MomentTextsModel", "put", "(I)V"⟩, 41), (⟨"MomentTextsModel", "putPart", "(II)V"⟩, 41), (⟨"MomentTextsModel", "putCount", "(JI)V"⟩, 41), (⟨"MomentTextsModel", "putPlain", "(J)V"⟩, 41)]
theorem lw_r4 : ∀ q ∈ lw_privs_4, lw_okq q := List.forall_mem_cons.mpr ⟨lw_p48, List.forall_mem_cons.mpr ⟨lw_p49, List.forall_mem_cons.mpr ⟨lw_p50, List.forall_mem_cons.mpr ⟨lw_p51, List.forall_mem_cons.mpr ⟨lw_p52, List.forall_mem_cons.mpr ⟨lw_p53, List.forall_mem_cons.mpr ⟨lw_p54, List.forall_mem_cons.mpr ⟨lw_p55, List.forall_mem_cons.mpr ⟨lw_p56, List.forall_mem_cons.mpr ⟨lw_p57, List.forall_mem_cons.mpr ⟨lw_p58, List.forall_mem_cons.mpr ⟨lw_p59, List.forall_mem_cons.mpr ⟨lw_p60, List.forall_mem_cons.mpr ⟨lw_p61, List.forall_mem_cons.mpr ⟨lw_p62, fun _ h => absurd h List.not_mem_nil⟩⟩⟩⟩⟩⟩⟩⟩⟩⟩⟩⟩⟩⟩⟩
def lw_privs : List (MethodName × Nat) := lw_privs_1 ++ (lw_privs_2 ++ (lw_privs_3 ++ (lw_privs_4)))
def lw_tbl : List Cond := k2_sels lw_privs ++ tables_1
theorem lw_privs_ok : ∀ q ∈ lw_privs, lw_okq q := by
  show ∀ q ∈ lw_privs_1 ++ (lw_privs_2 ++ (lw_privs_3 ++ (lw_privs_4))), lw_okq q
  exact List.forall_mem_append.mpr ⟨lw_r1, List.forall_mem_append.mpr ⟨lw_r2, List.forall_mem_append.mpr ⟨lw_r3, lw_r4⟩⟩⟩
end
section
def RX0 : String := "MomentTexts$Cursor"
def TX0 : u_T := fun k => match k with
  | 0 => ("MomentTexts$Cursor", "bytes", "[B", true)
  | 1 => ("MomentTexts$Cursor", "length", "I", false)
  | 2 => ("MomentTexts$Cursor", "at", "I", false)
  | 3 => ("MomentTexts$Cursor", "broken", "Z", false)
  | _ => ("MomentTexts$Cursor", "wrong", "I", false)
def tyX0 : Nat → FieldType := fun k => match k with
  | 0 => .array .byte
  | 1 => .int
  | 2 => .int
  | 3 => .boolean
  | _ => .int
abbrev wsX00 : List Cond := u_ws RX0 TX0 5
theorem nmX0 : ∀ a, a < 5 → ∀ b, b < 5 → a ≠ b → (TX0 a).2.1 ≠ (TX0 b).2.1 := by decide +kernel
theorem tyX0_ok : ∀ k, k < 5 → parseFieldDescriptor (TX0 k).2.2.1 = some (tyX0 k) := by decide +kernel
abbrev cX0_init : ByteArray := prog_2_method_1_code
def yX0_init : MethodName := ⟨RX0, "<init>", "()V"⟩
abbrev cX0_append : ByteArray := prog_2_method_2_code
def yX0_append : MethodName := ⟨RX0, "append", "(B)V"⟩
abbrev cX0_start : ByteArray := prog_2_method_3_code
def yX0_start : MethodName := ⟨RX0, "start", "()V"⟩
abbrev cX0_look : ByteArray := prog_2_method_4_code
def yX0_look : MethodName := ⟨RX0, "look", "()I"⟩
abbrev cX0_isAt : ByteArray := prog_2_method_5_code
def yX0_isAt : MethodName := ⟨RX0, "isAt", "(I)Z"⟩
abbrev cX0_atEnd : ByteArray := prog_2_method_6_code
def yX0_atEnd : MethodName := ⟨RX0, "atEnd", "()Z"⟩
abbrev cX0_atDigit : ByteArray := prog_2_method_7_code
def yX0_atDigit : MethodName := ⟨RX0, "atDigit", "()Z"⟩
abbrev cX0_digit : ByteArray := prog_2_method_8_code
def yX0_digit : MethodName := ⟨RX0, "digit", "()I"⟩
abbrev cX0_atLetter : ByteArray := prog_2_method_9_code
def yX0_atLetter : MethodName := ⟨RX0, "atLetter", "()Z"⟩
abbrev cX0_atNameSign : ByteArray := prog_2_method_10_code
def yX0_atNameSign : MethodName := ⟨RX0, "atNameSign", "()Z"⟩
abbrev cX0_skip : ByteArray := prog_2_method_11_code
def yX0_skip : MethodName := ⟨RX0, "skip", "()V"⟩
abbrev cX0_take : ByteArray := prog_2_method_12_code
def yX0_take : MethodName := ⟨RX0, "take", "(I)Z"⟩
abbrev cX0_need : ByteArray := prog_2_method_13_code
def yX0_need : MethodName := ⟨RX0, "need", "(I)V"⟩
abbrev cX0_needEnd : ByteArray := prog_2_method_14_code
def yX0_needEnd : MethodName := ⟨RX0, "needEnd", "()V"⟩
abbrev cX0_fail : ByteArray := prog_2_method_15_code
def yX0_fail : MethodName := ⟨RX0, "fail", "()V"⟩
abbrev cX0_blame : ByteArray := prog_2_method_16_code
def yX0_blame : MethodName := ⟨RX0, "blame", "(I)J"⟩
abbrev cX0_isGood : ByteArray := prog_2_method_17_code
def yX0_isGood : MethodName := ⟨RX0, "isGood", "()Z"⟩
abbrev cX0_verdict : ByteArray := prog_2_method_18_code
def yX0_verdict : MethodName := ⟨RX0, "verdict", "()J"⟩
abbrev cX0_number : ByteArray := prog_2_method_19_code
def yX0_number : MethodName := ⟨RX0, "number", "(II)I"⟩
abbrev cX0_numberIn : ByteArray := prog_2_method_20_code
def yX0_numberIn : MethodName := ⟨RX0, "numberIn", "(IIII)I"⟩
abbrev cX0_part : ByteArray := prog_2_method_21_code
def yX0_part : MethodName := ⟨RX0, "part", "()I"⟩
abbrev cX0_clock : ByteArray := prog_2_method_22_code
def yX0_clock : MethodName := ⟨RX0, "clock", "(I)I"⟩
def RX1 : String := "MomentTexts$DateText"
def TX1 : u_T := fun k => match k with
  | 0 => ("MomentTexts$DateText", "kind", "I", false)
  | 1 => ("MomentTexts$DateText", "dashed", "Z", false)
  | 2 => ("MomentTexts$DateText", "yearAt", "I", false)
  | 3 => ("MomentTexts$DateText", "signed", "Z", false)
  | 4 => ("MomentTexts$DateText", "negative", "Z", false)
  | 5 => ("MomentTexts$DateText", "year", "I", false)
  | 6 => ("MomentTexts$DateText", "middleAt", "I", false)
  | 7 => ("MomentTexts$DateText", "middle", "I", false)
  | 8 => ("MomentTexts$DateText", "lastAt", "I", false)
  | _ => ("MomentTexts$DateText", "last", "I", false)
def tyX1 : Nat → FieldType := fun k => match k with
  | 0 => .int
  | 1 => .boolean
  | 2 => .int
  | 3 => .boolean
  | 4 => .boolean
  | 5 => .int
  | 6 => .int
  | 7 => .int
  | 8 => .int
  | _ => .int
abbrev wsX10 : List Cond := u_ws RX1 TX1 10
theorem nmX1 : ∀ a, a < 10 → ∀ b, b < 10 → a ≠ b → (TX1 a).2.1 ≠ (TX1 b).2.1 := by decide +kernel
theorem tyX1_ok : ∀ k, k < 10 → parseFieldDescriptor (TX1 k).2.2.1 = some (tyX1 k) := by decide +kernel
abbrev cX1_init : ByteArray := prog_3_method_1_code
def yX1_init : MethodName := ⟨RX1, "<init>", "()V"⟩
abbrev cX1_scan : ByteArray := prog_3_method_2_code
def yX1_scan : MethodName := ⟨RX1, "scan", "(LMomentTexts$Cursor;Z)V"⟩
abbrev cX1_scanFull : ByteArray := prog_3_method_3_code
def yX1_scanFull : MethodName := ⟨RX1, "scanFull", "(LMomentTexts$Cursor;)V"⟩
abbrev cX1_scanYear : ByteArray := prog_3_method_4_code
def yX1_scanYear : MethodName := ⟨RX1, "scanYear", "(LMomentTexts$Cursor;)V"⟩
abbrev cX1_scanDashed : ByteArray := prog_3_method_5_code
def yX1_scanDashed : MethodName := ⟨RX1, "scanDashed", "(LMomentTexts$Cursor;Z)V"⟩
abbrev cX1_scanWeek : ByteArray := prog_3_method_6_code
def yX1_scanWeek : MethodName := ⟨RX1, "scanWeek", "(LMomentTexts$Cursor;Z)V"⟩
abbrev cX1_scanPlain : ByteArray := prog_3_method_7_code
def yX1_scanPlain : MethodName := ⟨RX1, "scanPlain", "(LMomentTexts$Cursor;)V"⟩
abbrev cX1_endShort : ByteArray := prog_3_method_8_code
def yX1_endShort : MethodName := ⟨RX1, "endShort", "(LMomentTexts$Cursor;IZ)V"⟩
abbrev cX1_settle : ByteArray := prog_3_method_9_code
def yX1_settle : MethodName := ⟨RX1, "settle", "(LMomentTexts$Cursor;)J"⟩
abbrev cX1_settleWeek : ByteArray := prog_3_method_10_code
def yX1_settleWeek : MethodName := ⟨RX1, "settleWeek", "(LMomentTexts$Cursor;I)J"⟩
def RX2 : String := "MomentTexts$Days"
def TX2 : u_T := fun k => match k with
  | _ => ("", "", "", false)
def tyX2 : Nat → FieldType := fun k => match k with
  | _ => .int
abbrev wsX20 : List Cond := u_ws RX2 TX2 0
theorem nmX2 : ∀ a, a < 0 → ∀ b, b < 0 → a ≠ b → (TX2 a).2.1 ≠ (TX2 b).2.1 := by decide +kernel
theorem tyX2_ok : ∀ k, k < 0 → parseFieldDescriptor (TX2 k).2.2.1 = some (tyX2 k) := by decide +kernel
abbrev cX2_holds : ByteArray := prog_4_method_2_code
def yX2_holds : MethodName := ⟨RX2, "holds", "(J)Z"⟩
abbrev cX2_holdsMinute : ByteArray := prog_4_method_3_code
def yX2_holdsMinute : MethodName := ⟨RX2, "holdsMinute", "(J)Z"⟩
abbrev cX2_holdsYear : ByteArray := prog_4_method_4_code
def yX2_holdsYear : MethodName := ⟨RX2, "holdsYear", "(I)Z"⟩
abbrev cX2_isLeapYear : ByteArray := prog_4_method_5_code
def yX2_isLeapYear : MethodName := ⟨RX2, "isLeapYear", "(I)Z"⟩
abbrev cX2_yearLength : ByteArray := prog_4_method_6_code
def yX2_yearLength : MethodName := ⟨RX2, "yearLength", "(I)I"⟩
abbrev cX2_monthLength : ByteArray := prog_4_method_7_code
def yX2_monthLength : MethodName := ⟨RX2, "monthLength", "(II)I"⟩
abbrev cX2_yearStart : ByteArray := prog_4_method_8_code
def yX2_yearStart : MethodName := ⟨RX2, "yearStart", "(I)J"⟩
abbrev cX2_yearOf : ByteArray := prog_4_method_9_code
def yX2_yearOf : MethodName := ⟨RX2, "yearOf", "(J)I"⟩
abbrev cX2_numberOf : ByteArray := prog_4_method_10_code
def yX2_numberOf : MethodName := ⟨RX2, "numberOf", "(III)J"⟩
abbrev cX2_monthOf : ByteArray := prog_4_method_11_code
def yX2_monthOf : MethodName := ⟨RX2, "monthOf", "(J)I"⟩
abbrev cX2_dayOfMonth : ByteArray := prog_4_method_12_code
def yX2_dayOfMonth : MethodName := ⟨RX2, "dayOfMonth", "(J)I"⟩
abbrev cX2_monthNumber : ByteArray := prog_4_method_13_code
def yX2_monthNumber : MethodName := ⟨RX2, "monthNumber", "(J)I"⟩
abbrev cX2_monthsLater : ByteArray := prog_4_method_14_code
def yX2_monthsLater : MethodName := ⟨RX2, "monthsLater", "(JI)J"⟩
abbrev cX2_monthsApart : ByteArray := prog_4_method_15_code
def yX2_monthsApart : MethodName := ⟨RX2, "monthsApart", "(JJ)I"⟩
abbrev cX2_daysApart : ByteArray := prog_4_method_16_code
def yX2_daysApart : MethodName := ⟨RX2, "daysApart", "(JIJ)I"⟩
abbrev cX2_weekdayOf : ByteArray := prog_4_method_17_code
def yX2_weekdayOf : MethodName := ⟨RX2, "weekdayOf", "(J)I"⟩
abbrev cX2_thursdayOf : ByteArray := prog_4_method_18_code
def yX2_thursdayOf : MethodName := ⟨RX2, "thursdayOf", "(J)J"⟩
abbrev cX2_weekYearOf : ByteArray := prog_4_method_19_code
def yX2_weekYearOf : MethodName := ⟨RX2, "weekYearOf", "(J)I"⟩
abbrev cX2_weekOf : ByteArray := prog_4_method_20_code
def yX2_weekOf : MethodName := ⟨RX2, "weekOf", "(J)I"⟩
abbrev cX2_weeksOf : ByteArray := prog_4_method_21_code
def yX2_weeksOf : MethodName := ⟨RX2, "weeksOf", "(I)I"⟩
abbrev cX2_weekStart : ByteArray := prog_4_method_22_code
def yX2_weekStart : MethodName := ⟨RX2, "weekStart", "(II)J"⟩
abbrev cX2_easterOf : ByteArray := prog_4_method_23_code
def yX2_easterOf : MethodName := ⟨RX2, "easterOf", "(I)J"⟩
def RX3 : String := "MomentTexts$DurationText"
def TX3 : u_T := fun k => match k with
  | 0 => ("MomentTexts$DurationText", "months", "J", false)
  | 1 => ("MomentTexts$DurationText", "days", "J", false)
  | 2 => ("MomentTexts$DurationText", "seconds", "J", false)
  | 3 => ("MomentTexts$DurationText", "nanos", "J", false)
  | _ => ("MomentTexts$DurationText", "ended", "Z", false)
def tyX3 : Nat → FieldType := fun k => match k with
  | 0 => .long
  | 1 => .long
  | 2 => .long
  | 3 => .long
  | _ => .boolean
abbrev wsX30 : List Cond := u_ws RX3 TX3 5
theorem nmX3 : ∀ a, a < 5 → ∀ b, b < 5 → a ≠ b → (TX3 a).2.1 ≠ (TX3 b).2.1 := by decide +kernel
theorem tyX3_ok : ∀ k, k < 5 → parseFieldDescriptor (TX3 k).2.2.1 = some (tyX3 k) := by decide +kernel
abbrev cX3_init : ByteArray := prog_5_method_1_code
def yX3_init : MethodName := ⟨RX3, "<init>", "()V"⟩
abbrev cX3_scan : ByteArray := prog_5_method_2_code
def yX3_scan : MethodName := ⟨RX3, "scan", "(LMomentTexts$Cursor;)V"⟩
abbrev cX3_scanNumber : ByteArray := prog_5_method_3_code
def yX3_scanNumber : MethodName := ⟨RX3, "scanNumber", "(LMomentTexts$Cursor;II)I"⟩
abbrev cX3_add : ByteArray := prog_5_method_4_code
def yX3_add : MethodName := ⟨RX3, "add", "(LMomentTexts$Cursor;IIII)V"⟩
def RX4 : String := "MomentTexts$FormReader"
def TX4 : u_T := fun k => match k with
  | 0 => ("MomentTexts$FormReader", "c", "LMomentTexts$Cursor;", true)
  | 1 => ("MomentTexts$FormReader", "leaps", "LMomentTexts$Leaps;", true)
  | 2 => ("MomentTexts$FormReader", "date", "LMomentTexts$DateText;", true)
  | 3 => ("MomentTexts$FormReader", "time", "LMomentTexts$TimeText;", true)
  | 4 => ("MomentTexts$FormReader", "duration", "LMomentTexts$DurationText;", true)
  | _ => ("MomentTexts$FormReader", "staged", "[J", true)
def tyX4 : Nat → FieldType := fun k => match k with
  | 0 => .object "MomentTexts$Cursor"
  | 1 => .object "MomentTexts$Leaps"
  | 2 => .object "MomentTexts$DateText"
  | 3 => .object "MomentTexts$TimeText"
  | 4 => .object "MomentTexts$DurationText"
  | _ => .array .long
abbrev wsX40 : List Cond := u_ws RX4 TX4 6
theorem nmX4 : ∀ a, a < 6 → ∀ b, b < 6 → a ≠ b → (TX4 a).2.1 ≠ (TX4 b).2.1 := by decide +kernel
theorem tyX4_ok : ∀ k, k < 6 → parseFieldDescriptor (TX4 k).2.2.1 = some (tyX4 k) := by decide +kernel
abbrev cX4_init : ByteArray := prog_6_method_1_code
def yX4_init : MethodName := ⟨RX4, "<init>", "(LMomentTexts$Cursor;LMomentTexts$Leaps;)V"⟩
abbrev cX4_start : ByteArray := prog_6_method_2_code
def yX4_start : MethodName := ⟨RX4, "start", "()V"⟩
abbrev cX4_scanStamp : ByteArray := prog_6_method_3_code
def yX4_scanStamp : MethodName := ⟨RX4, "scanStamp", "()V"⟩
abbrev cX4_scanDate : ByteArray := prog_6_method_4_code
def yX4_scanDate : MethodName := ⟨RX4, "scanDate", "()V"⟩
abbrev cX4_scanTime : ByteArray := prog_6_method_5_code
def yX4_scanTime : MethodName := ⟨RX4, "scanTime", "()V"⟩
abbrev cX4_scanMoment : ByteArray := prog_6_method_6_code
def yX4_scanMoment : MethodName := ⟨RX4, "scanMoment", "(I)V"⟩
abbrev cX4_scanDuration : ByteArray := prog_6_method_7_code
def yX4_scanDuration : MethodName := ⟨RX4, "scanDuration", "(I)V"⟩
abbrev cX4_scanInterval : ByteArray := prog_6_method_8_code
def yX4_scanInterval : MethodName := ⟨RX4, "scanInterval", "()V"⟩
abbrev cX4_scanCount : ByteArray := prog_6_method_9_code
def yX4_scanCount : MethodName := ⟨RX4, "scanCount", "()V"⟩
abbrev cX4_stageMoment : ByteArray := prog_6_method_10_code
def yX4_stageMoment : MethodName := ⟨RX4, "stageMoment", "(IIJ)V"⟩
abbrev cX4_stageTime : ByteArray := prog_6_method_11_code
def yX4_stageTime : MethodName := ⟨RX4, "stageTime", "(IIJ)V"⟩
abbrev cX4_put : ByteArray := prog_6_method_12_code
def yX4_put : MethodName := ⟨RX4, "put", "(IIJ)V"⟩
def RX5 : String := "MomentTexts$Leaps"
def TX5 : u_T := fun k => match k with
  | 0 => ("MomentTexts$Leaps", "days", "[J", true)
  | _ => ("MomentTexts$Leaps", "count", "I", false)
def tyX5 : Nat → FieldType := fun k => match k with
  | 0 => .array .long
  | _ => .int
abbrev wsX50 : List Cond := u_ws RX5 TX5 2
theorem nmX5 : ∀ a, a < 2 → ∀ b, b < 2 → a ≠ b → (TX5 a).2.1 ≠ (TX5 b).2.1 := by decide +kernel
theorem tyX5_ok : ∀ k, k < 2 → parseFieldDescriptor (TX5 k).2.2.1 = some (tyX5 k) := by decide +kernel
abbrev cX5_init : ByteArray := prog_7_method_1_code
def yX5_init : MethodName := ⟨RX5, "<init>", "()V"⟩
abbrev cX5_has : ByteArray := prog_7_method_2_code
def yX5_has : MethodName := ⟨RX5, "has", "(J)Z"⟩
abbrev cX5_isFull : ByteArray := prog_7_method_3_code
def yX5_isFull : MethodName := ⟨RX5, "isFull", "()Z"⟩
abbrev cX5_add : ByteArray := prog_7_method_4_code
def yX5_add : MethodName := ⟨RX5, "add", "(J)I"⟩
abbrev cX5_secondsTo : ByteArray := prog_7_method_5_code
def yX5_secondsTo : MethodName := ⟨RX5, "secondsTo", "(J)I"⟩
abbrev cX5_startOf : ByteArray := prog_7_method_6_code
def yX5_startOf : MethodName := ⟨RX5, "startOf", "(J)J"⟩
abbrev cX5_holds : ByteArray := prog_7_method_7_code
def yX5_holds : MethodName := ⟨RX5, "holds", "(J)Z"⟩
abbrev cX5_lastSecondOf : ByteArray := prog_7_method_8_code
def yX5_lastSecondOf : MethodName := ⟨RX5, "lastSecondOf", "(J)I"⟩
abbrev cX5_instantOf : ByteArray := prog_7_method_9_code
def yX5_instantOf : MethodName := ⟨RX5, "instantOf", "(JI)J"⟩
abbrev cX5_minuteAt : ByteArray := prog_7_method_10_code
def yX5_minuteAt : MethodName := ⟨RX5, "minuteAt", "(J)J"⟩
abbrev cX5_secondAt : ByteArray := prog_7_method_11_code
def yX5_secondAt : MethodName := ⟨RX5, "secondAt", "(J)I"⟩
def RX6 : String := "MomentTexts$Rule"
def TX6 : u_T := fun k => match k with
  | 0 => ("MomentTexts$Rule", "names", "I", false)
  | 1 => ("MomentTexts$Rule", "first", "I", false)
  | 2 => ("MomentTexts$Rule", "second", "I", false)
  | 3 => ("MomentTexts$Rule", "from", "LMomentTexts$RuleDate;", true)
  | 4 => ("MomentTexts$Rule", "to", "LMomentTexts$RuleDate;", true)
  | 5 => ("MomentTexts$Rule", "turned", "Z", false)
  | 6 => ("MomentTexts$Rule", "year", "I", false)
  | 7 => ("MomentTexts$Rule", "yearMinute", "J", false)
  | 8 => ("MomentTexts$Rule", "yearEndMinute", "J", false)
  | 9 => ("MomentTexts$Rule", "fromMinute", "J", false)
  | _ => ("MomentTexts$Rule", "toMinute", "J", false)
def tyX6 : Nat → FieldType := fun k => match k with
  | 0 => .int
  | 1 => .int
  | 2 => .int
  | 3 => .object "MomentTexts$RuleDate"
  | 4 => .object "MomentTexts$RuleDate"
  | 5 => .boolean
  | 6 => .int
  | 7 => .long
  | 8 => .long
  | 9 => .long
  | _ => .long
abbrev wsX60 : List Cond := u_ws RX6 TX6 11
theorem nmX6 : ∀ a, a < 11 → ∀ b, b < 11 → a ≠ b → (TX6 a).2.1 ≠ (TX6 b).2.1 := by decide +kernel
theorem tyX6_ok : ∀ k, k < 11 → parseFieldDescriptor (TX6 k).2.2.1 = some (tyX6 k) := by decide +kernel
abbrev cX6_init : ByteArray := prog_8_method_1_code
def yX6_init : MethodName := ⟨RX6, "<init>", "()V"⟩
abbrev cX6_copy : ByteArray := prog_8_method_2_code
def yX6_copy : MethodName := ⟨RX6, "copy", "(LMomentTexts$Rule;)V"⟩
abbrev cX6_scan : ByteArray := prog_8_method_3_code
def yX6_scan : MethodName := ⟨RX6, "scan", "(LMomentTexts$Cursor;)J"⟩
abbrev cX6_scanName : ByteArray := prog_8_method_4_code
def yX6_scanName : MethodName := ⟨RX6, "scanName", "(LMomentTexts$Cursor;)V"⟩
abbrev cX6_scanSign : ByteArray := prog_8_method_5_code
def yX6_scanSign : MethodName := ⟨RX6, "scanSign", "(LMomentTexts$Cursor;)I"⟩
abbrev cX6_scanSecondOffset : ByteArray := prog_8_method_6_code
def yX6_scanSecondOffset : MethodName := ⟨RX6, "scanSecondOffset", "(LMomentTexts$Cursor;I)V"⟩
abbrev cX6_turnTo : ByteArray := prog_8_method_7_code
def yX6_turnTo : MethodName := ⟨RX6, "turnTo", "(I)V"⟩
abbrev cX6_offsetAt : ByteArray := prog_8_method_8_code
def yX6_offsetAt : MethodName := ⟨RX6, "offsetAt", "(J)I"⟩
abbrev cX6_offsetInYear : ByteArray := prog_8_method_9_code
def yX6_offsetInYear : MethodName := ⟨RX6, "offsetInYear", "(J)I"⟩
abbrev cX6_changeBehind : ByteArray := prog_8_method_10_code
def yX6_changeBehind : MethodName := ⟨RX6, "changeBehind", "(J)J"⟩
abbrev cX6_edgeOf : ByteArray := prog_8_method_11_code
def yX6_edgeOf : MethodName := ⟨RX6, "edgeOf", "(I)J"⟩
def RX7 : String := "MomentTexts$RuleDate"
def TX7 : u_T := fun k => match k with
  | 0 => ("MomentTexts$RuleDate", "kind", "I", false)
  | 1 => ("MomentTexts$RuleDate", "number", "I", false)
  | 2 => ("MomentTexts$RuleDate", "week", "I", false)
  | 3 => ("MomentTexts$RuleDate", "weekday", "I", false)
  | _ => ("MomentTexts$RuleDate", "minute", "I", false)
def tyX7 : Nat → FieldType := fun k => match k with
  | 0 => .int
  | 1 => .int
  | 2 => .int
  | 3 => .int
  | _ => .int
abbrev wsX70 : List Cond := u_ws RX7 TX7 5
theorem nmX7 : ∀ a, a < 5 → ∀ b, b < 5 → a ≠ b → (TX7 a).2.1 ≠ (TX7 b).2.1 := by decide +kernel
theorem tyX7_ok : ∀ k, k < 5 → parseFieldDescriptor (TX7 k).2.2.1 = some (tyX7 k) := by decide +kernel
abbrev cX7_init : ByteArray := prog_9_method_1_code
def yX7_init : MethodName := ⟨RX7, "<init>", "()V"⟩
abbrev cX7_copy : ByteArray := prog_9_method_2_code
def yX7_copy : MethodName := ⟨RX7, "copy", "(LMomentTexts$RuleDate;)V"⟩
abbrev cX7_scan : ByteArray := prog_9_method_3_code
def yX7_scan : MethodName := ⟨RX7, "scan", "(LMomentTexts$Cursor;)V"⟩
abbrev cX7_minuteOf : ByteArray := prog_9_method_4_code
def yX7_minuteOf : MethodName := ⟨RX7, "minuteOf", "(JZ)J"⟩
def RX8 : String := "MomentTexts$TimeText"
def TX8 : u_T := fun k => match k with
  | 0 => ("MomentTexts$TimeText", "hoursAt", "I", false)
  | 1 => ("MomentTexts$TimeText", "hours", "I", false)
  | 2 => ("MomentTexts$TimeText", "minutesAt", "I", false)
  | 3 => ("MomentTexts$TimeText", "minutes", "I", false)
  | 4 => ("MomentTexts$TimeText", "secondsAt", "I", false)
  | 5 => ("MomentTexts$TimeText", "seconds", "I", false)
  | 6 => ("MomentTexts$TimeText", "part", "I", false)
  | 7 => ("MomentTexts$TimeText", "unit", "I", false)
  | 8 => ("MomentTexts$TimeText", "manner", "I", false)
  | 9 => ("MomentTexts$TimeText", "negative", "Z", false)
  | 10 => ("MomentTexts$TimeText", "offsetHoursAt", "I", false)
  | 11 => ("MomentTexts$TimeText", "offsetHours", "I", false)
  | 12 => ("MomentTexts$TimeText", "offsetMinutesAt", "I", false)
  | _ => ("MomentTexts$TimeText", "offsetMinutes", "I", false)
def tyX8 : Nat → FieldType := fun k => match k with
  | 0 => .int
  | 1 => .int
  | 2 => .int
  | 3 => .int
  | 4 => .int
  | 5 => .int
  | 6 => .int
  | 7 => .int
  | 8 => .int
  | 9 => .boolean
  | 10 => .int
  | 11 => .int
  | 12 => .int
  | _ => .int
abbrev wsX80 : List Cond := u_ws RX8 TX8 14
theorem nmX8 : ∀ a, a < 14 → ∀ b, b < 14 → a ≠ b → (TX8 a).2.1 ≠ (TX8 b).2.1 := by decide +kernel
theorem tyX8_ok : ∀ k, k < 14 → parseFieldDescriptor (TX8 k).2.2.1 = some (tyX8 k) := by decide +kernel
abbrev cX8_init : ByteArray := prog_10_method_1_code
def yX8_init : MethodName := ⟨RX8, "<init>", "()V"⟩
abbrev cX8_start : ByteArray := prog_10_method_2_code
def yX8_start : MethodName := ⟨RX8, "start", "(LMomentTexts$Cursor;)V"⟩
abbrev cX8_scan : ByteArray := prog_10_method_3_code
def yX8_scan : MethodName := ⟨RX8, "scan", "(LMomentTexts$Cursor;I)V"⟩
abbrev cX8_scanFull : ByteArray := prog_10_method_4_code
def yX8_scanFull : MethodName := ⟨RX8, "scanFull", "(LMomentTexts$Cursor;)V"⟩
abbrev cX8_scanMinutes : ByteArray := prog_10_method_5_code
def yX8_scanMinutes : MethodName := ⟨RX8, "scanMinutes", "(LMomentTexts$Cursor;)V"⟩
abbrev cX8_scanSeconds : ByteArray := prog_10_method_6_code
def yX8_scanSeconds : MethodName := ⟨RX8, "scanSeconds", "(LMomentTexts$Cursor;)V"⟩
abbrev cX8_scanOffset : ByteArray := prog_10_method_7_code
def yX8_scanOffset : MethodName := ⟨RX8, "scanOffset", "(LMomentTexts$Cursor;)V"⟩
abbrev cX8_scanOffsetMinutes : ByteArray := prog_10_method_8_code
def yX8_scanOffsetMinutes : MethodName := ⟨RX8, "scanOffsetMinutes", "(LMomentTexts$Cursor;)V"⟩
abbrev cX8_offsetTold : ByteArray := prog_10_method_9_code
def yX8_offsetTold : MethodName := ⟨RX8, "offsetTold", "()I"⟩
abbrev cX8_mannerTold : ByteArray := prog_10_method_10_code
def yX8_mannerTold : MethodName := ⟨RX8, "mannerTold", "()I"⟩
abbrev cX8_settle : ByteArray := prog_10_method_11_code
def yX8_settle : MethodName := ⟨RX8, "settle", "(LMomentTexts$Cursor;JLMomentTexts$Leaps;)V"⟩
abbrev cX8_partNanos : ByteArray := prog_10_method_12_code
def yX8_partNanos : MethodName := ⟨RX8, "partNanos", "()J"⟩
abbrev cX8_minuteOfDay : ByteArray := prog_10_method_13_code
def yX8_minuteOfDay : MethodName := ⟨RX8, "minuteOfDay", "()I"⟩
abbrev cX8_secondOfMinute : ByteArray := prog_10_method_14_code
def yX8_secondOfMinute : MethodName := ⟨RX8, "secondOfMinute", "()I"⟩
def RX9 : String := "MomentTexts$Writer"
def TX9 : u_T := fun k => match k with
  | 0 => ("MomentTexts$Writer", "bytes", "[B", true)
  | _ => ("MomentTexts$Writer", "length", "I", false)
def tyX9 : Nat → FieldType := fun k => match k with
  | 0 => .array .byte
  | _ => .int
abbrev wsX90 : List Cond := u_ws RX9 TX9 2
theorem nmX9 : ∀ a, a < 2 → ∀ b, b < 2 → a ≠ b → (TX9 a).2.1 ≠ (TX9 b).2.1 := by decide +kernel
theorem tyX9_ok : ∀ k, k < 2 → parseFieldDescriptor (TX9 k).2.2.1 = some (tyX9 k) := by decide +kernel
abbrev cX9_init : ByteArray := prog_11_method_1_code
def yX9_init : MethodName := ⟨RX9, "<init>", "()V"⟩
abbrev cX9_isPlainYear : ByteArray := prog_11_method_2_code
def yX9_isPlainYear : MethodName := ⟨RX9, "isPlainYear", "(I)Z"⟩
abbrev cX9_start : ByteArray := prog_11_method_3_code
def yX9_start : MethodName := ⟨RX9, "start", "()V"⟩
abbrev cX9_put : ByteArray := prog_11_method_4_code
def yX9_put : MethodName := ⟨RX9, "put", "(I)V"⟩
abbrev cX9_putDash : ByteArray := prog_11_method_5_code
def yX9_putDash : MethodName := ⟨RX9, "putDash", "(Z)V"⟩
abbrev cX9_putDigits : ByteArray := prog_11_method_6_code
def yX9_putDigits : MethodName := ⟨RX9, "putDigits", "(JI)V"⟩
abbrev cX9_putNumber : ByteArray := prog_11_method_7_code
def yX9_putNumber : MethodName := ⟨RX9, "putNumber", "(J)V"⟩
abbrev cX9_putYear : ByteArray := prog_11_method_8_code
def yX9_putYear : MethodName := ⟨RX9, "putYear", "(I)V"⟩
abbrev cX9_putMonthAndDay : ByteArray := prog_11_method_9_code
def yX9_putMonthAndDay : MethodName := ⟨RX9, "putMonthAndDay", "(JZ)V"⟩
abbrev cX9_putOrdinal : ByteArray := prog_11_method_10_code
def yX9_putOrdinal : MethodName := ⟨RX9, "putOrdinal", "(IZ)V"⟩
abbrev cX9_putWeek : ByteArray := prog_11_method_11_code
def yX9_putWeek : MethodName := ⟨RX9, "putWeek", "(JZ)V"⟩
abbrev cX9_putTime : ByteArray := prog_11_method_12_code
def yX9_putTime : MethodName := ⟨RX9, "putTime", "(II)V"⟩
abbrev cX9_putPart : ByteArray := prog_11_method_13_code
def yX9_putPart : MethodName := ⟨RX9, "putPart", "(II)V"⟩
abbrev cX9_putOffset : ByteArray := prog_11_method_14_code
def yX9_putOffset : MethodName := ⟨RX9, "putOffset", "(I)V"⟩
abbrev cX9_putCount : ByteArray := prog_11_method_15_code
def yX9_putCount : MethodName := ⟨RX9, "putCount", "(JC)V"⟩
abbrev cX9_putSeconds : ByteArray := prog_11_method_16_code
def yX9_putSeconds : MethodName := ⟨RX9, "putSeconds", "(JI)V"⟩
def RX10 : String := "MomentTexts$Zone"
def TX10 : u_T := fun k => match k with
  | 0 => ("MomentTexts$Zone", "first", "I", true)
  | 1 => ("MomentTexts$Zone", "leaps", "LMomentTexts$Leaps;", true)
  | 2 => ("MomentTexts$Zone", "instants", "[J", true)
  | 3 => ("MomentTexts$Zone", "offsets", "[I", true)
  | 4 => ("MomentTexts$Zone", "count", "I", false)
  | _ => ("MomentTexts$Zone", "rule", "LMomentTexts$Rule;", true)
def tyX10 : Nat → FieldType := fun k => match k with
  | 0 => .int
  | 1 => .object "MomentTexts$Leaps"
  | 2 => .array .long
  | 3 => .array .int
  | 4 => .int
  | _ => .object "MomentTexts$Rule"
abbrev wsX100 : List Cond := u_ws RX10 TX10 6
theorem nmX10 : ∀ a, a < 6 → ∀ b, b < 6 → a ≠ b → (TX10 a).2.1 ≠ (TX10 b).2.1 := by decide +kernel
theorem tyX10_ok : ∀ k, k < 6 → parseFieldDescriptor (TX10 k).2.2.1 = some (tyX10 k) := by decide +kernel
abbrev cX10_init : ByteArray := prog_12_method_1_code
def yX10_init : MethodName := ⟨RX10, "<init>", "(ILMomentTexts$Leaps;)V"⟩
abbrev cX10_isFull : ByteArray := prog_12_method_2_code
def yX10_isFull : MethodName := ⟨RX10, "isFull", "()Z"⟩
abbrev cX10_isBehindChanges : ByteArray := prog_12_method_3_code
def yX10_isBehindChanges : MethodName := ⟨RX10, "isBehindChanges", "(J)Z"⟩
abbrev cX10_add : ByteArray := prog_12_method_4_code
def yX10_add : MethodName := ⟨RX10, "add", "(JI)I"⟩
abbrev cX10_isByRule : ByteArray := prog_12_method_5_code
def yX10_isByRule : MethodName := ⟨RX10, "isByRule", "(J)Z"⟩
abbrev cX10_offsetAt : ByteArray := prog_12_method_6_code
def yX10_offsetAt : MethodName := ⟨RX10, "offsetAt", "(J)I"⟩
abbrev cX10_offsetToTry : ByteArray := prog_12_method_7_code
def yX10_offsetToTry : MethodName := ⟨RX10, "offsetToTry", "(I)I"⟩
abbrev cX10_collect : ByteArray := prog_12_method_8_code
def yX10_collect : MethodName := ⟨RX10, "collect", "(JI[J)I"⟩
abbrev cX10_insert : ByteArray := prog_12_method_9_code
def yX10_insert : MethodName := ⟨RX10, "insert", "(J[JI)I"⟩
abbrev cX10_changeBehind : ByteArray := prog_12_method_10_code
def yX10_changeBehind : MethodName := ⟨RX10, "changeBehind", "(J)J"⟩
def RX11 : String := "MomentTexts"
def TX11 : u_T := fun k => match k with
  | 0 => ("MomentTexts", "leaps", "LMomentTexts$Leaps;", true)
  | 1 => ("MomentTexts", "zones", "[LMomentTexts$Zone;", true)
  | 2 => ("MomentTexts", "zoneCount", "I", false)
  | 3 => ("MomentTexts", "draft", "LMomentTexts$Rule;", true)
  | 4 => ("MomentTexts", "text", "LMomentTexts$Cursor;", true)
  | 5 => ("MomentTexts", "made", "LMomentTexts$Writer;", true)
  | 6 => ("MomentTexts", "reader", "LMomentTexts$FormReader;", true)
  | 7 => ("MomentTexts", "fields", "[J", true)
  | _ => ("MomentTexts", "found", "[J", true)
def tyX11 : Nat → FieldType := fun k => match k with
  | 0 => .object "MomentTexts$Leaps"
  | 1 => .array (.object "MomentTexts$Zone")
  | 2 => .int
  | 3 => .object "MomentTexts$Rule"
  | 4 => .object "MomentTexts$Cursor"
  | 5 => .object "MomentTexts$Writer"
  | 6 => .object "MomentTexts$FormReader"
  | 7 => .array .long
  | _ => .array .long
abbrev wsX110 : List Cond := u_ws RX11 TX11 9
theorem nmX11 : ∀ a, a < 9 → ∀ b, b < 9 → a ≠ b → (TX11 a).2.1 ≠ (TX11 b).2.1 := by decide +kernel
theorem tyX11_ok : ∀ k, k < 9 → parseFieldDescriptor (TX11 k).2.2.1 = some (tyX11 k) := by decide +kernel
abbrev cX11_init : ByteArray := prog_1_method_1_code
def yX11_init : MethodName := ⟨RX11, "<init>", "()V"⟩
abbrev cX11_day : ByteArray := prog_1_method_2_code
def yX11_day : MethodName := ⟨RX11, "day", "(III)J"⟩
abbrev cX11_date : ByteArray := prog_1_method_3_code
def yX11_date : MethodName := ⟨RX11, "date", "(JI)I"⟩
abbrev cX11_weekDay : ByteArray := prog_1_method_4_code
def yX11_weekDay : MethodName := ⟨RX11, "weekDay", "(III)J"⟩
abbrev cX11_months : ByteArray := prog_1_method_5_code
def yX11_months : MethodName := ⟨RX11, "months", "(JI)J"⟩
abbrev cX11_easter : ByteArray := prog_1_method_6_code
def yX11_easter : MethodName := ⟨RX11, "easter", "(I)J"⟩
abbrev cX11_leap : ByteArray := prog_1_method_7_code
def yX11_leap : MethodName := ⟨RX11, "leap", "(J)I"⟩
abbrev cX11_instant : ByteArray := prog_1_method_8_code
def yX11_instant : MethodName := ⟨RX11, "instant", "(JI)J"⟩
abbrev cX11_reading : ByteArray := prog_1_method_9_code
def yX11_reading : MethodName := ⟨RX11, "reading", "(JI)J"⟩
abbrev cX11_zone : ByteArray := prog_1_method_10_code
def yX11_zone : MethodName := ⟨RX11, "zone", "(I)I"⟩
abbrev cX11_change : ByteArray := prog_1_method_11_code
def yX11_change : MethodName := ⟨RX11, "change", "(IJI)I"⟩
abbrev cX11_rule : ByteArray := prog_1_method_12_code
def yX11_rule : MethodName := ⟨RX11, "rule", "(I)J"⟩
abbrev cX11_offset : ByteArray := prog_1_method_13_code
def yX11_offset : MethodName := ⟨RX11, "offset", "(IJ)I"⟩
abbrev cX11_local : ByteArray := prog_1_method_14_code
def yX11_local : MethodName := ⟨RX11, "local", "(IJII)J"⟩
abbrev cX11_next : ByteArray := prog_1_method_15_code
def yX11_next : MethodName := ⟨RX11, "next", "(IJ)J"⟩
abbrev cX11_type : ByteArray := prog_1_method_16_code
def yX11_type : MethodName := ⟨RX11, "type", "(JI)I"⟩
abbrev cX11_pass : ByteArray := prog_1_method_17_code
def yX11_pass : MethodName := ⟨RX11, "pass", "()I"⟩
abbrev cX11_clear : ByteArray := prog_1_method_18_code
def yX11_clear : MethodName := ⟨RX11, "clear", "()I"⟩
abbrev cX11_read : ByteArray := prog_1_method_19_code
def yX11_read : MethodName := ⟨RX11, "read", "(I)J"⟩
abbrev cX11_field : ByteArray := prog_1_method_20_code
def yX11_field : MethodName := ⟨RX11, "field", "(II)J"⟩
abbrev cX11_writeDate : ByteArray := prog_1_method_21_code
def yX11_writeDate : MethodName := ⟨RX11, "writeDate", "(JI)I"⟩
abbrev cX11_writeInstant : ByteArray := prog_1_method_22_code
def yX11_writeInstant : MethodName := ⟨RX11, "writeInstant", "(JIII)I"⟩
abbrev cX11_writeDuration : ByteArray := prog_1_method_23_code
def yX11_writeDuration : MethodName := ⟨RX11, "writeDuration", "(JJJI)I"⟩
abbrev cX11_out : ByteArray := prog_1_method_24_code
def yX11_out : MethodName := ⟨RX11, "out", "(I)I"⟩
abbrev cX11_plus : ByteArray := prog_1_method_25_code
def yX11_plus : MethodName := ⟨RX11, "plus", "(IJII)J"⟩
abbrev cX11_between : ByteArray := prog_1_method_26_code
def yX11_between : MethodName := ⟨RX11, "between", "(IJJI)J"⟩
abbrev cX11_isOffset : ByteArray := prog_1_method_27_code
def yX11_isOffset : MethodName := ⟨RX11, "isOffset", "(I)Z"⟩
abbrev cX11_zoneAt : ByteArray := prog_1_method_28_code
def yX11_zoneAt : MethodName := ⟨RX11, "zoneAt", "(I)LMomentTexts$Zone;"⟩
abbrev cX11_goOn : ByteArray := prog_1_method_29_code
def yX11_goOn : MethodName := ⟨RX11, "goOn", "(LMomentTexts$Zone;JII)J"⟩
abbrev cX11_instantOfSkipped : ByteArray := prog_1_method_30_code
def yX11_instantOfSkipped : MethodName := ⟨RX11, "instantOfSkipped", "(LMomentTexts$Zone;JI)J"⟩
abbrev cX11_comesBehind : ByteArray := prog_1_method_31_code
def yX11_comesBehind : MethodName := ⟨RX11, "comesBehind", "(JJ)Z"⟩
def RX12 : String := "MomentTextsModel"
def TX12 : u_T := fun k => match k with
  | 0 => ("MomentTextsModel", "thrown", "I", false)
  | 1 => ("MomentTextsModel", "leaps", "I", false)
  | 2 => ("MomentTextsModel", "leapDays", "[J", true)
  | 3 => ("MomentTextsModel", "zones", "I", false)
  | 4 => ("MomentTextsModel", "firstOffset", "[I", true)
  | 5 => ("MomentTextsModel", "changes", "[I", true)
  | 6 => ("MomentTextsModel", "changeAt", "[J", true)
  | 7 => ("MomentTextsModel", "changeOffset", "[I", true)
  | 8 => ("MomentTextsModel", "rules", "[I", true)
  | 9 => ("MomentTextsModel", "rule1", "[I", true)
  | 10 => ("MomentTextsModel", "rule2", "[I", true)
  | 11 => ("MomentTextsModel", "ruleDates", "[I", true)
  | 12 => ("MomentTextsModel", "text", "[B", true)
  | 13 => ("MomentTextsModel", "size", "I", false)
  | 14 => ("MomentTextsModel", "out", "[B", true)
  | 15 => ("MomentTextsModel", "outSize", "I", false)
  | 16 => ("MomentTextsModel", "minDay", "J", false)
  | 17 => ("MomentTextsModel", "maxDay", "J", false)
  | 18 => ("MomentTextsModel", "theYear", "J", false)
  | 19 => ("MomentTextsModel", "theMonth", "I", false)
  | 20 => ("MomentTextsModel", "theDay", "I", false)
  | 21 => ("MomentTextsModel", "theMinute", "J", false)
  | 22 => ("MomentTextsModel", "theSecond", "I", false)
  | 23 => ("MomentTextsModel", "offsets", "[I", true)
  | 24 => ("MomentTextsModel", "offsetCount", "I", false)
  | 25 => ("MomentTextsModel", "localAll", "[J", true)
  | 26 => ("MomentTextsModel", "begins", "[J", true)
  | 27 => ("MomentTextsModel", "beginCount", "I", false)
  | 28 => ("MomentTextsModel", "beginZone", "I", false)
  | 29 => ("MomentTextsModel", "at", "I", false)
  | 30 => ("MomentTextsModel", "fault", "I", false)
  | 31 => ("MomentTextsModel", "badNumber", "I", false)
  | 32 => ("MomentTextsModel", "draft", "[I", true)
  | 33 => ("MomentTextsModel", "hoursAt", "I", false)
  | 34 => ("MomentTextsModel", "got", "[J", true)
  | 35 => ("MomentTextsModel", "counts", "[J", true)
  | 36 => ("MomentTextsModel", "now", "I", false)
  | 37 => ("MomentTextsModel", "hasDash", "Z", false)
  | 38 => ("MomentTextsModel", "dayOfPart", "J", false)
  | 39 => ("MomentTextsModel", "hasDay", "Z", false)
  | _ => ("MomentTextsModel", "fields", "[J", true)
def tyX12 : Nat → FieldType := fun k => match k with
  | 0 => .int
  | 1 => .int
  | 2 => .array .long
  | 3 => .int
  | 4 => .array .int
  | 5 => .array .int
  | 6 => .array .long
  | 7 => .array .int
  | 8 => .array .int
  | 9 => .array .int
  | 10 => .array .int
  | 11 => .array .int
  | 12 => .array .byte
  | 13 => .int
  | 14 => .array .byte
  | 15 => .int
  | 16 => .long
  | 17 => .long
  | 18 => .long
  | 19 => .int
  | 20 => .int
  | 21 => .long
  | 22 => .int
  | 23 => .array .int
  | 24 => .int
  | 25 => .array .long
  | 26 => .array .long
  | 27 => .int
  | 28 => .int
  | 29 => .int
  | 30 => .int
  | 31 => .int
  | 32 => .array .int
  | 33 => .int
  | 34 => .array .long
  | 35 => .array .long
  | 36 => .int
  | 37 => .boolean
  | 38 => .long
  | 39 => .boolean
  | _ => .array .long
abbrev wsX120 : List Cond := u_ws RX12 TX12 41
theorem nmX12 : ∀ a, a < 41 → ∀ b, b < 41 → a ≠ b → (TX12 a).2.1 ≠ (TX12 b).2.1 := by decide +kernel
theorem tyX12_ok : ∀ k, k < 41 → parseFieldDescriptor (TX12 k).2.2.1 = some (tyX12 k) := by decide +kernel
abbrev cX12_init : ByteArray := prog_14_method_1_code
def yX12_init : MethodName := ⟨RX12, "<init>", "()V"⟩
abbrev cX12_thrown : ByteArray := prog_14_method_2_code
def yX12_thrown : MethodName := ⟨RX12, "thrown", "()I"⟩
abbrev cX12_isIn : ByteArray := prog_14_method_3_code
def yX12_isIn : MethodName := ⟨RX12, "isIn", "(JJJ)Z"⟩
abbrev cX12_isLeapYear : ByteArray := prog_14_method_4_code
def yX12_isLeapYear : MethodName := ⟨RX12, "isLeapYear", "(J)Z"⟩
abbrev cX12_daysOf : ByteArray := prog_14_method_5_code
def yX12_daysOf : MethodName := ⟨RX12, "daysOf", "(JI)I"⟩
abbrev cX12_down : ByteArray := prog_14_method_6_code
def yX12_down : MethodName := ⟨RX12, "down", "(JJ)J"⟩
abbrev cX12_dayOf : ByteArray := prog_14_method_7_code
def yX12_dayOf : MethodName := ⟨RX12, "dayOf", "(JII)J"⟩
abbrev cX12_civil : ByteArray := prog_14_method_8_code
def yX12_civil : MethodName := ⟨RX12, "civil", "(J)V"⟩
abbrev cX12_isDay : ByteArray := prog_14_method_9_code
def yX12_isDay : MethodName := ⟨RX12, "isDay", "(J)Z"⟩
abbrev cX12_weekdayOf : ByteArray := prog_14_method_10_code
def yX12_weekdayOf : MethodName := ⟨RX12, "weekdayOf", "(J)I"⟩
abbrev cX12_firstWeek : ByteArray := prog_14_method_11_code
def yX12_firstWeek : MethodName := ⟨RX12, "firstWeek", "(J)J"⟩
abbrev cX12_weeksOf : ByteArray := prog_14_method_12_code
def yX12_weeksOf : MethodName := ⟨RX12, "weeksOf", "(J)I"⟩
abbrev cX12_weekYearOf : ByteArray := prog_14_method_13_code
def yX12_weekYearOf : MethodName := ⟨RX12, "weekYearOf", "(J)J"⟩
abbrev cX12_isYear : ByteArray := prog_14_method_14_code
def yX12_isYear : MethodName := ⟨RX12, "isYear", "(J)Z"⟩
abbrev cX12_day : ByteArray := prog_14_method_15_code
def yX12_day : MethodName := ⟨RX12, "day", "(III)J"⟩
abbrev cX12_date : ByteArray := prog_14_method_16_code
def yX12_date : MethodName := ⟨RX12, "date", "(JI)I"⟩
abbrev cX12_weekDay : ByteArray := prog_14_method_17_code
def yX12_weekDay : MethodName := ⟨RX12, "weekDay", "(III)J"⟩
abbrev cX12_monthsOn : ByteArray := prog_14_method_18_code
def yX12_monthsOn : MethodName := ⟨RX12, "monthsOn", "(JJ)J"⟩
abbrev cX12_months : ByteArray := prog_14_method_19_code
def yX12_months : MethodName := ⟨RX12, "months", "(JI)J"⟩
abbrev cX12_easter : ByteArray := prog_14_method_20_code
def yX12_easter : MethodName := ⟨RX12, "easter", "(I)J"⟩
abbrev cX12_leapsBefore : ByteArray := prog_14_method_21_code
def yX12_leapsBefore : MethodName := ⟨RX12, "leapsBefore", "(J)J"⟩
abbrev cX12_startOf : ByteArray := prog_14_method_22_code
def yX12_startOf : MethodName := ⟨RX12, "startOf", "(J)J"⟩
abbrev cX12_isLeapDay : ByteArray := prog_14_method_23_code
def yX12_isLeapDay : MethodName := ⟨RX12, "isLeapDay", "(J)Z"⟩
abbrev cX12_secondsOf : ByteArray := prog_14_method_24_code
def yX12_secondsOf : MethodName := ⟨RX12, "secondsOf", "(J)I"⟩
abbrev cX12_isMinute : ByteArray := prog_14_method_25_code
def yX12_isMinute : MethodName := ⟨RX12, "isMinute", "(J)Z"⟩
abbrev cX12_isInstant : ByteArray := prog_14_method_26_code
def yX12_isInstant : MethodName := ⟨RX12, "isInstant", "(J)Z"⟩
abbrev cX12_read0 : ByteArray := prog_14_method_27_code
def yX12_read0 : MethodName := ⟨RX12, "read0", "(J)V"⟩
abbrev cX12_leap : ByteArray := prog_14_method_28_code
def yX12_leap : MethodName := ⟨RX12, "leap", "(J)I"⟩
abbrev cX12_instant : ByteArray := prog_14_method_29_code
def yX12_instant : MethodName := ⟨RX12, "instant", "(JI)J"⟩
abbrev cX12_reading : ByteArray := prog_14_method_30_code
def yX12_reading : MethodName := ⟨RX12, "reading", "(JI)J"⟩
abbrev cX12_isOffset : ByteArray := prog_14_method_31_code
def yX12_isOffset : MethodName := ⟨RX12, "isOffset", "(J)Z"⟩
abbrev cX12_isZone : ByteArray := prog_14_method_32_code
def yX12_isZone : MethodName := ⟨RX12, "isZone", "(I)Z"⟩
abbrev cX12_zone : ByteArray := prog_14_method_33_code
def yX12_zone : MethodName := ⟨RX12, "zone", "(I)I"⟩
abbrev cX12_change : ByteArray := prog_14_method_34_code
def yX12_change : MethodName := ⟨RX12, "change", "(IJI)I"⟩
abbrev cX12_ruleMinute : ByteArray := prog_14_method_35_code
def yX12_ruleMinute : MethodName := ⟨RX12, "ruleMinute", "(IIJ)J"⟩
abbrev cX12_ruleOffset : ByteArray := prog_14_method_36_code
def yX12_ruleOffset : MethodName := ⟨RX12, "ruleOffset", "(IJ)I"⟩
abbrev cX12_offsetAt : ByteArray := prog_14_method_37_code
def yX12_offsetAt : MethodName := ⟨RX12, "offsetAt", "(IJ)I"⟩
abbrev cX12_offset : ByteArray := prog_14_method_38_code
def yX12_offset : MethodName := ⟨RX12, "offset", "(IJ)I"⟩
abbrev cX12_addOffset : ByteArray := prog_14_method_39_code
def yX12_addOffset : MethodName := ⟨RX12, "addOffset", "(I)V"⟩
abbrev cX12_listOffsets : ByteArray := prog_14_method_40_code
def yX12_listOffsets : MethodName := ⟨RX12, "listOffsets", "(I)V"⟩
abbrev cX12_locals : ByteArray := prog_14_method_41_code
def yX12_locals : MethodName := ⟨RX12, "locals", "(IJI)I"⟩
abbrev cX12_local : ByteArray := prog_14_method_42_code
def yX12_local : MethodName := ⟨RX12, "local", "(IJII)J"⟩
abbrev cX12_begin : ByteArray := prog_14_method_43_code
def yX12_begin : MethodName := ⟨RX12, "begin", "(JJJ)V"⟩
abbrev cX12_offsetAtChange : ByteArray := prog_14_method_44_code
def yX12_offsetAtChange : MethodName := ⟨RX12, "offsetAtChange", "(J)Z"⟩
abbrev cX12_listBegins : ByteArray := prog_14_method_45_code
def yX12_listBegins : MethodName := ⟨RX12, "listBegins", "(IJJ)V"⟩
abbrev cX12_next : ByteArray := prog_14_method_46_code
def yX12_next : MethodName := ⟨RX12, "next", "(IJ)J"⟩
abbrev cX12_on : ByteArray := prog_14_method_47_code
def yX12_on : MethodName := ⟨RX12, "on", "(IJJJ)J"⟩
abbrev cX12_skipped : ByteArray := prog_14_method_48_code
def yX12_skipped : MethodName := ⟨RX12, "skipped", "(IJI)J"⟩
abbrev cX12_plus : ByteArray := prog_14_method_49_code
def yX12_plus : MethodName := ⟨RX12, "plus", "(IJII)J"⟩
abbrev cX12_isNotBehind : ByteArray := prog_14_method_50_code
def yX12_isNotBehind : MethodName := ⟨RX12, "isNotBehind", "(IJJJJ)Z"⟩
abbrev cX12_between : ByteArray := prog_14_method_51_code
def yX12_between : MethodName := ⟨RX12, "between", "(IJJI)J"⟩
abbrev cX12_begin_ : ByteArray := prog_14_method_52_code
def yX12_begin_ : MethodName := ⟨RX12, "begin", "()V"⟩
abbrev cX12_sign : ByteArray := prog_14_method_53_code
def yX12_sign : MethodName := ⟨RX12, "sign", "()I"⟩
abbrev cX12_fail : ByteArray := prog_14_method_54_code
def yX12_fail : MethodName := ⟨RX12, "fail", "()V"⟩
abbrev cX12_isGood : ByteArray := prog_14_method_55_code
def yX12_isGood : MethodName := ⟨RX12, "isGood", "()Z"⟩
abbrev cX12_bad : ByteArray := prog_14_method_56_code
def yX12_bad : MethodName := ⟨RX12, "bad", "(I)V"⟩
abbrev cX12_isDigit : ByteArray := prog_14_method_57_code
def yX12_isDigit : MethodName := ⟨RX12, "isDigit", "(I)Z"⟩
abbrev cX12_isLetter : ByteArray := prog_14_method_58_code
def yX12_isLetter : MethodName := ⟨RX12, "isLetter", "(I)Z"⟩
abbrev cX12_takes : ByteArray := prog_14_method_59_code
def yX12_takes : MethodName := ⟨RX12, "takes", "(I)Z"⟩
abbrev cX12_expect : ByteArray := prog_14_method_60_code
def yX12_expect : MethodName := ⟨RX12, "expect", "(I)V"⟩
abbrev cX12_digits : ByteArray := prog_14_method_61_code
def yX12_digits : MethodName := ⟨RX12, "digits", "(I)I"⟩
abbrev cX12_ruleName : ByteArray := prog_14_method_62_code
def yX12_ruleName : MethodName := ⟨RX12, "ruleName", "()V"⟩
abbrev cX12_ruleTime : ByteArray := prog_14_method_63_code
def yX12_ruleTime : MethodName := ⟨RX12, "ruleTime", "(ZI)I"⟩
abbrev cX12_upTo : ByteArray := prog_14_method_64_code
def yX12_upTo : MethodName := ⟨RX12, "upTo", "(III)I"⟩
abbrev cX12_ruleDate : ByteArray := prog_14_method_65_code
def yX12_ruleDate : MethodName := ⟨RX12, "ruleDate", "(I)V"⟩
abbrev cX12_rule : ByteArray := prog_14_method_66_code
def yX12_rule : MethodName := ⟨RX12, "rule", "(I)J"⟩
abbrev cX12_set : ByteArray := prog_14_method_67_code
def yX12_set : MethodName := ⟨RX12, "set", "(IJ)V"⟩
abbrev cX12_get : ByteArray := prog_14_method_68_code
def yX12_get : MethodName := ⟨RX12, "get", "(I)J"⟩
abbrev cX12_clearPart : ByteArray := prog_14_method_69_code
def yX12_clearPart : MethodName := ⟨RX12, "clearPart", "(I)V"⟩
abbrev cX12_dateNumber : ByteArray := prog_14_method_70_code
def yX12_dateNumber : MethodName := ⟨RX12, "dateNumber", "(II)V"⟩
abbrev cX12_readDate : ByteArray := prog_14_method_71_code
def yX12_readDate : MethodName := ⟨RX12, "readDate", "(Z)V"⟩
abbrev cX12_part : ByteArray := prog_14_method_72_code
def yX12_part : MethodName := ⟨RX12, "part", "()J"⟩
abbrev cX12_timeNumber : ByteArray := prog_14_method_73_code
def yX12_timeNumber : MethodName := ⟨RX12, "timeNumber", "(I)V"⟩
abbrev cX12_readTime : ByteArray := prog_14_method_74_code
def yX12_readTime : MethodName := ⟨RX12, "readTime", "(I)V"⟩
abbrev cX12_readPlain : ByteArray := prog_14_method_75_code
def yX12_readPlain : MethodName := ⟨RX12, "readPlain", "()V"⟩
abbrev cX12_readBoth : ByteArray := prog_14_method_76_code
def yX12_readBoth : MethodName := ⟨RX12, "readBoth", "()V"⟩
abbrev cX12_letterPlace : ByteArray := prog_14_method_77_code
def yX12_letterPlace : MethodName := ⟨RX12, "letterPlace", "(IZ)I"⟩
abbrev cX12_readDuration : ByteArray := prog_14_method_78_code
def yX12_readDuration : MethodName := ⟨RX12, "readDuration", "()V"⟩
abbrev cX12_readInterval : ByteArray := prog_14_method_79_code
def yX12_readInterval : MethodName := ⟨RX12, "readInterval", "()V"⟩
abbrev cX12_lookAtDate : ByteArray := prog_14_method_80_code
def yX12_lookAtDate : MethodName := ⟨RX12, "lookAtDate", "()V"⟩
abbrev cX12_offsetOfPart : ByteArray := prog_14_method_81_code
def yX12_offsetOfPart : MethodName := ⟨RX12, "offsetOfPart", "()J"⟩
abbrev cX12_lookAtTime : ByteArray := prog_14_method_82_code
def yX12_lookAtTime : MethodName := ⟨RX12, "lookAtTime", "()V"⟩
abbrev cX12_field0 : ByteArray := prog_14_method_83_code
def yX12_field0 : MethodName := ⟨RX12, "field0", "(IJ)V"⟩
abbrev cX12_fillPart : ByteArray := prog_14_method_84_code
def yX12_fillPart : MethodName := ⟨RX12, "fillPart", "()V"⟩
abbrev cX12_read : ByteArray := prog_14_method_85_code
def yX12_read : MethodName := ⟨RX12, "read", "(I)J"⟩
abbrev cX12_field : ByteArray := prog_14_method_86_code
def yX12_field : MethodName := ⟨RX12, "field", "(II)J"⟩
abbrev cX12_type : ByteArray := prog_14_method_87_code
def yX12_type : MethodName := ⟨RX12, "type", "(JI)I"⟩
abbrev cX12_pass : ByteArray := prog_14_method_88_code
def yX12_pass : MethodName := ⟨RX12, "pass", "()I"⟩
abbrev cX12_clear : ByteArray := prog_14_method_89_code
def yX12_clear : MethodName := ⟨RX12, "clear", "()I"⟩
abbrev cX12_put : ByteArray := prog_14_method_90_code
def yX12_put : MethodName := ⟨RX12, "put", "(I)V"⟩
abbrev cX12_putNumber : ByteArray := prog_14_method_91_code
def yX12_putNumber : MethodName := ⟨RX12, "putNumber", "(JI)V"⟩
abbrev cX12_putPlain : ByteArray := prog_14_method_92_code
def yX12_putPlain : MethodName := ⟨RX12, "putPlain", "(J)V"⟩
abbrev cX12_putYear : ByteArray := prog_14_method_93_code
def yX12_putYear : MethodName := ⟨RX12, "putYear", "(J)Z"⟩
abbrev cX12_writeDate : ByteArray := prog_14_method_94_code
def yX12_writeDate : MethodName := ⟨RX12, "writeDate", "(JI)I"⟩
abbrev cX12_putPart : ByteArray := prog_14_method_95_code
def yX12_putPart : MethodName := ⟨RX12, "putPart", "(II)V"⟩
abbrev cX12_writeInstant : ByteArray := prog_14_method_96_code
def yX12_writeInstant : MethodName := ⟨RX12, "writeInstant", "(JIII)I"⟩
abbrev cX12_putCount : ByteArray := prog_14_method_97_code
def yX12_putCount : MethodName := ⟨RX12, "putCount", "(JI)V"⟩
abbrev cX12_writeDuration : ByteArray := prog_14_method_98_code
def yX12_writeDuration : MethodName := ⟨RX12, "writeDuration", "(JJJI)I"⟩
abbrev cX12_out : ByteArray := prog_14_method_99_code
def yX12_out : MethodName := ⟨RX12, "out", "(I)I"⟩
def RJ9 : String := "java/lang/Math"
def TJ9 : u_T := fun k => match k with
  | _ => ("", "", "", false)
def tyJ9 : Nat → FieldType := fun k => match k with
  | _ => .int
abbrev cJ9_floorDiv_f86c9 : ByteArray := prog_18_method_49_code
def yJ9_floorDiv_f86c9 : MethodName := ⟨RJ9, "floorDiv", "(JJ)J"⟩
abbrev cJ9_floorMod_f86c9 : ByteArray := prog_18_method_52_code
def yJ9_floorMod_f86c9 : MethodName := ⟨RJ9, "floorMod", "(JJ)J"⟩
abbrev cJ9_abs_0f7a4 : ByteArray := prog_18_method_59_code
def yJ9_abs_0f7a4 : MethodName := ⟨RJ9, "abs", "(I)I"⟩
abbrev cJ9_max_f86c9 : ByteArray := prog_18_method_66_code
def yJ9_max_f86c9 : MethodName := ⟨RJ9, "max", "(JJ)J"⟩
abbrev cJ9_min_7cf53 : ByteArray := prog_18_method_69_code
def yJ9_min_7cf53 : MethodName := ⟨RJ9, "min", "(II)I"⟩
abbrev cJ9_min_f86c9 : ByteArray := prog_18_method_70_code
def yJ9_min_f86c9 : MethodName := ⟨RJ9, "min", "(JJ)J"⟩
def RJ0 : String := "java/lang/String"
def TJ0 : u_T := fun k => match k with
  | _ => ("", "", "", false)
def tyJ0 : Nat → FieldType := fun k => match k with
  | _ => .int
def RJ10 : String := "java/lang/System"
def TJ10 : u_T := fun k => match k with
  | _ => ("", "", "", false)
def tyJ10 : Nat → FieldType := fun k => match k with
  | _ => .int
def RJ7 : String := "java/util/Arrays"
def TJ7 : u_T := fun k => match k with
  | _ => ("", "", "", false)
def tyJ7 : Nat → FieldType := fun k => match k with
  | _ => .int
abbrev cJ7_fill_d0a16 : ByteArray := prog_24_method_101_code
def yJ7_fill_d0a16 : MethodName := ⟨RJ7, "fill", "([JJ)V"⟩
def RL : String := "MomentTextsLaw"
abbrev cL_day : ByteArray := method_3_code
def yL_day : MethodName := ⟨RL, "day", "(LMomentTexts;III[J)I"⟩
abbrev cL_date : ByteArray := method_4_code
def yL_date : MethodName := ⟨RL, "date", "(LMomentTexts;JI[J)I"⟩
abbrev cL_weekDay : ByteArray := method_5_code
def yL_weekDay : MethodName := ⟨RL, "weekDay", "(LMomentTexts;III[J)I"⟩
abbrev cL_months : ByteArray := method_6_code
def yL_months : MethodName := ⟨RL, "months", "(LMomentTexts;JI[J)I"⟩
abbrev cL_easter : ByteArray := method_7_code
def yL_easter : MethodName := ⟨RL, "easter", "(LMomentTexts;I[J)I"⟩
abbrev cL_leap : ByteArray := method_8_code
def yL_leap : MethodName := ⟨RL, "leap", "(LMomentTexts;J[J)I"⟩
abbrev cL_instant : ByteArray := method_9_code
def yL_instant : MethodName := ⟨RL, "instant", "(LMomentTexts;JI[J)I"⟩
abbrev cL_reading : ByteArray := method_10_code
def yL_reading : MethodName := ⟨RL, "reading", "(LMomentTexts;JI[J)I"⟩
abbrev cL_zone : ByteArray := method_11_code
def yL_zone : MethodName := ⟨RL, "zone", "(LMomentTexts;I[J)I"⟩
abbrev cL_change : ByteArray := method_12_code
def yL_change : MethodName := ⟨RL, "change", "(LMomentTexts;IJI[J)I"⟩
abbrev cL_rule : ByteArray := method_13_code
def yL_rule : MethodName := ⟨RL, "rule", "(LMomentTexts;I[J)I"⟩
abbrev cL_offset : ByteArray := method_14_code
def yL_offset : MethodName := ⟨RL, "offset", "(LMomentTexts;IJ[J)I"⟩
abbrev cL_local : ByteArray := method_15_code
def yL_local : MethodName := ⟨RL, "local", "(LMomentTexts;IJII[J)I"⟩
abbrev cL_next : ByteArray := method_16_code
def yL_next : MethodName := ⟨RL, "next", "(LMomentTexts;IJ[J)I"⟩
abbrev cL_type : ByteArray := method_17_code
def yL_type : MethodName := ⟨RL, "type", "(LMomentTexts;JI[J)I"⟩
abbrev cL_read : ByteArray := method_18_code
def yL_read : MethodName := ⟨RL, "read", "(LMomentTexts;I[J)I"⟩
abbrev cL_field : ByteArray := method_19_code
def yL_field : MethodName := ⟨RL, "field", "(LMomentTexts;II[J)I"⟩
abbrev cL_writeDate : ByteArray := method_20_code
def yL_writeDate : MethodName := ⟨RL, "writeDate", "(LMomentTexts;JI[J)I"⟩
abbrev cL_writeInstant : ByteArray := method_21_code
def yL_writeInstant : MethodName := ⟨RL, "writeInstant", "(LMomentTexts;JIII[J)I"⟩
abbrev cL_writeDuration : ByteArray := method_22_code
def yL_writeDuration : MethodName := ⟨RL, "writeDuration", "(LMomentTexts;JJJI[J)I"⟩
abbrev cL_out : ByteArray := method_23_code
def yL_out : MethodName := ⟨RL, "out", "(LMomentTexts;I[J)I"⟩
abbrev cL_plus : ByteArray := method_24_code
def yL_plus : MethodName := ⟨RL, "plus", "(LMomentTexts;IJII[J)I"⟩
abbrev cL_between : ByteArray := method_25_code
def yL_between : MethodName := ⟨RL, "between", "(LMomentTexts;IJJI[J)I"⟩
abbrev cL_law : ByteArray := code
def yL_law : MethodName := ⟨RL, "law", "([I)Z"⟩
abbrev vwCl : List vw_C := [(RX0, TX0, 5), (RX1, TX1, 10), (RX3, TX3, 5), (RX4, TX4, 6), (RX5, TX5, 2), (RX6, TX6, 11), (RX7, TX7, 5), (RX8, TX8, 14), (RX9, TX9, 2), (RX10, TX10, 6), (RX11, TX11, 9), (RX12, TX12, 41)]
end
section
/-! linear forms over numbered unknowns: (unknown, factor) terms and a constant; bounds of the unknowns; relations 'f ≤ 0' -/
abbrev zl_T : Type := List (Nat × Int)
abbrev zl_F : Type := List (Nat × Int) × Int
def zl_ev (v : Nat → Int) : zl_T → Int
  | [] => 0
  | q :: t => q.2 * v q.1 + zl_ev v t
def zl_at (v : Nat → Int) (f : zl_F) : Int := zl_ev v f.1 + f.2
def zl_ins (i : Nat) (k : Int) : zl_T → zl_T
  | [] => [(i, k)]
  | q :: t => match Nat.beq q.1 i with
    | true => (match q.2 + k with
      | 0 => t
      | z => (i, z) :: t)
    | false => q :: zl_ins i k t
theorem zl_ins_ev (v : Nat → Int) (i : Nat) (k : Int) (t : zl_T) : zl_ev v (zl_ins i k t) = k * v i + zl_ev v t := by
  induction t with
  | nil => simp [zl_ins, zl_ev]
  | cons q t ih =>
    unfold zl_ins
    split
    · rename_i h
      have h := Nat.eq_of_beq_eq_true h
      split
      · rename_i h0
        simp only [zl_ev]
        rw [h, show q.2 = -k by omega, Int.neg_mul]; omega
      · rename_i z hz
        simp only [zl_ev]
        rw [h, Int.add_mul]; omega
    · simp only [zl_ev, ih]; omega
def zl_add (f g : zl_F) : zl_F := (f.1.foldr (fun q a => zl_ins q.1 q.2 a) g.1, f.2 + g.2)
theorem zl_add_at (v : Nat → Int) (f g : zl_F) : zl_at v (zl_add f g) = zl_at v f + zl_at v g := by
  obtain ⟨f1, f2⟩ := f
  obtain ⟨g1, g2⟩ := g
  unfold zl_at zl_add
  dsimp only
  have h : zl_ev v (f1.foldr (fun q a => zl_ins q.1 q.2 a) g1) = zl_ev v f1 + zl_ev v g1 := by
    induction f1 with
    | nil => simp [zl_ev]
    | cons q t ih => simp only [List.foldr_cons, zl_ins_ev, ih, zl_ev]; omega
  rw [h]; omega
def zl_mul (k : Int) (f : zl_F) : zl_F := (f.1.map (fun q => (q.1, k * q.2)), k * f.2)
theorem zl_mul_at (v : Nat → Int) (k : Int) (f : zl_F) : zl_at v (zl_mul k f) = k * zl_at v f := by
  obtain ⟨f1, f2⟩ := f
  unfold zl_at zl_mul
  dsimp only
  have h : zl_ev v (f1.map (fun q => (q.1, k * q.2))) = k * zl_ev v f1 := by
    induction f1 with
    | nil => simp [zl_ev]
    | cons q t ih => simp only [List.map_cons, zl_ev, ih]; rw [Int.mul_add, Int.mul_assoc]
  rw [h, Int.mul_add]
def zl_neg (f : zl_F) : zl_F := zl_mul (-1) f
theorem zl_neg_at (v : Nat → Int) (f : zl_F) : zl_at v (zl_neg f) = - zl_at v f := by
  unfold zl_neg; rw [zl_mul_at]; omega
def zl_sub (f g : zl_F) : zl_F := zl_add (zl_neg g) f
theorem zl_sub_at (v : Nat → Int) (f g : zl_F) : zl_at v (zl_sub f g) = zl_at v f - zl_at v g := by
  unfold zl_sub; rw [zl_add_at, zl_neg_at]; omega
def zl_k (k : Int) : zl_F := ([], k)
theorem zl_k_at (v : Nat → Int) (k : Int) : zl_at v (zl_k k) = k := by simp [zl_at, zl_k, zl_ev]
def zl_id (i : Nat) : zl_F := ([(i, 1)], 0)
theorem zl_id_at (v : Nat → Int) (i : Nat) : zl_at v (zl_id i) = v i := by simp [zl_at, zl_id, zl_ev]
/-- every unknown of it is below n -/
def zl_wf (n : Nat) (f : zl_F) : Prop := ∀ q ∈ f.1, q.1 < n
theorem zl_ins_wf {n i : Nat} {k : Int} {t : zl_T} (hi : i < n) (h : ∀ q ∈ t, q.1 < n) : ∀ q ∈ zl_ins i k t, q.1 < n := by
  induction t with
  | nil => intro q hq; simp [zl_ins] at hq; rw [hq]; exact hi
  | cons r t ih =>
    have ht : ∀ q ∈ t, q.1 < n := fun q hq => h q (List.mem_cons_of_mem _ hq)
    intro q hq
    unfold zl_ins at hq
    split at hq
    · split at hq
      · exact ht q hq
      · rcases List.mem_cons.mp hq with e | e
        · rw [e]; exact hi
        · exact ht q e
    · rcases List.mem_cons.mp hq with e | e
      · rw [e]; exact h r List.mem_cons_self
      · exact ih ht q e
theorem zl_add_wf {n : Nat} {f g : zl_F} (hf : zl_wf n f) (hg : zl_wf n g) : zl_wf n (zl_add f g) := by
  obtain ⟨f1, f2⟩ := f
  unfold zl_wf zl_add at *
  dsimp only at *
  induction f1 with
  | nil => exact hg
  | cons q t ih => exact zl_ins_wf (hf q List.mem_cons_self) (ih (fun r hr => hf r (List.mem_cons_of_mem _ hr)))
theorem zl_mul_wf {n : Nat} {k : Int} {f : zl_F} (hf : zl_wf n f) : zl_wf n (zl_mul k f) := by
  intro q hq
  obtain ⟨r, hr, e⟩ := List.mem_map.mp hq
  rw [← e]; exact hf r hr
theorem zl_sub_wf {n : Nat} {f g : zl_F} (hf : zl_wf n f) (hg : zl_wf n g) : zl_wf n (zl_sub f g) := zl_add_wf (zl_mul_wf hg) hf
theorem zl_k_wf {n : Nat} {k : Int} : zl_wf n (zl_k k) := fun q hq => by cases hq
theorem zl_id_wf {n i : Nat} (h : i < n) : zl_wf n (zl_id i) := fun q hq => by
  simp [zl_id] at hq; rw [hq]; exact h
theorem zl_wf.mono {n m : Nat} {f : zl_F} (h : zl_wf n f) (hm : n ≤ m) : zl_wf m f := fun q hq => Nat.lt_of_lt_of_le (h q hq) hm
def zl_up (v : Nat → Int) (n : Nat) (x : Int) : Nat → Int := fun i => if i = n then x else v i
theorem zl_up_at {v : Nat → Int} {n : Nat} {x : Int} {f : zl_F} (h : zl_wf n f) : zl_at (zl_up v n x) f = zl_at v f := by
  obtain ⟨f1, f2⟩ := f
  unfold zl_at
  dsimp only
  have : zl_ev (zl_up v n x) f1 = zl_ev v f1 := by
    unfold zl_wf at h
    dsimp only at h
    induction f1 with
    | nil => rfl
    | cons q t ih =>
      have hq := h q List.mem_cons_self
      simp only [zl_ev, ih (fun r hr => h r (List.mem_cons_of_mem _ hr))]
      rw [show zl_up v n x q.1 = v q.1 by simp [zl_up, Nat.ne_of_lt hq]]
  rw [this]
/-- bounds of the unknowns: of unknown i the i-th; (lo, hi) with hi < lo: none is known -/
abbrev zl_B : Type := List (Int × Int)
def zl_bd (v : Nat → Int) (B : zl_B) : Prop := ∀ (i : Nat) (b : Int × Int), B[i]? = some b → b.2 < b.1 ∨ (b.1 ≤ v i ∧ v i ≤ b.2)
/-- a sum above all values of the terms -/
def zl_ub (B : zl_B) : zl_T → Option Int
  | [] => some 0
  | q :: t => match B[q.1]?, zl_ub B t with
    | some b, some r => (match decide (b.2 < b.1) with
      | true => none
      | false => some ((match q.2 with
        | .ofNat _ => q.2 * b.2
        | .negSucc _ => q.2 * b.1) + r))
    | _, _ => none
theorem zl_ub_ok {v : Nat → Int} {B : zl_B} (hB : zl_bd v B) (t : zl_T) : ∀ r, zl_ub B t = some r → zl_ev v t ≤ r := by
  induction t with
  | nil => intro r h; simp [zl_ub] at h; simp [zl_ev, ← h]
  | cons q t ih =>
    intro r h
    unfold zl_ub at h
    split at h
    · rename_i b r' hb hr
      split at h
      · cases h
      rename_i hd
      have h1 := (hB _ _ hb).resolve_left (of_decide_eq_false hd)
      have h2 := ih _ hr
      have h3 := Option.some.inj h
      simp only [zl_ev]
      have h4 : q.2 * v q.1 ≤ (match q.2 with | .ofNat _ => q.2 * b.2 | .negSucc _ => q.2 * b.1) := by
        split
        · rename_i n hn
          rw [hn]
          exact Int.mul_le_mul_of_nonneg_left h1.2 (Int.natCast_nonneg n)
        · rename_i n hn
          rw [hn]
          exact Int.mul_le_mul_of_nonpos_left (Int.le_of_lt (Int.negSucc_lt_zero n)) h1.1
      omega
    · cases h
/-- 'f ≤ 0', by the bounds alone -/
def zl_n1 (B : zl_B) (f : zl_F) : Bool := match zl_ub B f.1 with
  | some r => decide (r + f.2 ≤ 0)
  | none => false
theorem zl_n1_ok {v : Nat → Int} {B : zl_B} (hB : zl_bd v B) {f : zl_F} (h : zl_n1 B f = true) : zl_at v f ≤ 0 := by
  unfold zl_n1 at h
  split at h
  · rename_i r hr
    have h1 := zl_ub_ok hB _ _ hr
    have h2 := of_decide_eq_true h
    unfold zl_at; omega
  · cases h
/-- 'f ≤ 0', by the bounds and at most two of the relations -/
def zl_le (B : zl_B) (C : List zl_F) (f : zl_F) : Bool := zl_n1 B f || C.any (fun g => zl_n1 B (zl_sub f g)) || C.any (fun g => C.any (fun h => zl_n1 B (zl_sub (zl_sub f g) h)))
theorem zl_le_ok {v : Nat → Int} {B : zl_B} {C : List zl_F} (hB : zl_bd v B) (hC : ∀ f ∈ C, zl_at v f ≤ 0) {f : zl_F} (h : zl_le B C f = true) : zl_at v f ≤ 0 := by
  unfold zl_le at h
  simp only [Bool.or_eq_true, List.any_eq_true] at h
  rcases h with (h | ⟨g, hg, h⟩) | ⟨g, hg, k, hk, h⟩
  · exact zl_n1_ok hB h
  · have h1 := zl_n1_ok hB h
    have h2 := hC g hg
    rw [zl_sub_at] at h1
    omega
  · have h1 := zl_n1_ok hB h
    have h2 := hC g hg
    have h3 := hC k hk
    rw [zl_sub_at, zl_sub_at] at h1
    omega
end
section
/-! abstract values and states. A value: a kind (0 int, 1 long, 2 null, 3 an int that is the sign of its form, 4 + 2 r a reference to a cell of role r, 5 + 2 r that or null) and its linear form (of a reference: its address, -1 of null) -/
abbrev zv_V : Type := Nat × zl_F
def zv_ref (ro : Nat → Option Nat) (v : Nat → Int) (f : zl_F) (r : Nat) (x : Value) : Prop := ∃ a : Nat, x = .ref a ∧ ro a = some r ∧ (a : Int) = zl_at v f
def zv_ok (ro : Nat → Option Nat) (v : Nat → Int) (x : Value) (z : zv_V) : Prop := match z.1 with
  | 0 => ∃ y : Int32, x = .int y ∧ y.toInt = zl_at v z.2
  | 1 => ∃ y : Int64, x = .long y ∧ y.toInt = zl_at v z.2
  | 2 => x = .null ∧ zl_at v z.2 = -1
  | 3 => ∃ y : Int32, x = .int y ∧ y.toInt = (zl_at v z.2).sign
  | k + 4 => (k % 2 = 1 ∧ x = .null ∧ zl_at v z.2 = -1) ∨ zv_ref ro v z.2 (k / 2) x
def zv_wf (n : Nat) (z : zv_V) : Prop := zl_wf n z.2
theorem zv_ok.up {ro : Nat → Option Nat} {v : Nat → Int} {n : Nat} {y : Int} {x : Value} {z : zv_V} (hw : zv_wf n z) (h : zv_ok ro v x z) : zv_ok ro (zl_up v n y) x z := by
  obtain ⟨k, f⟩ := z
  have e : zl_at (zl_up v n y) f = zl_at v f := zl_up_at hw
  match k with
  | 0 => obtain ⟨a, h1, h2⟩ := h; exact ⟨a, h1, by rw [e]; exact h2⟩
  | 1 => obtain ⟨a, h1, h2⟩ := h; exact ⟨a, h1, by rw [e]; exact h2⟩
  | 2 => exact ⟨h.1, by rw [e]; exact h.2⟩
  | 3 => obtain ⟨a, h1, h2⟩ := h; exact ⟨a, h1, by rw [e]; exact h2⟩
  | k + 4 =>
    rcases h with ⟨h1, h2, h3⟩ | ⟨a, h1, h2, h3⟩
    · exact Or.inl ⟨h1, h2, by rw [e]; exact h3⟩
    · exact Or.inr ⟨a, h1, h2, by rw [e]; exact h3⟩
theorem zv_cat {ro : Nat → Option Nat} {v : Nat → Int} {x : Value} {z : zv_V} (h : zv_ok ro v x z) : x.category = if z.1 = 1 then 2 else 1 := by
  obtain ⟨k, f⟩ := z
  match k with
  | 0 => obtain ⟨a, h1, h2⟩ := h; rw [h1]; rfl
  | 1 => obtain ⟨a, h1, h2⟩ := h; rw [h1]; rfl
  | 2 => rw [show x = .null from h.1]; rfl
  | 3 => obtain ⟨a, h1, h2⟩ := h; rw [h1]; rfl
  | k + 4 =>
    rcases h with ⟨-, h, -⟩ | ⟨a, h1, h2, h3⟩
    · rw [h]; rfl
    · rw [h1]; rfl
def zs_st (ro : Nat → Option Nat) (v : Nat → Int) : List Value → List zv_V → Prop
  | [], [] => True
  | x :: xs, z :: zs => zv_ok ro v x z ∧ zs_st ro v xs zs
  | _, _ => False
theorem zs_st.up {ro : Nat → Option Nat} {v : Nat → Int} {n : Nat} {y : Int} : ∀ {xs : List Value} {zs : List zv_V}, (∀ z ∈ zs, zv_wf n z) → zs_st ro v xs zs → zs_st ro (zl_up v n y) xs zs
  | [], [], _, h => h
  | [], _ :: _, _, h => h
  | _ :: _, [], _, h => h
  | _ :: _, z :: _, hw, h => ⟨zv_ok.up (hw z List.mem_cons_self) h.1, zs_st.up (fun q hq => hw q (List.mem_cons_of_mem _ hq)) h.2⟩
/-! field types: (0, lo, hi) an int, (1, lo, hi) a long between; (k + 4, _, _) as the kinds of references -/
abbrev zt_T : Type := Nat × Int × Int
def zt_ok (ro : Nat → Option Nat) (x : Value) (t : zt_T) : Prop := match t.1 with
  | 0 => ∃ y : Int32, x = .int y ∧ t.2.1 ≤ y.toInt ∧ y.toInt ≤ t.2.2
  | 1 => ∃ y : Int64, x = .long y ∧ t.2.1 ≤ y.toInt ∧ y.toInt ≤ t.2.2
  | 2 => x = .null
  | 3 => False
  | k + 4 => (k % 2 = 1 ∧ x = .null) ∨ ∃ a : Nat, x = .ref a ∧ ro a = some (k / 2)
/-! roles: (0, class, _, the types of its fields) an object; (1, array class, length, [type of its places]) an array; (2, ..) an array that was there before, and is only read -/
abbrev zr_R : Type := Nat × Nat × Nat × List zt_T
def zh_f (D : va_G) (H : Heap) (a ci k : Nat) : Value := match H[a]? with
  | some ce => (ce.slots[D.2 ci k]?).getD .null
  | none => .null
def zh_cell (D : va_G) (cA : Nat → ClassId) (ro : Nat → Option Nat) (H : Heap) (a : Nat) (e : zr_R) : Prop := match e.1 with
  | 0 => ∃ cell : Cell, H[a]? = some cell ∧ cell.cls = D.1 e.2.1 ∧ cell.vm = .none ∧ ∀ (k : Nat) (t : zt_T), e.2.2.2[k]? = some t → ∃ x : Value, cell.slots[D.2 e.2.1 k]? = some x ∧ zt_ok ro x t
  | _ => ∃ z : Nat → Value, H[a]? = some (arrV (cA e.2.1) e.2.2.1 z) ∧ ∀ (t : zt_T), e.2.2.2 = [t] → ∀ j : Nat, j < e.2.2.1 → zt_ok ro (z j) t
def zh_ok (D : va_G) (cA : Nat → ClassId) (RT : List zr_R) (ro : Nat → Option Nat) (sz : Nat) (H0 H : Heap) (locs : List Loc) : Prop :=
  sz ≤ H.size ∧ (∀ q : Nat, q < sz → H[q]? = H0[q]?) ∧ (∀ q ∈ locs, sz ≤ q.base) ∧ ∀ (a r : Nat), ro a = some r → ∃ e : zr_R, RT[r]? = some e ∧ (e.1 = 2 ∨ sz ≤ a) ∧ zh_cell D cA ro H a e
/-! a state: bounds, relations, locals, operands, facts of fields ((the object's unknown, its role, the field), its value now), and forms of numbers that stay (what the method was begun with) -/
abbrev zs_S : Type := zl_B × List zl_F × List (Nat × zv_V) × List zv_V × List ((Nat × Nat × Nat) × zv_V) × List zl_F
def zs_wf (q : zs_S) : Prop := (∀ f ∈ q.2.1, zl_wf q.1.length f) ∧ (∀ e ∈ q.2.2.1, zv_wf q.1.length e.2) ∧ (∀ z ∈ q.2.2.2.1, zv_wf q.1.length z) ∧ (∀ e ∈ q.2.2.2.2.1, e.1.1 < q.1.length ∧ zv_wf q.1.length e.2) ∧ ∀ g ∈ q.2.2.2.2.2, zl_wf q.1.length g
def zs_fact (D : va_G) (RT : List zr_R) (ro : Nat → Option Nat) (v : Nat → Int) (H : Heap) (e : (Nat × Nat × Nat) × zv_V) : Prop :=
  ∃ (a ci n : Nat) (fs : List zt_T), (a : Int) = v e.1.1 ∧ ro a = some e.1.2.1 ∧ RT[e.1.2.1]? = some (0, ci, n, fs) ∧ e.1.2.2 < fs.length ∧ zv_ok ro v (zh_f D H a ci e.1.2.2) e.2
def zs_ok (D : va_G) (RT : List zr_R) (ro : Nat → Option Nat) (Ga : List Int) (nL : Nat) (q : zs_S) (v : Nat → Int) (H : Heap) (ls : Array Slot) (st : List Value) : Prop :=
  zl_bd v q.1 ∧ (∀ f ∈ q.2.1, zl_at v f ≤ 0) ∧ (∃ lv : List (Nat × Value), lv_has ls nL lv ∧ ∀ e ∈ q.2.2.1, ∃ x : Value, (e.1, x) ∈ lv ∧ zv_ok ro v x e.2) ∧ zs_st ro v st q.2.2.2.1 ∧ (∀ e ∈ q.2.2.2.2.1, zs_fact D RT ro v H e) ∧ q.2.2.2.2.2.map (zl_at v) = Ga
/-- a new unknown, of value x between lo and hi -/
theorem zl_bd.push {v : Nat → Int} {B : zl_B} {x lo hi : Int} (h : zl_bd v B) (h1 : hi < lo ∨ (lo ≤ x ∧ x ≤ hi)) : zl_bd (zl_up v B.length x) (B ++ [(lo, hi)]) := by
  intro i b hb
  rcases Nat.lt_trichotomy i B.length with hi' | hi' | hi'
  · rw [List.getElem?_append_left hi'] at hb
    have := h i b hb
    rw [show zl_up v B.length x i = v i by simp [zl_up, Nat.ne_of_lt hi']]
    exact this
  · subst hi'
    rw [List.getElem?_append_right (Nat.le_refl _)] at hb
    simp at hb
    subst hb
    simp [zl_up]
    exact h1
  · rw [List.getElem?_append_right (Nat.le_of_lt hi')] at hb
    have : 1 ≤ i - B.length := by omega
    rw [List.getElem?_eq_none (by simpa using this)] at hb
    cases hb
/-- the state with that unknown -/
def zs_new (q : zs_S) (lo hi : Int) : zs_S := (q.1 ++ [(lo, hi)], q.2)
theorem zs_new_wf {q : zs_S} {lo hi : Int} (h : zs_wf q) : zs_wf (zs_new q lo hi) := by
  have e : (zs_new q lo hi).1.length = q.1.length + 1 := by simp [zs_new]
  have l : q.1.length ≤ (zs_new q lo hi).1.length := by omega
  exact ⟨fun f hf => (h.1 f hf).mono l, fun x hx => (h.2.1 x hx).mono l, fun z hz => (h.2.2.1 z hz).mono l, fun x hx => ⟨Nat.lt_of_lt_of_le (h.2.2.2.1 x hx).1 l, zl_wf.mono (h.2.2.2.1 x hx).2 l⟩, fun g hg => (h.2.2.2.2 g hg).mono l⟩
theorem zs_new_ok {D : va_G} {RT : List zr_R} {ro : Nat → Option Nat} {Ga : List Int} {nL : Nat} {q : zs_S} {v : Nat → Int} {H : Heap} {ls : Array Slot} {st : List Value} {lo hi x : Int} (hw : zs_wf q) (h : zs_ok D RT ro Ga nL q v H ls st) (h1 : hi < lo ∨ (lo ≤ x ∧ x ≤ hi)) :
    zs_ok D RT ro Ga nL (zs_new q lo hi) (zl_up v q.1.length x) H ls st := by
  obtain ⟨hB, hC, ⟨lv, hlv, hL⟩, hS, hF, hG⟩ := h
  refine ⟨hB.push h1, fun f hf => by rw [zl_up_at (hw.1 f hf)]; exact hC f hf, ⟨lv, hlv, fun e he => ?_⟩, zs_st.up hw.2.2.1 hS, fun e he => ?_, ?_⟩
  · obtain ⟨y, h3, h4⟩ := hL e he
    exact ⟨y, h3, zv_ok.up (hw.2.1 e he) h4⟩
  · obtain ⟨a, ci, n, fs, h3, h4, h5, h6, h7⟩ := hF e he
    obtain ⟨w1, w2⟩ := hw.2.2.2.1 e he
    exact ⟨a, ci, n, fs, by rw [show zl_up v q.1.length x e.1.1 = v e.1.1 by simp [zl_up, Nat.ne_of_lt w1]]; exact h3, h4, h5, h6, zv_ok.up w2 h7⟩
  · rw [← hG]
    exact List.map_congr_left (fun g hg => zl_up_at (hw.2.2.2.2 g hg))
end
section
/-! numbers of 32 and 64 bits by their integers -/
theorem zn_i32 (x : Int32) : -2147483648 ≤ x.toInt ∧ x.toInt ≤ 2147483647 := by
  have h1 := Int32.le_toInt x
  have h2 := Int32.toInt_lt x
  exact ⟨by simpa using h1, by omega⟩
theorem zn_i64 (x : Int64) : -9223372036854775808 ≤ x.toInt ∧ x.toInt ≤ 9223372036854775807 := by
  have h1 := Int64.le_toInt x
  have h2 := Int64.toInt_lt x
  exact ⟨by simpa using h1, by omega⟩
theorem zn_b32 {x : Int} (h1 : -2147483648 ≤ x) (h2 : x ≤ 2147483647) : x.bmod (2 ^ 32) = x := Int.bmod_eq_of_le (by omega) (by omega)
theorem zn_b64 {x : Int} (h1 : -9223372036854775808 ≤ x) (h2 : x ≤ 9223372036854775807) : x.bmod (2 ^ 64) = x := Int.bmod_eq_of_le (by omega) (by omega)
theorem zn_add {x y : Int32} (h1 : -2147483648 ≤ x.toInt + y.toInt) (h2 : x.toInt + y.toInt ≤ 2147483647) : (x + y).toInt = x.toInt + y.toInt := by rw [Int32.toInt_add, zn_b32 h1 h2]
theorem zn_sub {x y : Int32} (h1 : -2147483648 ≤ x.toInt - y.toInt) (h2 : x.toInt - y.toInt ≤ 2147483647) : (x - y).toInt = x.toInt - y.toInt := by rw [Int32.toInt_sub, zn_b32 h1 h2]
theorem zn_mul {x y : Int32} (h1 : -2147483648 ≤ x.toInt * y.toInt) (h2 : x.toInt * y.toInt ≤ 2147483647) : (x * y).toInt = x.toInt * y.toInt := by rw [Int32.toInt_mul, zn_b32 h1 h2]
theorem zn_neg {x : Int32} (h1 : -2147483648 ≤ -x.toInt) (h2 : -x.toInt ≤ 2147483647) : (-x).toInt = -x.toInt := by rw [Int32.toInt_neg, zn_b32 h1 h2]
theorem zn_addL {x y : Int64} (h1 : -9223372036854775808 ≤ x.toInt + y.toInt) (h2 : x.toInt + y.toInt ≤ 9223372036854775807) : (x + y).toInt = x.toInt + y.toInt := by rw [Int64.toInt_add, zn_b64 h1 h2]
theorem zn_subL {x y : Int64} (h1 : -9223372036854775808 ≤ x.toInt - y.toInt) (h2 : x.toInt - y.toInt ≤ 9223372036854775807) : (x - y).toInt = x.toInt - y.toInt := by rw [Int64.toInt_sub, zn_b64 h1 h2]
theorem zn_mulL {x y : Int64} (h1 : -9223372036854775808 ≤ x.toInt * y.toInt) (h2 : x.toInt * y.toInt ≤ 9223372036854775807) : (x * y).toInt = x.toInt * y.toInt := by rw [Int64.toInt_mul, zn_b64 h1 h2]
theorem zn_negL {x : Int64} (h1 : -9223372036854775808 ≤ -x.toInt) (h2 : -x.toInt ≤ 9223372036854775807) : (-x).toInt = -x.toInt := by rw [Int64.toInt_neg, zn_b64 h1 h2]
theorem zn_tb {x k : Int} (hk : 0 < k) : k * x.tdiv k ≤ x + (k - 1) ∧ x - (k - 1) ≤ k * x.tdiv k := by
  have h := Int.mul_tdiv_add_tmod x k
  have h3 : x.tmod k < k := Int.tmod_lt_of_pos x hk
  have h4 : -k < x.tmod k := by
    have h5 := Int.tmod_lt_of_pos (-x) hk
    rw [Int.neg_tmod] at h5
    omega
  omega
theorem zn_t0 {x k : Int} (hk : 0 < k) (hx : 0 ≤ x) : k * x.tdiv k ≤ x ∧ 0 ≤ x.tdiv k := by
  have h := Int.mul_tdiv_add_tmod x k
  have h3 : 0 ≤ x.tmod k := Int.tmod_nonneg k hx
  exact ⟨by omega, Int.tdiv_nonneg hx (Int.le_of_lt hk)⟩
theorem zn_tle {x k : Int} (hk : 0 < k) : -(x.natAbs : Int) ≤ x.tdiv k ∧ x.tdiv k ≤ (x.natAbs : Int) := by
  have h : (x.tdiv k).natAbs ≤ x.natAbs := by
    rw [Int.natAbs_tdiv]
    exact Nat.div_le_self _ _
  omega
theorem zn_div {x y : Int32} (hk : 0 < y.toInt) : (x / y).toInt = x.toInt.tdiv y.toInt := by
  have h1 := zn_i32 x
  have h2 := zn_tle (x := x.toInt) hk
  have h3 : -2147483648 ≤ x.toInt.tdiv y.toInt ∧ x.toInt.tdiv y.toInt ≤ 2147483647 := by
    rcases Int.lt_or_le x.toInt 0 with h | h
    · have h4 := Int.tdiv_nonneg (a := -x.toInt) (b := y.toInt) (by omega) (Int.le_of_lt hk)
      rw [Int.neg_tdiv] at h4
      omega
    · omega
  rw [Int32.toInt_div, zn_b32 h3.1 h3.2]
theorem zn_divL {x y : Int64} (hk : 0 < y.toInt) : (x / y).toInt = x.toInt.tdiv y.toInt := by
  have h1 := zn_i64 x
  have h2 := zn_tle (x := x.toInt) hk
  have h3 : -9223372036854775808 ≤ x.toInt.tdiv y.toInt ∧ x.toInt.tdiv y.toInt ≤ 9223372036854775807 := by
    rcases Int.lt_or_le x.toInt 0 with h | h
    · have h4 := Int.tdiv_nonneg (a := -x.toInt) (b := y.toInt) (by omega) (Int.le_of_lt hk)
      rw [Int.neg_tdiv] at h4
      omega
    · omega
  rw [Int64.toInt_div, zn_b64 h3.1 h3.2]
theorem zn_tm {x k : Int} (hk : 0 < k) : -(k - 1) ≤ x - x.tdiv k * k ∧ x - x.tdiv k * k ≤ k - 1 ∧ (0 ≤ x → 0 ≤ x - x.tdiv k * k ∧ x - x.tdiv k * k ≤ x) := by
  have h := zn_tb (x := x) hk
  rw [Int.mul_comm]
  refine ⟨by omega, by omega, fun h0 => ?_⟩
  have h2 := zn_t0 hk h0
  refine ⟨by omega, ?_⟩
  have h3 := Int.mul_nonneg (Int.le_of_lt hk) h2.2
  omega
theorem zn_rem {x y : Int32} (hk : 0 < y.toInt) : (x - x / y * y).toInt = x.toInt - x.toInt.tdiv y.toInt * y.toInt := by
  have h1 := zn_i32 x
  have h2 := zn_i32 y
  have h3 := zn_div (x := x) hk
  have h4 := zn_tm (x := x.toInt) hk
  have h6 : -2147483648 ≤ x.toInt.tdiv y.toInt * y.toInt ∧ x.toInt.tdiv y.toInt * y.toInt ≤ 2147483647 := by
    have h5 := Int.mul_tdiv_add_tmod x.toInt y.toInt
    rcases Int.lt_or_le x.toInt 0 with h | h
    · have h7 : 0 ≤ (-x.toInt).tmod y.toInt := Int.tmod_nonneg _ (by omega)
      rw [Int.neg_tmod] at h7
      rw [Int.mul_comm]
      have h8 := Int.mul_nonneg (Int.le_of_lt hk) (Int.tdiv_nonneg (a := -x.toInt) (by omega) (Int.le_of_lt hk))
      rw [Int.neg_tdiv, Int.mul_neg] at h8
      omega
    · have h7 := zn_t0 hk h
      rw [Int.mul_comm]
      have h8 := Int.mul_nonneg (Int.le_of_lt hk) h7.2
      omega
  have h5 : (x / y * y).toInt = x.toInt.tdiv y.toInt * y.toInt := by rw [zn_mul (by rw [h3]; exact h6.1) (by rw [h3]; exact h6.2), h3]
  rw [zn_sub (by rw [h5]; omega) (by rw [h5]; omega), h5]
theorem zn_remL {x y : Int64} (hk : 0 < y.toInt) : (x - x / y * y).toInt = x.toInt - x.toInt.tdiv y.toInt * y.toInt := by
  have h1 := zn_i64 x
  have h2 := zn_i64 y
  have h3 := zn_divL (x := x) hk
  have h4 := zn_tm (x := x.toInt) hk
  have h6 : -9223372036854775808 ≤ x.toInt.tdiv y.toInt * y.toInt ∧ x.toInt.tdiv y.toInt * y.toInt ≤ 9223372036854775807 := by
    have h5 := Int.mul_tdiv_add_tmod x.toInt y.toInt
    rcases Int.lt_or_le x.toInt 0 with h | h
    · have h7 : 0 ≤ (-x.toInt).tmod y.toInt := Int.tmod_nonneg _ (by omega)
      rw [Int.neg_tmod] at h7
      rw [Int.mul_comm]
      have h8 := Int.mul_nonneg (Int.le_of_lt hk) (Int.tdiv_nonneg (a := -x.toInt) (by omega) (Int.le_of_lt hk))
      rw [Int.neg_tdiv, Int.mul_neg] at h8
      omega
    · have h7 := zn_t0 hk h
      rw [Int.mul_comm]
      have h8 := Int.mul_nonneg (Int.le_of_lt hk) h7.2
      omega
  have h5 : (x / y * y).toInt = x.toInt.tdiv y.toInt * y.toInt := by rw [zn_mulL (by rw [h3]; exact h6.1) (by rw [h3]; exact h6.2), h3]
  rw [zn_subL (by rw [h5]; omega) (by rw [h5]; omega), h5]
theorem zn_i2l (x : Int32) : x.toInt64.toInt = x.toInt := Int32.toInt_toInt64 x
theorem zn_l2i {x : Int64} (h1 : -2147483648 ≤ x.toInt) (h2 : x.toInt ≤ 2147483647) : x.toInt32.toInt = x.toInt := by rw [Int64.toInt_toInt32, zn_b32 h1 h2]
theorem zn_i8 (x : Int8) : -128 ≤ x.toInt ∧ x.toInt ≤ 127 := by
  have h1 := Int8.le_toInt x
  have h2 := Int8.toInt_lt x
  exact ⟨by simpa using h1, by omega⟩
theorem zn_i2b (x : Int32) : -128 ≤ x.toInt8.toInt32.toInt ∧ x.toInt8.toInt32.toInt ≤ 127 := by
  rw [Int8.toInt_toInt32]; exact zn_i8 _
theorem zn_cmp (x y : Int64) : -1 ≤ (lg_cmp x y).toInt ∧ (lg_cmp x y).toInt ≤ 1 := by
  unfold lg_cmp
  split
  · decide
  · split <;> decide
end
section
/-! steps of abstract states, one instruction behind another; G pc H locs ls st: from there the machine comes to its goal -/
abbrev zg_G : Type := Nat → Heap → List Loc → Array Slot → List Value → Prop
def zw (D : va_G) (cA : Nat → ClassId) (RT : List zr_R) (ro : Nat → Option Nat) (sz : Nat) (H0 : Heap) (Ga : List Int) (nL : Nat) (G : zg_G) (pc : Nat) (q : zs_S) : Prop :=
  zs_wf q → ∀ (v : Nat → Int) (H : Heap) (locs : List Loc) (ls : Array Slot) (st : List Value), zs_ok D RT ro Ga nL q v H ls st → zh_ok D cA RT ro sz H0 H locs → G pc H locs ls st
def zq_S (q : zs_S) (S : List zv_V) : zs_S := (q.1, q.2.1, q.2.2.1, S, q.2.2.2.2)
theorem zq_S_wf {q : zs_S} {S : List zv_V} (h : zs_wf q) (hS : ∀ z ∈ S, zv_wf q.1.length z) : zs_wf (zq_S q S) := ⟨h.1, h.2.1, hS, h.2.2.2⟩
theorem zq_S_ok {D : va_G} {RT : List zr_R} {ro : Nat → Option Nat} {Ga : List Int} {nL : Nat} {q : zs_S} {v : Nat → Int} {H : Heap} {ls : Array Slot} {st st' : List Value} {S : List zv_V} (h : zs_ok D RT ro Ga nL q v H ls st) (hS : zs_st ro v st' S) : zs_ok D RT ro Ga nL (zq_S q S) v H ls st' := ⟨h.1, h.2.1, h.2.2.1, hS, h.2.2.2.2⟩
/-- f between lo and hi, by what the state knows -/
def zx_in (q : zs_S) (lo hi : Int) (f : zl_F) : Bool := zl_le q.1 q.2.1 (zl_sub f (zl_k hi)) && zl_le q.1 q.2.1 (zl_sub (zl_k lo) f)
theorem zx_in_ok {D : va_G} {RT : List zr_R} {ro : Nat → Option Nat} {Ga : List Int} {nL : Nat} {q : zs_S} {v : Nat → Int} {H : Heap} {ls : Array Slot} {st : List Value} (h : zs_ok D RT ro Ga nL q v H ls st) {lo hi : Int} {f : zl_F} (hi' : zx_in q lo hi f = true) : lo ≤ zl_at v f ∧ zl_at v f ≤ hi := by
  unfold zx_in at hi'
  rw [Bool.and_eq_true] at hi'
  have h1 := zl_le_ok h.1 h.2.1 hi'.1
  have h2 := zl_le_ok h.1 h.2.1 hi'.2
  rw [zl_sub_at, zl_k_at] at h1 h2
  omega
/-- push a number of kind k (0, 1) that is f if f is between lo and hi, else a new unknown between them -/
def zx_pu (k : Nat) (lo hi : Int) (q : zs_S) (S : List zv_V) (f : zl_F) : zs_S := match zx_in q lo hi f with
  | true => zq_S q ((k, f) :: S)
  | false => zq_S (zs_new q lo hi) ((k, zl_id q.1.length) :: S)
/-- push a new unknown between lo and hi -/
def zx_fr (k : Nat) (lo hi : Int) (q : zs_S) (S : List zv_V) : zs_S := zq_S (zs_new q lo hi) ((k, zl_id q.1.length) :: S)
def zx_nv (k : Nat) (z : Int) (x : Value) : Prop := (k = 0 ∧ ∃ y : Int32, x = .int y ∧ y.toInt = z) ∨ (k = 1 ∧ ∃ y : Int64, x = .long y ∧ y.toInt = z)
theorem zx_nv.ok {ro : Nat → Option Nat} {v : Nat → Int} {k : Nat} {z : Int} {x : Value} {f : zl_F} (h : zx_nv k z x) (e : z = zl_at v f) : zv_ok ro v x (k, f) := by
  rcases h with ⟨rfl, y, h1, h2⟩ | ⟨rfl, y, h1, h2⟩
  · exact ⟨y, h1, by rw [h2]; exact e⟩
  · exact ⟨y, h1, by rw [h2]; exact e⟩
section ZQ
variable {D : va_G} {cA : Nat → ClassId} {RT : List zr_R} {ro : Nat → Option Nat} {sz : Nat} {H0 : Heap} {Ga : List Int} {nL : Nat} {G : zg_G} {pc pc' : Nat} {q : zs_S}
theorem zx_fr_wf {k : Nat} {lo hi : Int} {S : List zv_V} (hw : zs_wf q) (hS : ∀ z ∈ S, zv_wf q.1.length z) : zs_wf (zx_fr k lo hi q S) := by
  have e : (zs_new q lo hi).1.length = q.1.length + 1 := by simp [zs_new]
  refine zq_S_wf (zs_new_wf hw) (fun z hz => ?_)
  rcases List.mem_cons.mp hz with h | h
  · rw [h]; exact zl_id_wf (by omega)
  · exact zl_wf.mono (hS z h) (by omega)
theorem zx_pu_wf {k : Nat} {lo hi : Int} {S : List zv_V} {f : zl_F} (hw : zs_wf q) (hS : ∀ z ∈ S, zv_wf q.1.length z) (hf : zl_wf q.1.length f) : zs_wf (zx_pu k lo hi q S f) := by
  unfold zx_pu
  split
  · refine zq_S_wf hw (fun z hz => ?_)
    rcases List.mem_cons.mp hz with h | h
    · rw [h]; exact hf
    · exact hS z h
  · exact zx_fr_wf hw hS
theorem zx_fr_ok {k : Nat} {lo hi z : Int} {S : List zv_V} {v : Nat → Int} {H : Heap} {ls : Array Slot} {st st' : List Value} {x : Value} (hw : zs_wf q) (hSw : ∀ z ∈ S, zv_wf q.1.length z) (h : zs_ok D RT ro Ga nL q v H ls st) (hS : zs_st ro v st' S) (hx : zx_nv k z x) (h1 : lo ≤ z) (h2 : z ≤ hi) :
    zs_ok D RT ro Ga nL (zx_fr k lo hi q S) (zl_up v q.1.length z) H ls (x :: st') := by
  refine zq_S_ok (zs_new_ok hw h (Or.inr ⟨h1, h2⟩)) ⟨hx.ok ?_, zs_st.up hSw hS⟩
  rw [zl_id_at]; simp [zl_up]
theorem zx_pu_ok {k : Nat} {lo hi z : Int} {S : List zv_V} {f : zl_F} {v : Nat → Int} {H : Heap} {ls : Array Slot} {st st' : List Value} {x : Value} (hw : zs_wf q) (hSw : ∀ z ∈ S, zv_wf q.1.length z) (h : zs_ok D RT ro Ga nL q v H ls st) (hS : zs_st ro v st' S) (hx : zx_nv k z x) (h1 : lo ≤ z) (h2 : z ≤ hi) (hf : lo ≤ zl_at v f → zl_at v f ≤ hi → z = zl_at v f) :
    ∃ v', zs_ok D RT ro Ga nL (zx_pu k lo hi q S f) v' H ls (x :: st') := by
  unfold zx_pu
  split
  · rename_i hin
    obtain ⟨g1, g2⟩ := zx_in_ok h hin
    exact ⟨v, zq_S_ok h ⟨hx.ok (hf g1 g2), hS⟩⟩
  · exact ⟨_, zx_fr_ok hw hSw h hS hx h1 h2⟩
/-- a constant -/
theorem zi_const {k : Nat} {n : Int} {x : Value} (hx : zx_nv k n x) (row : ∀ H locs ls st, G pc' H locs ls (x :: st) → G pc H locs ls st)
    (K : zw D cA RT ro sz H0 Ga nL G pc' (zq_S q ((k, zl_k n) :: q.2.2.2.1))) : zw D cA RT ro sz H0 Ga nL G pc q := by
  intro hw v H locs ls st h hh
  refine row _ _ _ _ (K (zq_S_wf hw (fun z hz => ?_)) v H locs ls _ (zq_S_ok h ⟨hx.ok (zl_k_at v n).symm, h.2.2.2.1⟩) hh)
  rcases List.mem_cons.mp hz with e | e
  · rw [e]; exact zl_k_wf
  · exact hw.2.2.1 z e
/-- null -/
theorem zi_null (row : ∀ H locs ls st, G pc' H locs ls (.null :: st) → G pc H locs ls st)
    (K : zw D cA RT ro sz H0 Ga nL G pc' (zq_S q ((2, zl_k (-1)) :: q.2.2.2.1))) : zw D cA RT ro sz H0 Ga nL G pc q := by
  intro hw v H locs ls st h hh
  refine row _ _ _ _ (K (zq_S_wf hw (fun z hz => ?_)) v H locs ls _ (zq_S_ok h ⟨⟨rfl, zl_k_at v (-1)⟩, h.2.2.2.1⟩) hh)
  rcases List.mem_cons.mp hz with e | e
  · rw [e]; exact zl_k_wf
  · exact hw.2.2.1 z e
/-- loads -/
def zx_get (L : List (Nat × zv_V)) (i : Nat) : Option zv_V := match L with
  | [] => none
  | e :: t => match Nat.beq e.1 i with
    | true => some e.2
    | false => zx_get t i
theorem zx_get_mem {L : List (Nat × zv_V)} {i : Nat} {z : zv_V} (h : zx_get L i = some z) : (i, z) ∈ L := by
  induction L with
  | nil => cases h
  | cons e t ih =>
    unfold zx_get at h
    split at h
    · rename_i he
      have he := Nat.eq_of_beq_eq_true he
      obtain ⟨a, b⟩ := e
      cases h
      subst he
      exact List.mem_cons_self
    · exact List.mem_cons_of_mem _ (ih h)
theorem zi_load {i : Nat} {z : zv_V} (hz : zx_get q.2.2.1 i = some z) (row : ∀ v H locs ls st x, zv_ok ro v x z → ls[i]? = some (.val x) → G pc' H locs ls (x :: st) → G pc H locs ls st)
    (K : zw D cA RT ro sz H0 Ga nL G pc' (zq_S q (z :: q.2.2.2.1))) : zw D cA RT ro sz H0 Ga nL G pc q := by
  intro hw v H locs ls st h hh
  have hm := zx_get_mem hz
  obtain ⟨lv, hlv, hL⟩ := h.2.2.1
  obtain ⟨x, hx, hok⟩ := hL _ hm
  refine row v _ _ _ _ x hok (hlv.2.2 _ hx) (K (zq_S_wf hw (fun y hy => ?_)) v H locs ls _ (zq_S_ok h ⟨hok, h.2.2.2.1⟩) hh)
  rcases List.mem_cons.mp hy with e | e
  · rw [e]; exact hw.2.1 _ hm
  · exact hw.2.2.1 y e
/-- stores -/
def zx_put (L : List (Nat × zv_V)) (i : Nat) (z : zv_V) : List (Nat × zv_V) :=
  (i, z) :: L.filter (fun e => !(Nat.beq e.1 i) && !(Nat.beq e.1 (i + 1) && Nat.beq z.1 1) && !(Nat.beq (e.1 + 1) i && Nat.beq e.2.1 1))
def zq_LS (q : zs_S) (L : List (Nat × zv_V)) (S : List zv_V) : zs_S := (q.1, q.2.1, L, S, q.2.2.2.2)
theorem zi_store {i : Nat} {z : zv_V} {S : List zv_V} (hS : q.2.2.2.1 = z :: S)
    (row : ∀ v H locs ls st x lv, zv_ok ro v x z → lv_has ls nL lv → (∀ ls', (∃ lv', lv_has ls' nL lv' ∧ (i, x) ∈ lv' ∧ ∀ j y, (j, y) ∈ lv → ¬ j = i → ¬ (j = i + 1 ∧ z.1 = 1) → ¬ (j + 1 = i ∧ y.category = 2) → (j, y) ∈ lv') → G pc' H locs ls' st) → G pc H locs ls (x :: st))
    (K : zw D cA RT ro sz H0 Ga nL G pc' (zq_LS q (zx_put q.2.2.1 i z) S)) : zw D cA RT ro sz H0 Ga nL G pc q := by
  intro hw v H locs ls st h hh
  obtain ⟨hB, hC, ⟨lv, hlv, hL⟩, hst, hF⟩ := h
  rw [hS] at hst
  match st, hst with
  | x :: st, hst =>
    refine row v _ _ _ _ x lv hst.1 hlv (fun ls' ⟨lv', h1, h2, h3⟩ => K ?_ v H locs ls' st ⟨hB, hC, ⟨lv', h1, fun e he => ?_⟩, hst.2, hF⟩ hh)
    · refine ⟨hw.1, fun e he => ?_, fun y hy => hw.2.2.1 y (by rw [hS]; exact List.mem_cons_of_mem _ hy), hw.2.2.2⟩
      rcases List.mem_cons.mp he with e' | e'
      · rw [e']; exact hw.2.2.1 z (by rw [hS]; exact List.mem_cons_self)
      · exact hw.2.1 e (List.mem_filter.mp e').1
    · rcases List.mem_cons.mp he with e' | e'
      · rw [e']; exact ⟨x, h2, hst.1⟩
      · obtain ⟨m1, m2⟩ := List.mem_filter.mp e'
        obtain ⟨y, y1, y2⟩ := hL e m1
        simp only [Bool.and_eq_true, Bool.not_eq_true', Bool.and_eq_false_iff] at m2
        obtain ⟨⟨m3, m4⟩, m5⟩ := m2
        refine ⟨y, h3 _ _ y1 (fun g => ?_) (fun g => ?_) (fun g => ?_), y2⟩
        · rw [g, Nat.beq_refl] at m3; cases m3
        · rw [g.1, g.2, Nat.beq_refl, Nat.beq_refl] at m4; rcases m4 with m | m <;> cases m
        · rw [g.1, Nat.beq_refl] at m5
          have c := zv_cat y2
          rw [g.2] at c
          by_cases k : e.2.1 = 1
          · rw [k, Nat.beq_refl] at m5; rcases m5 with m | m <;> cases m
          · rw [if_neg k] at c; cases c
end ZQ
end
section
/-! what a branch teaches: a relation 'g ≤ 0' -/
/-- the terms of g but those of unknown i -/
def zx_wo (i : Nat) (t : zl_T) : zl_T := t.filter (fun q => !(Nat.beq q.1 i))
/-- the factor of i, if i stands once -/
def zx_fa (i : Nat) : zl_T → Int
  | [] => 0
  | q :: t => match Nat.beq q.1 i with
    | true => q.2 + zx_fa i t
    | false => zx_fa i t
theorem zx_wo_ev (v : Nat → Int) (i : Nat) (t : zl_T) : zl_ev v t = zx_fa i t * v i + zl_ev v (zx_wo i t) := by
  induction t with
  | nil => simp [zl_ev, zx_fa, zx_wo]
  | cons q t ih =>
    unfold zx_fa zx_wo
    cases h : Nat.beq q.1 i with
    | true =>
      have h' := Nat.eq_of_beq_eq_true h
      rw [List.filter_cons_of_neg (by simp [h])]
      show q.2 * v q.1 + zl_ev v t = (q.2 + zx_fa i t) * v i + zl_ev v (zx_wo i t)
      rw [ih, h', Int.add_mul]; omega
    | false =>
      rw [List.filter_cons_of_pos (by simp [h])]
      show q.2 * v q.1 + zl_ev v t = zx_fa i t * v i + (q.2 * v q.1 + zl_ev v (zx_wo i t))
      rw [ih]; omega
def zx_ngT (t : zl_T) : zl_T := t.map (fun q => (q.1, -1 * q.2))
theorem zx_ngT_ev (v : Nat → Int) (t : zl_T) : zl_ev v (zx_ngT t) = - zl_ev v t := by
  induction t with
  | nil => simp [zl_ev, zx_ngT]
  | cons q t ih =>
    show -1 * q.2 * v q.1 + zl_ev v (zx_ngT t) = -(q.2 * v q.1 + zl_ev v t)
    rw [ih, Int.mul_assoc, Int.neg_one_mul]; omega
/-- bounds of unknown i by g ≤ 0 -/
def zx_t1 (g : zl_F) (i : Nat) (B : zl_B) : zl_B := match B[i]?, zl_ub B (zx_ngT (zx_wo i g.1)) with
  | some b, some r => (match zx_fa i g.1 with
    | .ofNat (c + 1) => (match decide (b.2 < b.1), decide ((r - g.2) / ((c + 1 : Nat) : Int) < b.1) with
      | false, false => B.set i (b.1, min b.2 ((r - g.2) / ((c + 1 : Nat) : Int)))
      | _, _ => B)
    | .negSucc c => (match decide (b.2 < b.1), decide (b.2 < -((r - g.2) / ((c + 1 : Nat) : Int))) with
      | false, false => B.set i (max b.1 (-((r - g.2) / ((c + 1 : Nat) : Int))), b.2)
      | _, _ => B)
    | _ => B)
  | _, _ => B
theorem zl_bd.set {v : Nat → Int} {B : zl_B} {i : Nat} {b : Int × Int} (h : zl_bd v B) (hb : b.1 ≤ v i ∧ v i ≤ b.2) : zl_bd v (B.set i b) := by
  intro j c hc
  by_cases e : i = j
  · subst e
    by_cases hi : i < B.length
    · rw [List.getElem?_set_self hi] at hc
      cases hc
      exact Or.inr hb
    · rw [List.getElem?_eq_none (by simpa using Nat.not_lt.mp hi)] at hc
      cases hc
  · rw [List.getElem?_set_ne e] at hc
    exact h j c hc
theorem zx_t1_len (g : zl_F) (i : Nat) (B : zl_B) : (zx_t1 g i B).length = B.length := by
  unfold zx_t1
  repeat' split
  all_goals first | rfl | simp
theorem zx_t1_ok {v : Nat → Int} {g : zl_F} {i : Nat} {B : zl_B} (h : zl_bd v B) (hg : zl_at v g ≤ 0) : zl_bd v (zx_t1 g i B) := by
  unfold zx_t1
  split
  · rename_i b r hb hr
    have e1 := zl_ub_ok h _ _ hr
    rw [zx_ngT_ev] at e1
    have e2 := zx_wo_ev v i g.1
    unfold zl_at at hg
    split
    · rename_i c hf
      split
      · rename_i d1 d2
        have d1 := of_decide_eq_false d1
        have hB := (h _ _ hb).resolve_left d1
        refine h.set ⟨hB.1, ?_⟩
        rw [hf] at e2
        have hc : (0 : Int) < ((c + 1 : Nat) : Int) := by omega
        have h2 : v i ≤ (r - g.2) / ((c + 1 : Nat) : Int) := by
          rw [Int.le_ediv_iff_mul_le hc, Int.mul_comm]
          have : Int.ofNat (c + 1) * v i = ((c + 1 : Nat) : Int) * v i := rfl
          rw [this] at e2
          omega
        show v i ≤ min b.2 ((r - g.2) / ((c + 1 : Nat) : Int))
        omega
      · exact h
    · rename_i c hf
      split
      · rename_i d1 d2
        have d1 := of_decide_eq_false d1
        have hB := (h _ _ hb).resolve_left d1
        refine h.set ⟨?_, hB.2⟩
        rw [hf] at e2
        have hc : (0 : Int) < ((c + 1 : Nat) : Int) := by omega
        have h2 : -(v i) ≤ (r - g.2) / ((c + 1 : Nat) : Int) := by
          rw [Int.le_ediv_iff_mul_le hc, Int.mul_comm]
          have : Int.negSucc c * v i = ((c + 1 : Nat) : Int) * -(v i) := by
            rw [show Int.negSucc c = -((c + 1 : Nat) : Int) from rfl, Int.neg_mul, Int.mul_neg]
          rw [this] at e2
          omega
        show max b.1 (-((r - g.2) / ((c + 1 : Nat) : Int))) ≤ v i
        omega
      · exact h
    · exact h
  · exact h
def zx_tg (g : zl_F) (B : zl_B) : zl_B := g.1.foldr (fun q a => zx_t1 g q.1 a) B
theorem zx_tg_len (g : zl_F) (B : zl_B) : (zx_tg g B).length = B.length := by
  unfold zx_tg
  generalize g.1 = t
  induction t with
  | nil => rfl
  | cons q t ih => rw [List.foldr_cons, zx_t1_len, ih]
theorem zx_tg_ok {v : Nat → Int} {g : zl_F} {B : zl_B} (h : zl_bd v B) (hg : zl_at v g ≤ 0) : zl_bd v (zx_tg g B) := by
  unfold zx_tg
  generalize g.1 = t
  induction t with
  | nil => exact h
  | cons q t ih => exact zx_t1_ok ih hg
/-- the relations with g: kept if it has two unknowns or more; if it can't be, '1 ≤ 0' alone -/
def zx_ac (B : zl_B) (C : List zl_F) (g : zl_F) : List zl_F := match zl_n1 B (zl_sub (zl_k 1) g) with
  | true => [zl_k 1]
  | false => (match g.1 with
    | [] => C
    | [_] => C
    | _ => g :: C)
theorem zx_ac_wf {n : Nat} {B : zl_B} {C : List zl_F} {g : zl_F} (hg : zl_wf n g) (hC : ∀ f ∈ C, zl_wf n f) : ∀ f ∈ zx_ac B C g, zl_wf n f := by
  unfold zx_ac
  split
  · intro f hf
    rw [List.mem_singleton.mp hf]; exact zl_k_wf
  · split
    · exact hC
    · exact hC
    · intro f hf
      rcases List.mem_cons.mp hf with e | e
      · rw [e]; exact hg
      · exact hC f e
theorem zx_ac_ok {v : Nat → Int} {B : zl_B} {C : List zl_F} {g : zl_F} (hB : zl_bd v B) (hg : zl_at v g ≤ 0) (hC : ∀ f ∈ C, zl_at v f ≤ 0) : ∀ f ∈ zx_ac B C g, zl_at v f ≤ 0 := by
  unfold zx_ac
  split
  · rename_i h
    have h := zl_n1_ok hB h
    rw [zl_sub_at, zl_k_at] at h
    omega
  · split
    · exact hC
    · exact hC
    · intro f hf
      rcases List.mem_cons.mp hf with e | e
      · rw [e]; exact hg
      · exact hC f e
/-- the state that knows 'g ≤ 0' too -/
def zx_as (q : zs_S) (g : zl_F) : zs_S := (zx_tg g q.1, zx_ac q.1 q.2.1 g, q.2.2)
theorem zx_as_wf {q : zs_S} {g : zl_F} (h : zs_wf q) (hg : zl_wf q.1.length g) : zs_wf (zx_as q g) := by
  unfold zs_wf zx_as
  dsimp only
  rw [zx_tg_len]
  exact ⟨zx_ac_wf hg h.1, h.2⟩
theorem zx_as_ok {D : va_G} {RT : List zr_R} {ro : Nat → Option Nat} {Ga : List Int} {nL : Nat} {q : zs_S} {v : Nat → Int} {H : Heap} {ls : Array Slot} {st : List Value} {g : zl_F} (h : zs_ok D RT ro Ga nL q v H ls st) (hg : zl_at v g ≤ 0) : zs_ok D RT ro Ga nL (zx_as q g) v H ls st :=
  ⟨zx_tg_ok h.1 hg, zx_ac_ok h.1 hg h.2.1, h.2.2⟩
/-- nothing can be in this state -/
def zx_no (q : zs_S) : Bool := match q.2.1 with
  | ([], k) :: _ => decide (0 < k)
  | _ => false
theorem zx_no_ok {D : va_G} {RT : List zr_R} {ro : Nat → Option Nat} {Ga : List Int} {nL : Nat} {q : zs_S} {v : Nat → Int} {H : Heap} {ls : Array Slot} {st : List Value} (h : zs_ok D RT ro Ga nL q v H ls st) (hn : zx_no q = true) : False := by
  unfold zx_no at hn
  split at hn
  · rename_i k t e
    have h1 := of_decide_eq_true hn
    have h2 := h.2.1 ([], k) (by rw [e]; exact List.mem_cons_self)
    simp [zl_at, zl_ev] at h2
    omega
  · cases hn
/-- the branch 'f c 0': taken (b) or not -/
def zx_br (c : Jvm.ClassFile.Cond) (b : Bool) (q : zs_S) (f : zl_F) : zs_S := match c, b with
  | .lt, true | .ge, false => zx_as q (zl_add (zl_k 1) f)
  | .lt, false | .ge, true => zx_as q (zl_neg f)
  | .gt, true | .le, false => zx_as q (zl_sub (zl_k 1) f)
  | .gt, false | .le, true => zx_as q f
  | .eq, true | .ne, false => zx_as (zx_as q f) (zl_neg f)
  | .eq, false | .ne, true => match zl_le q.1 q.2.1 f with
    | true => zx_as q (zl_add (zl_k 1) f)
    | false => (match zl_le q.1 q.2.1 (zl_neg f) with
      | true => zx_as q (zl_sub (zl_k 1) f)
      | false => q)
def zx_cb (c : Jvm.ClassFile.Cond) (z : Int) : Prop := match c with
  | .lt => z < 0
  | .ge => 0 ≤ z
  | .gt => 0 < z
  | .le => z ≤ 0
  | .eq => z = 0
  | .ne => ¬ z = 0
theorem zx_br_wf {q : zs_S} {f : zl_F} (c : Jvm.ClassFile.Cond) (b : Bool) (h : zs_wf q) (hf : zl_wf q.1.length f) : zs_wf (zx_br c b q f) := by
  have hn : zl_wf q.1.length (zl_neg f) := zl_mul_wf hf
  have h1 : zs_wf (zx_as q (zl_add (zl_k 1) f)) := zx_as_wf h (zl_add_wf zl_k_wf hf)
  have h2 : zs_wf (zx_as q (zl_sub (zl_k 1) f)) := zx_as_wf h (zl_sub_wf zl_k_wf hf)
  have h3 : zs_wf (zx_as (zx_as q f) (zl_neg f)) := zx_as_wf (zx_as_wf h hf) (by rw [show (zx_as q f).1.length = q.1.length from zx_tg_len _ _]; exact hn)
  unfold zx_br
  cases c <;> cases b <;> dsimp only <;> first | exact h1 | exact h2 | exact h3 | exact zx_as_wf h hn | exact zx_as_wf h hf | skip
  all_goals
    split
    · exact h1
    · split
      · exact h2
      · exact h
theorem zx_br_ok {D : va_G} {RT : List zr_R} {ro : Nat → Option Nat} {Ga : List Int} {nL : Nat} {q : zs_S} {v : Nat → Int} {H : Heap} {ls : Array Slot} {st : List Value} {f : zl_F} (c : Jvm.ClassFile.Cond) (b : Bool) (h : zs_ok D RT ro Ga nL q v H ls st) (hc : b = true ↔ zx_cb c (zl_at v f)) : zs_ok D RT ro Ga nL (zx_br c b q f) v H ls st := by
  have hne : ¬ zl_at v f = 0 → zs_ok D RT ro Ga nL (match zl_le q.1 q.2.1 f with
    | true => zx_as q (zl_add (zl_k 1) f)
    | false => (match zl_le q.1 q.2.1 (zl_neg f) with
      | true => zx_as q (zl_sub (zl_k 1) f)
      | false => q)) v H ls st := by
    intro hn
    split
    · rename_i e
      have := zl_le_ok h.1 h.2.1 e
      exact zx_as_ok h (by rw [zl_add_at, zl_k_at]; omega)
    · split
      · rename_i e
        have := zl_le_ok h.1 h.2.1 e
        rw [zl_neg_at] at this
        exact zx_as_ok h (by rw [zl_sub_at, zl_k_at]; omega)
      · exact h
  have heq : zl_at v f = 0 → zs_ok D RT ro Ga nL (zx_as (zx_as q f) (zl_neg f)) v H ls st := fun e => zx_as_ok (zx_as_ok h (by omega)) (by rw [zl_neg_at]; omega)
  unfold zx_br
  cases c <;> cases b <;> simp only [zx_cb, true_iff, Bool.false_eq_true, false_iff, Int.not_lt, Int.not_le, Decidable.not_not] at hc <;> dsimp only
  all_goals first
    | exact hne hc
    | exact heq hc
    | exact zx_as_ok h (by rw [zl_add_at, zl_k_at]; omega)
    | exact zx_as_ok h (by rw [zl_sub_at, zl_k_at]; omega)
    | exact zx_as_ok h (by rw [zl_neg_at]; omega)
    | exact zx_as_ok h (by omega)
end
section
/-! arithmetic -/
section ZA
variable {D : va_G} {cA : Nat → ClassId} {RT : List zr_R} {ro : Nat → Option Nat} {sz : Nat} {H0 : Heap} {Ga : List Int} {nL : Nat} {G : zg_G} {pc pc' : Nat} {q : zs_S}
/-- two numbers off, one on: f where it fits -/
theorem zi_bin {k : Nat} {lo hi : Int} {za zb : zv_V} {S : List zv_V} {f : zl_F} (hS : q.2.2.2.1 = zb :: za :: S) (hf : zl_wf q.1.length za.2 → zl_wf q.1.length zb.2 → zl_wf q.1.length f)
    (op : ∀ v vx vy, zv_ok ro v vx za → zv_ok ro v vy zb → ∃ (x : Value) (z : Int), zx_nv k z x ∧ lo ≤ z ∧ z ≤ hi ∧ (lo ≤ zl_at v f → zl_at v f ≤ hi → z = zl_at v f) ∧ ∀ H locs ls st, G pc' H locs ls (x :: st) → G pc H locs ls (vy :: vx :: st))
    (K : zw D cA RT ro sz H0 Ga nL G pc' (zx_pu k lo hi q S f)) : zw D cA RT ro sz H0 Ga nL G pc q := by
  intro hw v H locs ls st h hh
  have hst := h.2.2.2.1
  rw [hS] at hst
  match st, hst with
  | vy :: vx :: st, hst =>
    have wS : ∀ z ∈ S, zv_wf q.1.length z := fun z hz => hw.2.2.1 z (by rw [hS]; exact List.mem_cons_of_mem _ (List.mem_cons_of_mem _ hz))
    have wa := hw.2.2.1 za (by rw [hS]; exact List.mem_cons_of_mem _ List.mem_cons_self)
    have wb := hw.2.2.1 zb (by rw [hS]; exact List.mem_cons_self)
    obtain ⟨x, z, hx, h1, h2, h3, row⟩ := op v vx vy hst.2.1 hst.1
    obtain ⟨v', h4⟩ := zx_pu_ok (k := k) hw wS h hst.2.2 hx h1 h2 h3
    exact row _ _ _ _ (K (zx_pu_wf hw wS (hf wa wb)) v' H locs ls _ h4 hh)
/-- one off, one on -/
theorem zi_un {k : Nat} {lo hi : Int} {za : zv_V} {S : List zv_V} {f : zl_F} (hS : q.2.2.2.1 = za :: S) (hf : zl_wf q.1.length za.2 → zl_wf q.1.length f)
    (op : ∀ v vx, zv_ok ro v vx za → ∃ (x : Value) (z : Int), zx_nv k z x ∧ lo ≤ z ∧ z ≤ hi ∧ (lo ≤ zl_at v f → zl_at v f ≤ hi → z = zl_at v f) ∧ ∀ H locs ls st, G pc' H locs ls (x :: st) → G pc H locs ls (vx :: st))
    (K : zw D cA RT ro sz H0 Ga nL G pc' (zx_pu k lo hi q S f)) : zw D cA RT ro sz H0 Ga nL G pc q := by
  intro hw v H locs ls st h hh
  have hst := h.2.2.2.1
  rw [hS] at hst
  match st, hst with
  | vx :: st, hst =>
    have wS : ∀ z ∈ S, zv_wf q.1.length z := fun z hz => hw.2.2.1 z (by rw [hS]; exact List.mem_cons_of_mem _ hz)
    have wa := hw.2.2.1 za (by rw [hS]; exact List.mem_cons_self)
    obtain ⟨x, z, hx, h1, h2, h3, row⟩ := op v vx hst.1
    obtain ⟨v', h4⟩ := zx_pu_ok (k := k) hw wS h hst.2 hx h1 h2 h3
    exact row _ _ _ _ (K (zx_pu_wf hw wS (hf wa)) v' H locs ls _ h4 hh)
/-- two off, a new unknown between lo and hi on, of which the relations Rs hold -/
def zx_fR (k : Nat) (lo hi : Int) (q : zs_S) (S : List zv_V) (Rs : List zl_F) : zs_S := Rs.foldr (fun g a => zx_as a g) (zx_fr k lo hi q S)
theorem zx_fold_len (q : zs_S) (Rs : List zl_F) : (Rs.foldr (fun g a => zx_as a g) q).1.length = q.1.length := by
  induction Rs with
  | nil => rfl
  | cons g t ih => rw [List.foldr_cons, show (zx_as _ g).1.length = _ from zx_tg_len _ _, ih]
theorem zx_fold_wf {q : zs_S} {Rs : List zl_F} (h : zs_wf q) (hR : ∀ g ∈ Rs, zl_wf q.1.length g) : zs_wf (Rs.foldr (fun g a => zx_as a g) q) := by
  induction Rs with
  | nil => exact h
  | cons g t ih => exact zx_as_wf (ih (fun x hx => hR x (List.mem_cons_of_mem _ hx))) (by rw [zx_fold_len]; exact hR g List.mem_cons_self)
theorem zx_fold_ok {q : zs_S} {v : Nat → Int} {H : Heap} {ls : Array Slot} {st : List Value} {Rs : List zl_F} (h : zs_ok D RT ro Ga nL q v H ls st) (hR : ∀ g ∈ Rs, zl_at v g ≤ 0) : zs_ok D RT ro Ga nL (Rs.foldr (fun g a => zx_as a g) q) v H ls st := by
  induction Rs with
  | nil => exact h
  | cons g t ih => exact zx_as_ok (ih (fun x hx => hR x (List.mem_cons_of_mem _ hx))) (hR g List.mem_cons_self)
theorem zi_binF {k : Nat} {lo hi : Int} {za zb : zv_V} {S : List zv_V} {Rs : List zl_F} (hS : q.2.2.2.1 = zb :: za :: S) (hRw : zl_wf q.1.length za.2 → zl_wf q.1.length zb.2 → ∀ g ∈ Rs, zl_wf (q.1.length + 1) g)
    (op : ∀ v vx vy H ls st, zs_ok D RT ro Ga nL q v H ls st → zl_wf q.1.length za.2 → zl_wf q.1.length zb.2 → zv_ok ro v vx za → zv_ok ro v vy zb → ∃ (x : Value) (z : Int), zx_nv k z x ∧ lo ≤ z ∧ z ≤ hi ∧ (∀ g ∈ Rs, zl_at (zl_up v q.1.length z) g ≤ 0) ∧ ∀ H locs ls st, G pc' H locs ls (x :: st) → G pc H locs ls (vy :: vx :: st))
    (K : zw D cA RT ro sz H0 Ga nL G pc' (zx_fR k lo hi q S Rs)) : zw D cA RT ro sz H0 Ga nL G pc q := by
  intro hw v H locs ls st h hh
  have hst := h.2.2.2.1
  rw [hS] at hst
  match st, hst with
  | vy :: vx :: st, hst =>
    have wS : ∀ z ∈ S, zv_wf q.1.length z := fun z hz => hw.2.2.1 z (by rw [hS]; exact List.mem_cons_of_mem _ (List.mem_cons_of_mem _ hz))
    have wa := hw.2.2.1 za (by rw [hS]; exact List.mem_cons_of_mem _ List.mem_cons_self)
    have wb := hw.2.2.1 zb (by rw [hS]; exact List.mem_cons_self)
    obtain ⟨x, z, hx, h1, h2, h3, row⟩ := op v vx vy H ls _ h wa wb hst.2.1 hst.1
    have el : (zx_fr k lo hi q S).1.length = q.1.length + 1 := by simp [zx_fr, zq_S, zs_new]
    refine row _ _ _ _ (K (zx_fold_wf (zx_fr_wf hw wS) (by rw [el]; exact hRw wa wb)) _ H locs ls _ (zx_fold_ok (zx_fr_ok hw wS h hst.2.2 hx h1 h2) h3) hh)
/-- the stack alone is turned -/
theorem zi_stk {S' : List zv_V} (wf : (∀ z ∈ q.2.2.2.1, zv_wf q.1.length z) → ∀ z ∈ S', zv_wf q.1.length z)
    (op : ∀ v st, zs_st ro v st q.2.2.2.1 → ∃ st', zs_st ro v st' S' ∧ ∀ H locs ls, G pc' H locs ls st' → G pc H locs ls st)
    (K : zw D cA RT ro sz H0 Ga nL G pc' (zq_S q S')) : zw D cA RT ro sz H0 Ga nL G pc q := by
  intro hw v H locs ls st h hh
  obtain ⟨st', h1, h2⟩ := op v st h.2.2.2.1
  exact h2 _ _ _ (K (zq_S_wf hw (wf hw.2.2.1)) v H locs ls st' (zq_S_ok h h1) hh)
/-- a branch by an int's form -/
theorem zi_if (c : Jvm.ClassFile.Cond) {z : zv_V} {S : List zv_V} (hS : q.2.2.2.1 = z :: S) (hk : z.1 = 0 ∨ z.1 = 3)
    (row : ∀ (x : Int32) H locs ls st, (zx_cb c x.toInt → G pc' H locs ls st) → (¬ zx_cb c x.toInt → G (pc + 3) H locs ls st) → G pc H locs ls (.int x :: st))
    (Kt : zw D cA RT ro sz H0 Ga nL G pc' (zx_br c true (zq_S q S) z.2)) (Kf : zw D cA RT ro sz H0 Ga nL G (pc + 3) (zx_br c false (zq_S q S) z.2)) : zw D cA RT ro sz H0 Ga nL G pc q := by
  intro hw v H locs ls st h hh
  have hst := h.2.2.2.1
  rw [hS] at hst
  match st, hst with
  | x :: st, hst =>
    have wS : ∀ z ∈ S, zv_wf q.1.length z := fun z hz => hw.2.2.1 z (by rw [hS]; exact List.mem_cons_of_mem _ hz)
    have wz := hw.2.2.1 z (by rw [hS]; exact List.mem_cons_self)
    have hq := zq_S_ok h hst.2
    have hqw := zq_S_wf hw wS
    obtain ⟨y, hy, hc⟩ : ∃ y : Int32, x = .int y ∧ (zx_cb c y.toInt ↔ zx_cb c (zl_at v z.2)) := by
      obtain ⟨k, f⟩ := z
      rcases hk with e | e
      · cases e
        obtain ⟨y, h1, h2⟩ := hst.1
        exact ⟨y, h1, by rw [h2]⟩
      · cases e
        obtain ⟨y, h1, h2⟩ := hst.1
        refine ⟨y, h1, ?_⟩
        rw [h2]
        show zx_cb c (zl_at v f).sign ↔ zx_cb c (zl_at v f)
        rcases Int.lt_trichotomy (zl_at v f) 0 with e | e | e
        · rw [Int.sign_eq_neg_one_of_neg e]
          cases c <;> simp [zx_cb] <;> omega
        · rw [e]; rfl
        · rw [Int.sign_eq_one_of_pos e]
          cases c <;> simp [zx_cb] <;> omega
    subst hy
    exact row y _ _ _ _ (fun e => Kt (zx_br_wf c true hqw wz) v H locs ls st (zx_br_ok c true hq ⟨fun _ => hc.mp e, fun _ => rfl⟩) hh)
      (fun e => Kf (zx_br_wf c false hqw wz) v H locs ls st (zx_br_ok c false hq ⟨fun a => (by cases a), fun a => absurd (hc.mpr a) e⟩) hh)
theorem zi_icmp (c : Jvm.ClassFile.Cond) {za zb : zv_V} {S : List zv_V} (hS : q.2.2.2.1 = zb :: za :: S) (ha : za.1 = 0) (hb : zb.1 = 0)
    (row : ∀ (x y : Int32) H locs ls st, (zx_cb c (x.toInt - y.toInt) → G pc' H locs ls st) → (¬ zx_cb c (x.toInt - y.toInt) → G (pc + 3) H locs ls st) → G pc H locs ls (.int y :: .int x :: st))
    (Kt : zw D cA RT ro sz H0 Ga nL G pc' (zx_br c true (zq_S q S) (zl_sub za.2 zb.2))) (Kf : zw D cA RT ro sz H0 Ga nL G (pc + 3) (zx_br c false (zq_S q S) (zl_sub za.2 zb.2))) : zw D cA RT ro sz H0 Ga nL G pc q := by
  intro hw v H locs ls st h hh
  have hst := h.2.2.2.1
  rw [hS] at hst
  match st, hst with
  | vy :: vx :: st, hst =>
    have wS : ∀ z ∈ S, zv_wf q.1.length z := fun z hz => hw.2.2.1 z (by rw [hS]; exact List.mem_cons_of_mem _ (List.mem_cons_of_mem _ hz))
    have wa := hw.2.2.1 za (by rw [hS]; exact List.mem_cons_of_mem _ List.mem_cons_self)
    have wb := hw.2.2.1 zb (by rw [hS]; exact List.mem_cons_self)
    have wz : zl_wf q.1.length (zl_sub za.2 zb.2) := zl_sub_wf wa wb
    have hq := zq_S_ok h hst.2.2
    have hqw := zq_S_wf hw wS
    obtain ⟨ka, fa⟩ := za
    obtain ⟨kb, fb⟩ := zb
    cases ha
    cases hb
    obtain ⟨x, hx, ex⟩ := hst.2.1
    obtain ⟨y, hy, ey⟩ := hst.1
    subst hx
    subst hy
    have hc : zx_cb c (x.toInt - y.toInt) ↔ zx_cb c (zl_at v (zl_sub fa fb)) := by
      rw [zl_sub_at]
      rw [show x.toInt = zl_at v fa from ex, show y.toInt = zl_at v fb from ey]
    exact row x y _ _ _ _ (fun e => Kt (zx_br_wf c true hqw wz) v H locs ls st (zx_br_ok c true hq ⟨fun _ => hc.mp e, fun _ => rfl⟩) hh)
      (fun e => Kf (zx_br_wf c false hqw wz) v H locs ls st (zx_br_ok c false hq ⟨fun a => (by cases a), fun a => absurd (hc.mpr a) e⟩) hh)
end ZA
end
section
/-! fields and arrays -/
def zt_b (t : zt_T) : Int × Int := match t.1 with
  | 0 => t.2
  | 1 => t.2
  | _ => (0, -1)
/-- a new unknown for a value of a type -/
theorem zt_new {ro : Nat → Option Nat} {x : Value} {t : zt_T} (h : zt_ok ro x t) (h2 : t.1 ≠ 2) (h3 : t.1 ≠ 3) : ∃ z : Int, ((zt_b t).2 < (zt_b t).1 ∨ ((zt_b t).1 ≤ z ∧ z ≤ (zt_b t).2)) ∧ ∀ (v : Nat → Int) (f : zl_F), zl_at v f = z → zv_ok ro v x (t.1, f) := by
  obtain ⟨k, lo, hi⟩ := t
  match k with
  | 0 =>
    obtain ⟨y, h4, h5, h6⟩ := h
    exact ⟨y.toInt, Or.inr ⟨h5, h6⟩, fun v f e => ⟨y, h4, e.symm⟩⟩
  | 1 =>
    obtain ⟨y, h4, h5, h6⟩ := h
    exact ⟨y.toInt, Or.inr ⟨h5, h6⟩, fun v f e => ⟨y, h4, e.symm⟩⟩
  | 2 => exact absurd rfl h2
  | 3 => exact absurd rfl h3
  | k + 4 =>
    rcases h with ⟨h4, h5⟩ | ⟨a, h4, h5⟩
    · exact ⟨-1, Or.inl (show (-1 : Int) < 0 by decide), fun v f e => Or.inl ⟨h4, h5, e⟩⟩
    · exact ⟨(a : Int), Or.inl (show (-1 : Int) < 0 by decide), fun v f e => Or.inr ⟨a, h4, h5, e.symm⟩⟩
/-- push a value of type t, all that is known of it -/
def zx_ft (t : zt_T) (q : zs_S) (S : List zv_V) : zs_S := zq_S (zs_new q (zt_b t).1 (zt_b t).2) ((t.1, zl_id q.1.length) :: S)
theorem zx_ft_wf {q : zs_S} {t : zt_T} {S : List zv_V} (hw : zs_wf q) (hS : ∀ z ∈ S, zv_wf q.1.length z) : zs_wf (zx_ft t q S) := by
  have e : (zs_new q (zt_b t).1 (zt_b t).2).1.length = q.1.length + 1 := by simp [zs_new]
  refine zq_S_wf (zs_new_wf hw) (fun z hz => ?_)
  rcases List.mem_cons.mp hz with h | h
  · rw [h]; exact zl_id_wf (by omega)
  · exact zl_wf.mono (hS z h) (by omega)
theorem zx_ft_ok {D : va_G} {RT : List zr_R} {ro : Nat → Option Nat} {Ga : List Int} {nL : Nat} {q : zs_S} {t : zt_T} {S : List zv_V} {v : Nat → Int} {H : Heap} {ls : Array Slot} {st st' : List Value} {x : Value} (hw : zs_wf q) (hSw : ∀ z ∈ S, zv_wf q.1.length z) (h : zs_ok D RT ro Ga nL q v H ls st) (hS : zs_st ro v st' S) (hx : zt_ok ro x t) (h2 : t.1 ≠ 2) (h3 : t.1 ≠ 3) :
    ∃ z : Int, zs_ok D RT ro Ga nL (zx_ft t q S) (zl_up v q.1.length z) H ls (x :: st') := by
  obtain ⟨z, hz, hv⟩ := zt_new hx h2 h3
  exact ⟨z, zq_S_ok (zs_new_ok hw h hz) ⟨hv _ _ (by rw [zl_id_at]; simp [zl_up]), zs_st.up hSw hS⟩⟩
/-- the unknown of a form that is one alone -/
def zx_un (f : zl_F) : Option Nat := match f with
  | ([(i, .ofNat 1)], .ofNat 0) => some i
  | _ => none
theorem zx_un_at {f : zl_F} {i : Nat} (h : zx_un f = some i) (v : Nat → Int) : zl_at v f = v i := by
  unfold zx_un at h
  split at h
  · cases h
    simp [zl_at, zl_ev]
  · cases h
def zf_get (F : List ((Nat × Nat × Nat) × zv_V)) (i r k : Nat) : Option zv_V := match F with
  | [] => none
  | e :: t => match Nat.beq e.1.1 i && Nat.beq e.1.2.1 r && Nat.beq e.1.2.2 k with
    | true => some e.2
    | false => zf_get t i r k
theorem zf_get_mem {F : List ((Nat × Nat × Nat) × zv_V)} {i r k : Nat} {z : zv_V} (h : zf_get F i r k = some z) : ((i, r, k), z) ∈ F := by
  induction F with
  | nil => cases h
  | cons e t ih =>
    unfold zf_get at h
    split at h
    · rename_i he
      simp only [Bool.and_eq_true] at he
      obtain ⟨⟨h1, h2⟩, h3⟩ := he
      obtain ⟨⟨a, b, c⟩, d⟩ := e
      cases h
      have h1 := Nat.eq_of_beq_eq_true h1
      have h2 := Nat.eq_of_beq_eq_true h2
      have h3 := Nat.eq_of_beq_eq_true h3
      dsimp only at h1 h2 h3
      subst h1 h2 h3
      exact List.mem_cons_self
    · exact List.mem_cons_of_mem _ (ih h)
def zq_F (q : zs_S) (F : List ((Nat × Nat × Nat) × zv_V)) : zs_S := (q.1, q.2.1, q.2.2.1, q.2.2.2.1, F, q.2.2.2.2.2)
/-- getfield: (role, field) r k of type t -/
def zx_gf (r k : Nat) (t : zt_T) (q : zs_S) (i : Nat) (S : List zv_V) : zs_S := match zf_get q.2.2.2.2.1 i r k with
  | some z => zq_S q (z :: S)
  | none => let q' := zx_ft t q S
    zq_F q' (((i, r, k), (t.1, zl_id q.1.length)) :: q'.2.2.2.2.1)
section ZH
variable {D : va_G} {cA : Nat → ClassId} {RT : List zr_R} {ro : Nat → Option Nat} {sz : Nat} {H0 : Heap} {Ga : List Int} {nL : Nat} {G : zg_G} {pc pc' : Nat} {q : zs_S}
theorem zh_obj {H : Heap} {locs : List Loc} {a r ci n : Nat} {fs : List zt_T} (hh : zh_ok D cA RT ro sz H0 H locs) (ha : ro a = some r) (hr : RT[r]? = some (0, ci, n, fs)) :
    sz ≤ a ∧ ∃ cell : Cell, H[a]? = some cell ∧ cell.cls = D.1 ci ∧ cell.vm = .none ∧ ∀ (k : Nat) (t : zt_T), fs[k]? = some t → ∃ x : Value, cell.slots[D.2 ci k]? = some x ∧ zt_ok ro x t := by
  obtain ⟨e, h2, h1, h3⟩ := hh.2.2.2 a r ha
  cases h2.symm.trans hr
  exact ⟨h1.resolve_left (show ¬ (0 : Nat) = 2 by decide), h3⟩
theorem zh_arr {H : Heap} {locs : List Loc} {a r ti n : Nat} {t : zt_T} (hh : zh_ok D cA RT ro sz H0 H locs) (ha : ro a = some r) (hr : RT[r]? = some (1, ti, n, [t])) :
    sz ≤ a ∧ ∃ z : Nat → Value, H[a]? = some (arrV (cA ti) n z) ∧ ∀ j : Nat, j < n → zt_ok ro (z j) t := by
  obtain ⟨e, h2, h1, h3⟩ := hh.2.2.2 a r ha
  cases h2.symm.trans hr
  obtain ⟨z, h4, h5⟩ := h3
  exact ⟨h1.resolve_left (show ¬ (1 : Nat) = 2 by decide), z, h4, h5 t rfl⟩
theorem zh_arrR {H : Heap} {locs : List Loc} {a r kd ti n : Nat} {t : zt_T} (hh : zh_ok D cA RT ro sz H0 H locs) (ha : ro a = some r) (hr : RT[r]? = some (kd + 1, ti, n, [t])) :
    ∃ z : Nat → Value, H[a]? = some (arrV (cA ti) n z) ∧ ∀ j : Nat, j < n → zt_ok ro (z j) t := by
  obtain ⟨e, h2, h1, h3⟩ := hh.2.2.2 a r ha
  cases h2.symm.trans hr
  obtain ⟨z, h4, h5⟩ := h3
  exact ⟨z, h4, h5 t rfl⟩
theorem zi_getf {r k ci n i : Nat} {fs : List zt_T} {t : zt_T} {f : zl_F} {S : List zv_V} (hS : q.2.2.2.1 = (4 + 2 * r, f) :: S) (hi : zx_un f = some i) (hr : RT[r]? = some (0, ci, n, fs)) (hk : fs[k]? = some t) (h2 : t.1 ≠ 2) (h3 : t.1 ≠ 3)
    (row : ∀ H locs ls st a x (cell : Cell), H[a]? = some cell → cell.cls = D.1 ci → cell.vm = .none → cell.slots[D.2 ci k]? = some x → G pc' H locs ls (x :: st) → G pc H locs ls (.ref a :: st))
    (K : zw D cA RT ro sz H0 Ga nL G pc' (zx_gf r k t q i S)) : zw D cA RT ro sz H0 Ga nL G pc q := by
  intro hw v H locs ls st h hh
  have hst := h.2.2.2.1
  rw [hS] at hst
  match st, hst with
  | x0 :: st, hst =>
    have wS : ∀ z ∈ S, zv_wf q.1.length z := fun z hz => hw.2.2.1 z (by rw [hS]; exact List.mem_cons_of_mem _ hz)
    have wo := hw.2.2.1 (4 + 2 * r, f) (by rw [hS]; exact List.mem_cons_self)
    obtain ⟨a, hx0, ha, hav⟩ : zv_ref ro v f r x0 := by
      have h4 := hst.1
      rw [show 4 + 2 * r = 2 * r + 4 by omega] at h4
      rcases h4 with ⟨h5, -⟩ | h5
      · omega
      · rw [show 2 * r / 2 = r by omega] at h5; exact h5
    subst hx0
    rw [zx_un_at hi] at hav
    obtain ⟨-, cell, c1, c2, c3, c4⟩ := zh_obj hh ha hr
    obtain ⟨x, c5, c6⟩ := c4 k t hk
    have hzf : zh_f D H a ci k = x := by simp [zh_f, c1, c5]
    refine row _ _ _ _ a x cell c1 c2 c3 c5 ?_
    unfold zx_gf at K
    split at K
    · rename_i z hz
      have hm := zf_get_mem hz
      obtain ⟨a', ci', n', fs', e1, e2, e3, e4, e5⟩ := h.2.2.2.2.1 _ hm
      dsimp only at e1 e2 e3 e4 e5
      have ea : a' = a := by
        have : (a' : Int) = (a : Int) := by rw [e1, hav]
        omega
      subst ea
      cases e3.symm.trans hr
      rw [hzf] at e5
      refine K (zq_S_wf hw (fun y hy => ?_)) v H locs ls _ (zq_S_ok h ⟨e5, hst.2⟩) hh
      rcases List.mem_cons.mp hy with e | e
      · rw [e]; exact (hw.2.2.2.1 _ hm).2
      · exact wS y e
    · have iw : i < q.1.length := by
        unfold zx_un at hi
        split at hi
        · cases hi
          exact wo _ List.mem_cons_self
        · cases hi
      have w1 := zx_ft_wf (t := t) hw wS
      have el : (zx_ft t q S).1.length = q.1.length + 1 := by simp [zx_ft, zq_S, zs_new]
      obtain ⟨z, hz, hv⟩ := zt_new c6 h2 h3
      have hok : zs_ok D RT ro Ga nL (zx_ft t q S) (zl_up v q.1.length z) H ls (x :: st) := zq_S_ok (zs_new_ok hw h hz) ⟨hv _ _ (by rw [zl_id_at]; simp [zl_up]), zs_st.up wS hst.2⟩
      refine K ⟨w1.1, w1.2.1, w1.2.2.1, fun e he => ?_, w1.2.2.2.2⟩ (zl_up v q.1.length z) H locs ls _ ⟨hok.1, hok.2.1, hok.2.2.1, hok.2.2.2.1, fun e he => ?_, hok.2.2.2.2.2⟩ hh
      · show e.1.1 < (zx_ft t q S).1.length ∧ zv_wf (zx_ft t q S).1.length e.2
        rcases List.mem_cons.mp he with e' | e'
        · rw [e', el]; exact ⟨by dsimp only; omega, zl_id_wf (by omega)⟩
        · exact w1.2.2.2.1 e e'
      · rcases List.mem_cons.mp he with e' | e'
        · rw [e']
          refine ⟨a, ci, n, fs, ?_, ha, hr, ?_, ?_⟩
          · dsimp only
            rw [show zl_up v q.1.length z i = v i by simp [zl_up, Nat.ne_of_lt iw]]; exact hav
          · exact (List.getElem?_eq_some_iff.mp hk).1
          · dsimp only
            rw [hzf]; exact hv _ _ (by rw [zl_id_at]; simp [zl_up])
        · exact hok.2.2.2.2.1 e e'
/-- z is of type t, by what the state knows -/
def zx_ty (q : zs_S) (z : zv_V) (t : zt_T) : Bool := match t.1 with
  | 0 => Nat.beq z.1 0 && zx_in q t.2.1 t.2.2 z.2
  | 1 => Nat.beq z.1 1 && zx_in q t.2.1 t.2.2 z.2
  | 2 => false
  | 3 => false
  | k + 4 => Nat.beq z.1 (k + 4) || (Nat.beq (k % 2) 1 && (Nat.beq z.1 2 || Nat.beq (z.1 + 1) (k + 4)))
theorem zx_ty_ok {v : Nat → Int} {H : Heap} {ls : Array Slot} {st : List Value} {z : zv_V} {t : zt_T} {x : Value} (h : zs_ok D RT ro Ga nL q v H ls st) (hz : zv_ok ro v x z) (ht : zx_ty q z t = true) : zt_ok ro x t := by
  obtain ⟨k, lo, hi⟩ := t
  obtain ⟨kz, f⟩ := z
  match k with
  | 0 =>
    simp only [zx_ty, Bool.and_eq_true] at ht
    have e := Nat.eq_of_beq_eq_true ht.1
    subst e
    obtain ⟨y, h1, h2⟩ := hz
    have h3 := zx_in_ok h ht.2
    dsimp only at h2 h3
    exact ⟨y, h1, by dsimp only; omega, by dsimp only; omega⟩
  | 1 =>
    simp only [zx_ty, Bool.and_eq_true] at ht
    have e := Nat.eq_of_beq_eq_true ht.1
    subst e
    obtain ⟨y, h1, h2⟩ := hz
    have h3 := zx_in_ok h ht.2
    dsimp only at h2 h3
    exact ⟨y, h1, by dsimp only; omega, by dsimp only; omega⟩
  | 2 => cases ht
  | 3 => cases ht
  | k + 4 =>
    simp only [zx_ty, Bool.or_eq_true, Bool.and_eq_true] at ht
    rcases ht with e | ⟨e1, e | e⟩
    · have e := Nat.eq_of_beq_eq_true e
      subst e
      rcases hz with ⟨h1, h2, -⟩ | ⟨a, h1, h2, -⟩
      · exact Or.inl ⟨h1, h2⟩
      · exact Or.inr ⟨a, h1, h2⟩
    · have e := Nat.eq_of_beq_eq_true e
      have e1 := Nat.eq_of_beq_eq_true e1
      subst e
      exact Or.inl ⟨e1, hz.1⟩
    · have e := Nat.eq_of_beq_eq_true e
      have e1 := Nat.eq_of_beq_eq_true e1
      obtain ⟨j, rfl⟩ : ∃ j, kz = j + 4 := ⟨kz - 4, by omega⟩
      have : k = j + 1 := by omega
      subst this
      rcases hz with ⟨h1, h2, -⟩ | ⟨a, h1, h2, -⟩
      · omega
      · exact Or.inr ⟨a, h1, by rw [show (j + 1) / 2 = j / 2 by omega]; exact h2⟩
/-- the slots of an object's fields are apart -/
def zD_ok (D : va_G) (RT : List zr_R) : Prop := ∀ (r ci n : Nat) (fs : List zt_T), RT[r]? = some (0, ci, n, fs) → ∀ j k : Nat, j < fs.length → k < fs.length → D.2 ci j = D.2 ci k → j = k
/-- putfield -/
def zx_pf (r k : Nat) (q : zs_S) (i : Nat) (z : zv_V) (S : List zv_V) : zs_S :=
  (q.1, q.2.1, q.2.2.1, S, ((i, r, k), z) :: q.2.2.2.2.1.filter (fun e => !(Nat.beq e.1.2.1 r && Nat.beq e.1.2.2 k)), q.2.2.2.2.2)
theorem zi_putf {r k ci n i : Nat} {fs : List zt_T} {t : zt_T} {f : zl_F} {z : zv_V} {S : List zv_V} (hS : q.2.2.2.1 = z :: (4 + 2 * r, f) :: S) (hi : zx_un f = some i) (hr : RT[r]? = some (0, ci, n, fs)) (hk : fs[k]? = some t) (hD : zD_ok D RT) (ht : zx_ty q z t = true)
    (row : ∀ H locs ls st a x (cell : Cell) y, ro a = some r → zt_ok ro x t → H[a]? = some cell → cell.cls = D.1 ci → cell.vm = .none → cell.slots[D.2 ci k]? = some y → (∀ H' : Heap, H'[a]? = some (cell.setSlot (D.2 ci k) x) → H'.size = H.size → (∀ q, q ≠ a → H'[q]? = H[q]?) → G pc' H' (locs ++ [⟨a, D.2 ci k⟩]) ls st) → G pc H locs ls (x :: .ref a :: st))
    (K : zw D cA RT ro sz H0 Ga nL G pc' (zx_pf r k q i z S)) : zw D cA RT ro sz H0 Ga nL G pc q := by
  intro hw v H locs ls st h hh
  have hst := h.2.2.2.1
  rw [hS] at hst
  match st, hst with
  | x :: x0 :: st, hst =>
    have wS : ∀ z ∈ S, zv_wf q.1.length z := fun z hz => hw.2.2.1 z (by rw [hS]; exact List.mem_cons_of_mem _ (List.mem_cons_of_mem _ hz))
    have wo := hw.2.2.1 (4 + 2 * r, f) (by rw [hS]; exact List.mem_cons_of_mem _ List.mem_cons_self)
    have wz := hw.2.2.1 z (by rw [hS]; exact List.mem_cons_self)
    obtain ⟨a, hx0, ha, hav⟩ : zv_ref ro v f r x0 := by
      have h4 := hst.2.1
      rw [show 4 + 2 * r = 2 * r + 4 by omega] at h4
      rcases h4 with ⟨h5, -⟩ | h5
      · omega
      · rw [show 2 * r / 2 = r by omega] at h5; exact h5
    subst hx0
    rw [zx_un_at hi] at hav
    have hx := zx_ty_ok h hst.1 ht
    obtain ⟨hsa, cell, c1, c2, c3, c4⟩ := zh_obj hh ha hr
    obtain ⟨y, c5, c6⟩ := c4 k t hk
    have hkl : k < fs.length := (List.getElem?_eq_some_iff.mp hk).1
    have hsl : D.2 ci k < cell.slots.size := (Array.getElem?_eq_some_iff.mp c5).1
    have iw : i < q.1.length := by
      unfold zx_un at hi
      split at hi
      · cases hi
        exact wo _ List.mem_cons_self
      · cases hi
    refine row _ _ _ _ a x cell y ha hx c1 c2 c3 c5 (fun H' e1 e2 e3 => K ?_ v H' _ ls st ⟨h.1, h.2.1, h.2.2.1, hst.2.2, fun e he => ?_, h.2.2.2.2.2⟩ ⟨?_, ?_, ?_, ?_⟩)
    · refine ⟨hw.1, hw.2.1, wS, fun e he => ?_, hw.2.2.2.2⟩
      rcases List.mem_cons.mp he with e' | e'
      · rw [e']; exact ⟨iw, wz⟩
      · exact hw.2.2.2.1 e (List.mem_filter.mp e').1
    · have hself : (cell.setSlot (D.2 ci k) x).slots[D.2 ci k]? = some x := by simp [Cell.setSlot, hsl]
      rcases List.mem_cons.mp he with e' | e'
      · rw [e']
        refine ⟨a, ci, n, fs, hav, ha, hr, hkl, ?_⟩
        rw [show zh_f D H' a ci k = x by simp only [zh_f, e1, hself]; rfl]
        exact hst.1
      · obtain ⟨m1, m2⟩ := List.mem_filter.mp e'
        obtain ⟨a', ci', n', fs', g1, g2, g3, g4, g5⟩ := h.2.2.2.2.1 e m1
        refine ⟨a', ci', n', fs', g1, g2, g3, g4, ?_⟩
        have : zh_f D H' a' ci' e.1.2.2 = zh_f D H a' ci' e.1.2.2 := by
          by_cases ea : a' = a
          · subst ea
            have er : e.1.2.1 = r := Option.some.inj (g2.symm.trans ha)
            rw [er] at g3
            cases g3.symm.trans hr
            have hne : D.2 ci k ≠ D.2 ci e.1.2.2 := fun q => by
              have := hD r ci n fs hr k e.1.2.2 hkl g4 q
              rw [er, ← this, Nat.beq_refl, Nat.beq_refl] at m2
              cases m2
            simp only [zh_f, e1, c1, slot_ne _ _ hne]
          · simp only [zh_f, e3 a' ea]
        rw [this]; exact g5
    · rw [e2]; exact hh.1
    · intro j hj
      rw [e3 j (Nat.ne_of_lt (Nat.lt_of_lt_of_le hj hsa))]; exact hh.2.1 j hj
    · intro l hl
      rcases List.mem_append.mp hl with g | g
      · exact hh.2.2.1 l g
      · rw [List.mem_singleton.mp g]; exact hsa
    · intro b rb hb
      obtain ⟨ee, g2, g1, g3⟩ := hh.2.2.2 b rb hb
      refine ⟨ee, g2, g1, ?_⟩
      by_cases eb : b = a
      · subst eb
        cases hb.symm.trans ha
        cases g2.symm.trans hr
        refine ⟨_, e1, c2, c3, fun j tj hj => ?_⟩
        by_cases ej : j = k
        · subst ej
          cases hj.symm.trans hk
          exact ⟨x, by simp [Cell.setSlot, hsl], hx⟩
        · obtain ⟨w, w1, w2⟩ := c4 j tj hj
          have hne : D.2 ci k ≠ D.2 ci j := fun q => ej (hD r ci n fs hr k j hkl (List.getElem?_eq_some_iff.mp hj).1 q).symm
          exact ⟨w, by rw [slot_ne _ _ hne]; exact w1, w2⟩
      · obtain ⟨k0, k1, k2, k3⟩ := ee
        match k0, g3 with
        | 0, g3 =>
          obtain ⟨c, d1, d2⟩ := g3
          exact ⟨c, by rw [e3 b eb]; exact d1, d2⟩
        | k0 + 1, g3 =>
          obtain ⟨c, d1, d2⟩ := g3
          exact ⟨c, by rw [e3 b eb]; exact d1, d2⟩
end ZH
end
section
/-! arrays, null tests -/
section ZR
variable {D : va_G} {cA : Nat → ClassId} {RT : List zr_R} {ro : Nat → Option Nat} {sz : Nat} {H0 : Heap} {Ga : List Int} {nL : Nat} {G : zg_G} {pc pc' : Nat} {q : zs_S}
theorem zv_rf {v : Nat → Int} {x : Value} {r : Nat} {f : zl_F} (h : zv_ok ro v x (4 + 2 * r, f)) : zv_ref ro v f r x := by
  rw [show 4 + 2 * r = 2 * r + 4 by omega] at h
  rcases h with ⟨h5, -⟩ | h5
  · omega
  · rw [show 2 * r / 2 = r by omega] at h5; exact h5
theorem zi_alen {r kd ti n : Nat} {t : zt_T} {f : zl_F} {S : List zv_V} (hS : q.2.2.2.1 = (4 + 2 * r, f) :: S) (hr : RT[r]? = some (kd + 1, ti, n, [t])) (hn : n < 2147483648)
    (row : ∀ H locs ls st a z, H[a]? = some (arrV (cA ti) n z) → G pc' H locs ls (.int (nI n) :: st) → G pc H locs ls (.ref a :: st))
    (K : zw D cA RT ro sz H0 Ga nL G pc' (zq_S q ((0, zl_k n) :: S))) : zw D cA RT ro sz H0 Ga nL G pc q := by
  intro hw v H locs ls st h hh
  have hst := h.2.2.2.1
  rw [hS] at hst
  match st, hst with
  | x0 :: st, hst =>
    have wS : ∀ z ∈ S, zv_wf q.1.length z := fun z hz => hw.2.2.1 z (by rw [hS]; exact List.mem_cons_of_mem _ hz)
    obtain ⟨a, hx0, ha, -⟩ := zv_rf hst.1
    subst hx0
    obtain ⟨z, h1, -⟩ := zh_arrR hh ha hr
    refine row _ _ _ _ a z h1 (K (zq_S_wf hw (fun y hy => ?_)) v H locs ls _ (zq_S_ok h ⟨⟨nI n, rfl, ?_⟩, hst.2⟩) hh)
    · rcases List.mem_cons.mp hy with e | e
      · rw [e]; exact zl_k_wf
      · exact wS y e
    · rw [zl_k_at]; exact nI_toInt hn
theorem zi_ald {r kd ti n : Nat} {t : zt_T} {f g : zl_F} {S : List zv_V} (hS : q.2.2.2.1 = (0, g) :: (4 + 2 * r, f) :: S) (hr : RT[r]? = some (kd + 1, ti, n, [t])) (hin : zx_in q 0 ((n : Int) - 1) g = true) (h2 : t.1 ≠ 2) (h3 : t.1 ≠ 3)
    (row : ∀ H locs ls st a z (j : Int32), vp_in j n → zt_ok ro (z j.toNatClampNeg) t → H[a]? = some (arrV (cA ti) n z) → G pc' H locs ls (z j.toNatClampNeg :: st) → G pc H locs ls (.int j :: .ref a :: st))
    (K : zw D cA RT ro sz H0 Ga nL G pc' (zx_ft t q S)) : zw D cA RT ro sz H0 Ga nL G pc q := by
  intro hw v H locs ls st h hh
  have hst := h.2.2.2.1
  rw [hS] at hst
  match st, hst with
  | xi :: x0 :: st, hst =>
    have wS : ∀ z ∈ S, zv_wf q.1.length z := fun z hz => hw.2.2.1 z (by rw [hS]; exact List.mem_cons_of_mem _ (List.mem_cons_of_mem _ hz))
    obtain ⟨a, hx0, ha, -⟩ := zv_rf hst.2.1
    obtain ⟨j, hj, ej⟩ := hst.1
    subst hx0
    subst hj
    obtain ⟨z, h1, h4⟩ := zh_arrR hh ha hr
    have hb := zx_in_ok h hin
    have ej : j.toInt = zl_at v g := ej
    have hv : vp_in j n := vp_in_iff.mpr ⟨by omega, by omega⟩
    have hlt : j.toNatClampNeg < n := Nat.not_le.mp fun q => hv (Or.inr q)
    obtain ⟨y, h5⟩ := zx_ft_ok (t := t) hw wS h hst.2.2 (h4 _ hlt) h2 h3
    exact row _ _ _ _ a z j hv (h4 _ hlt) h1 (K (zx_ft_wf hw wS) _ H locs ls _ h5 hh)
theorem zi_ast {r ti n : Nat} {t : zt_T} {f g : zl_F} {zx : zv_V} {S : List zv_V} (hS : q.2.2.2.1 = zx :: (0, g) :: (4 + 2 * r, f) :: S) (hr : RT[r]? = some (1, ti, n, [t])) (hin : zx_in q 0 ((n : Int) - 1) g = true) (ht : zx_ty q zx t = true)
    (row : ∀ H locs ls st a z (j : Int32) x, ro a = some r → vp_in j n → zt_ok ro x t → H[a]? = some (arrV (cA ti) n z) → (∀ H' : Heap, H'[a]? = some (arrV (cA ti) n (updV z j.toNatClampNeg x)) → H'.size = H.size → (∀ q, q ≠ a → H'[q]? = H[q]?) → G pc' H' (locs ++ [⟨a, j.toNatClampNeg⟩]) ls st) → G pc H locs ls (x :: .int j :: .ref a :: st))
    (K : zw D cA RT ro sz H0 Ga nL G pc' (zq_S q S)) : zw D cA RT ro sz H0 Ga nL G pc q := by
  intro hw v H locs ls st h hh
  have hst := h.2.2.2.1
  rw [hS] at hst
  match st, hst with
  | x :: xi :: x0 :: st, hst =>
    have wS : ∀ z ∈ S, zv_wf q.1.length z := fun z hz => hw.2.2.1 z (by rw [hS]; exact List.mem_cons_of_mem _ (List.mem_cons_of_mem _ (List.mem_cons_of_mem _ hz)))
    obtain ⟨a, hx0, ha, -⟩ := zv_rf hst.2.2.1
    obtain ⟨j, hj, ej⟩ := hst.2.1
    subst hx0
    subst hj
    obtain ⟨hsa, z, h1, h4⟩ := zh_arr hh ha hr
    have hb := zx_in_ok h hin
    have ej : j.toInt = zl_at v g := ej
    have hv : vp_in j n := vp_in_iff.mpr ⟨by omega, by omega⟩
    have hx := zx_ty_ok h hst.1 ht
    refine row _ _ _ _ a z j x ha hv hx h1 (fun H' e1 e2 e3 => K (zq_S_wf hw wS) v H' _ ls st ?_ ⟨?_, ?_, ?_, ?_⟩)
    · have h6 := zq_S_ok h hst.2.2.2
      refine ⟨h6.1, h6.2.1, h6.2.2.1, h6.2.2.2.1, fun e he => ?_, h6.2.2.2.2.2⟩
      obtain ⟨a', ci', n', fs', g1, g2, g3, g4, g5⟩ := h6.2.2.2.2.1 e he
      refine ⟨a', ci', n', fs', g1, g2, g3, g4, ?_⟩
      have hne : a' ≠ a := fun q => by
        subst q
        have er := Option.some.inj (g2.symm.trans ha)
        rw [er] at g3
        cases g3.symm.trans hr
      rw [show zh_f D H' a' ci' e.1.2.2 = zh_f D H a' ci' e.1.2.2 by simp only [zh_f, e3 a' hne]]
      exact g5
    · rw [e2]; exact hh.1
    · intro i hi
      rw [e3 i (Nat.ne_of_lt (Nat.lt_of_lt_of_le hi hsa))]; exact hh.2.1 i hi
    · intro l hl
      rcases List.mem_append.mp hl with g | g
      · exact hh.2.2.1 l g
      · rw [List.mem_singleton.mp g]; exact hsa
    · intro b rb hb
      obtain ⟨ee, g2, g1, g3⟩ := hh.2.2.2 b rb hb
      refine ⟨ee, g2, g1, ?_⟩
      by_cases eb : b = a
      · subst eb
        cases hb.symm.trans ha
        cases g2.symm.trans hr
        refine ⟨_, e1, fun t' ht' i hi => ?_⟩
        cases ht'
        unfold updV
        split
        · exact hx
        · exact h4 i hi
      · obtain ⟨k0, k1, k2, k3⟩ := ee
        match k0, g3 with
        | 0, g3 =>
          obtain ⟨c, d1, d2⟩ := g3
          exact ⟨c, by rw [e3 b eb]; exact d1, d2⟩
        | k0 + 1, g3 =>
          obtain ⟨c, d1, d2⟩ := g3
          exact ⟨c, by rw [e3 b eb]; exact d1, d2⟩
/-- what is of the form f and of kind 5 + 2 r becomes of kind 4 + 2 r -/
def zx_nn (r : Nat) (f : zl_F) (z : zv_V) : zv_V := match Nat.beq z.1 (5 + 2 * r), zx_un f, zx_un z.2 with
  | true, some i, some j => (match Nat.beq i j with
    | true => (4 + 2 * r, z.2)
    | false => z)
  | _, _, _ => z
theorem zx_nn_ok {v : Nat → Int} {r : Nat} {f : zl_F} {x : Value} {z : zv_V} (hf : ¬ zl_at v f = -1) (h : zv_ok ro v x z) : zv_ok ro v x (zx_nn r f z) := by
  unfold zx_nn
  split
  · rename_i i j e1 e2 e3
    split
    · rename_i e4
      have e1 := Nat.eq_of_beq_eq_true e1
      have e4 := Nat.eq_of_beq_eq_true e4
      obtain ⟨k, g⟩ := z
      dsimp only at e1 e3 ⊢
      subst e1 e4
      rw [show 5 + 2 * r = 2 * r + 1 + 4 by omega] at h
      rw [show 4 + 2 * r = 2 * r + 4 by omega]
      rcases h with ⟨-, -, h3⟩ | h3
      · rw [zx_un_at e2] at hf
        dsimp only at h3
        rw [zx_un_at e3] at h3
        exact absurd h3 hf
      · rw [show (2 * r + 1) / 2 = r by omega] at h3
        exact Or.inr (by rw [show 2 * r / 2 = r by omega]; exact h3)
    · exact h
  · exact h
theorem zx_nn_wf {n r : Nat} {f : zl_F} {z : zv_V} (h : zv_wf n z) : zv_wf n (zx_nn r f z) := by
  unfold zx_nn
  split
  · split
    · exact h
    · exact h
  · exact h
def zx_nN (r : Nat) (f : zl_F) (q : zs_S) (S : List zv_V) : zs_S := (q.1, q.2.1, q.2.2.1.map (fun e => (e.1, zx_nn r f e.2)), S.map (zx_nn r f), q.2.2.2.2.1.map (fun e => (e.1, zx_nn r f e.2)), q.2.2.2.2.2)
theorem zx_nN_wf {r : Nat} {f : zl_F} {S : List zv_V} (h : zs_wf q) (hS : ∀ z ∈ S, zv_wf q.1.length z) : zs_wf (zx_nN r f q S) := by
  refine ⟨h.1, fun e he => ?_, fun z hz => ?_, fun e he => ?_, h.2.2.2.2⟩
  · obtain ⟨y, h1, h2⟩ := List.mem_map.mp he
    rw [← h2]; exact zx_nn_wf (h.2.1 y h1)
  · obtain ⟨y, h1, h2⟩ := List.mem_map.mp hz
    rw [← h2]; exact zx_nn_wf (hS y h1)
  · obtain ⟨y, h1, h2⟩ := List.mem_map.mp he
    rw [← h2]; exact ⟨(h.2.2.2.1 y h1).1, zx_nn_wf (h.2.2.2.1 y h1).2⟩
theorem zs_nn {v : Nat → Int} {r : Nat} {f : zl_F} (hf : ¬ zl_at v f = -1) : ∀ {st : List Value} {S : List zv_V}, zs_st ro v st S → zs_st ro v st (S.map (zx_nn r f))
  | [], [], h => h
  | [], _ :: _, h => h
  | _ :: _, [], h => h
  | _ :: _, _ :: _, h => ⟨zx_nn_ok hf h.1, zs_nn hf h.2⟩
theorem zx_nN_ok {r : Nat} {f : zl_F} {S : List zv_V} {v : Nat → Int} {H : Heap} {ls : Array Slot} {st st' : List Value} (h : zs_ok D RT ro Ga nL q v H ls st) (hS : zs_st ro v st' S) (hf : ¬ zl_at v f = -1) : zs_ok D RT ro Ga nL (zx_nN r f q S) v H ls st' := by
  obtain ⟨hB, hC, ⟨lv, hlv, hL⟩, -, hF, hG⟩ := h
  refine ⟨hB, hC, ⟨lv, hlv, fun e he => ?_⟩, zs_nn hf hS, fun e he => ?_, hG⟩
  · obtain ⟨y, h1, h2⟩ := List.mem_map.mp he
    obtain ⟨x, h3, h4⟩ := hL y h1
    rw [← h2]; exact ⟨x, h3, zx_nn_ok hf h4⟩
  · obtain ⟨y, h1, h2⟩ := List.mem_map.mp he
    obtain ⟨a, ci, n, fs, g1, g2, g3, g4, g5⟩ := hF y h1
    rw [← h2]; exact ⟨a, ci, n, fs, g1, g2, g3, g4, zx_nn_ok hf g5⟩
/-- ifnull (b false), ifnonnull (b true), of what may be null: pn where it is, pr where it is not -/
theorem zi_nul {r pn pr : Nat} {f : zl_F} {S : List zv_V} (hS : q.2.2.2.1 = (5 + 2 * r, f) :: S)
    (rowN : ∀ H locs ls st, G pn H locs ls st → G pc H locs ls (.null :: st)) (rowR : ∀ H locs ls st a, G pr H locs ls st → G pc H locs ls (.ref a :: st))
    (Kn : zw D cA RT ro sz H0 Ga nL G pn (zq_S q S)) (Kr : zw D cA RT ro sz H0 Ga nL G pr (zx_nN r f q S)) : zw D cA RT ro sz H0 Ga nL G pc q := by
  intro hw v H locs ls st h hh
  have hst := h.2.2.2.1
  rw [hS] at hst
  match st, hst with
  | x0 :: st, hst =>
    have wS : ∀ z ∈ S, zv_wf q.1.length z := fun z hz => hw.2.2.1 z (by rw [hS]; exact List.mem_cons_of_mem _ hz)
    have h4 := hst.1
    rw [show 5 + 2 * r = 2 * r + 1 + 4 by omega] at h4
    rcases h4 with ⟨-, h5, -⟩ | ⟨a, h5, h6, h7⟩
    · subst h5
      exact rowN _ _ _ _ (Kn (zq_S_wf hw wS) v H locs ls st (zq_S_ok h hst.2) hh)
    · subst h5
      refine rowR _ _ _ _ a (Kr (zx_nN_wf hw wS) v H locs ls st (zx_nN_ok h hst.2 (fun e => ?_)) hh)
      dsimp only at h7
      omega
end ZR
end
section
/-! calls. A contract: types of the arguments; fields before ((argument, role, field), type); relations before; fields that it may change (role, field); fields behind (argument, role, field); alternatives (type of the answer, types of the fields behind, relations). Relations speak of the numbers: the arguments', the fields' before, the answer, the fields' behind -/
abbrev zc_A : Type := Option zt_T × List zt_T × List zl_F
abbrev zc_C : Type := List zt_T × List ((Nat × Nat × Nat) × zt_T) × List zl_F × List (Nat × Nat) × List (Nat × Nat × Nat) × List zc_A
def zi_of (x : Value) : Int := match x with
  | .int y => y.toInt
  | .long y => y.toInt
  | .ref a => (a : Int)
  | _ => -1
theorem zi_of_ok {ro : Nat → Option Nat} {v : Nat → Int} {x : Value} {z : zv_V} (h : zv_ok ro v x z) (h3 : z.1 ≠ 3) : zi_of x = zl_at v z.2 := by
  obtain ⟨k, f⟩ := z
  match k with
  | 0 => obtain ⟨a, h1, h2⟩ := h; rw [h1]; exact h2
  | 1 => obtain ⟨a, h1, h2⟩ := h; rw [h1]; exact h2
  | 2 => rw [h.1]; exact h.2.symm
  | 3 => exact absurd rfl h3
  | k + 4 =>
    rcases h with ⟨-, h1, h2⟩ | ⟨a, h1, -, h2⟩
    · rw [h1]; exact h2.symm
    · rw [h1]; exact h2
def zr_ci (RT : List zr_R) (r : Nat) : Nat := match RT[r]? with
  | some e => e.2.1
  | none => 0
/-- the field (argument, role, field) in the heap -/
def zc_fv (D : va_G) (RT : List zr_R) (H : Heap) (vs : List Value) (p : Nat × Nat × Nat) : Value := match vs[p.1]? with
  | some (.ref a) => zh_f D H a (zr_ci RT p.2.1) p.2.2
  | _ => .null
def zt_all (ro : Nat → Option Nat) : List Value → List zt_T → Prop
  | [], [] => True
  | x :: xs, t :: ts => zt_ok ro x t ∧ zt_all ro xs ts
  | _, _ => False
def zc_pre (D : va_G) (RT : List zr_R) (ro : Nat → Option Nat) (c : zc_C) (H : Heap) (vs : List Value) : Prop :=
  zt_all ro vs c.1 ∧ (∀ e ∈ c.2.1, zt_ok ro (zc_fv D RT H vs e.1) e.2) ∧ ∀ f ∈ c.2.2.1, zl_at (fun u => (vs.map zi_of ++ c.2.1.map (fun e => zi_of (zc_fv D RT H vs e.1))).getD u 0) f ≤ 0
def zc_kept (D : va_G) (RT : List zr_R) (ro : Nat → Option Nat) (ms : List (Nat × Nat)) (H H' : Heap) : Prop := ∀ (a r k ci n : Nat) (fs : List zt_T), ro a = some r → RT[r]? = some (0, ci, n, fs) → k < fs.length → (r, k) ∉ ms → zh_f D H' a ci k = zh_f D H a ci k
def zc_res (ro : Nat → Option Nat) : Option zt_T → Option Value → Prop
  | some t, some x => zt_ok ro x t
  | none, none => True
  | _, _ => False
def zc_rv (x : Option Value) : Int := match x with
  | some y => zi_of y
  | none => 0
def zc_env (D : va_G) (RT : List zr_R) (c : zc_C) (H H' : Heap) (vs : List Value) (x : Option Value) : List Int :=
  vs.map zi_of ++ c.2.1.map (fun e => zi_of (zc_fv D RT H vs e.1)) ++ zc_rv x :: c.2.2.2.2.1.map (fun e => zi_of (zc_fv D RT H' vs e))
def zc_post (D : va_G) (RT : List zr_R) (ro : Nat → Option Nat) (c : zc_C) (al : zc_A) (H H' : Heap) (vs : List Value) (x : Option Value) : Prop :=
  zc_res ro al.1 x ∧ zt_all ro (c.2.2.2.2.1.map (zc_fv D RT H' vs)) al.2.1 ∧ ∀ f ∈ al.2.2, zl_at (fun u => (zc_env D RT c H H' vs x).getD u 0) f ≤ 0
/-- the row of a call by a contract -/
def zc_row (D : va_G) (cA : Nat → ClassId) (RT : List zr_R) (ro : Nat → Option Nat) (sz : Nat) (H0 : Heap) (nL : Nat) (G : zg_G) (pc pc' : Nat) (c : zc_C) : Prop :=
  ∀ H locs (ls : Array Slot) st (vs : List Value), ls.size = nL → (st.map fun v => v.category).sum ≤ 8 → zh_ok D cA RT ro sz H0 H locs → zc_pre D RT ro c H vs →
    (∀ H' locs' x, zh_ok D cA RT ro sz H0 H' locs' → zc_kept D RT ro c.2.2.2.1 H H' → (∃ al ∈ c.2.2.2.2.2, zc_post D RT ro c al H H' vs x) → G pc' H' locs' ls (x.toList ++ st)) → G pc H locs ls (vs.reverse ++ st)
def zl_sb (σ : List zl_F) : zl_T → zl_F
  | [] => zl_k 0
  | q :: t => zl_add (zl_mul q.2 (σ.getD q.1 (zl_k 0))) (zl_sb σ t)
def zl_sB (σ : List zl_F) (f : zl_F) : zl_F := zl_add (zl_sb σ f.1) (zl_k f.2)
theorem zl_sB_at (v : Nat → Int) (σ : List zl_F) (f : zl_F) : zl_at v (zl_sB σ f) = zl_at (fun u => (σ.map (zl_at v)).getD u 0) f := by
  have h : ∀ t : zl_T, zl_at v (zl_sb σ t) = zl_ev (fun u => (σ.map (zl_at v)).getD u 0) t := by
    intro t
    induction t with
    | nil => simp [zl_sb, zl_k_at, zl_ev]
    | cons q t ih =>
      simp only [zl_sb, zl_add_at, zl_mul_at, ih, zl_ev]
      have : zl_at v (σ.getD q.1 (zl_k 0)) = (σ.map (zl_at v)).getD q.1 0 := by
        simp only [List.getD_eq_getElem?_getD, List.getElem?_map]
        cases σ[q.1]? with
        | none => simp [zl_k_at]
        | some y => simp
      rw [this]
  unfold zl_sB
  rw [zl_add_at, h, zl_k_at]
  rfl
theorem zl_sB_wf {n : Nat} {σ : List zl_F} (f : zl_F) (h : ∀ g ∈ σ, zl_wf n g) : zl_wf n (zl_sB σ f) := by
  refine zl_add_wf ?_ zl_k_wf
  obtain ⟨t, k⟩ := f
  show zl_wf n (zl_sb σ t)
  induction t with
  | nil => exact zl_k_wf
  | cons q t ih =>
    refine zl_add_wf (zl_mul_wf ?_) ih
    rw [List.getD_eq_getElem?_getD]
    cases hq : σ[q.1]? with
    | none => exact zl_k_wf
    | some y => exact h y (List.mem_of_getElem? hq)
/-- the values of the types -/
def zx_tys (q : zs_S) : List zv_V → List zt_T → Bool
  | [], [] => true
  | z :: zs, t :: ts => zx_ty q z t && zx_tys q zs ts
  | _, _ => false
theorem zx_ty_3 {q : zs_S} {z : zv_V} {t : zt_T} (h : zx_ty q z t = true) : z.1 ≠ 3 := by
  obtain ⟨k, lo, hi⟩ := t
  intro e
  match k with
  | 0 => simp only [zx_ty, e, Bool.and_eq_true] at h; exact absurd h.1 (by decide)
  | 1 => simp only [zx_ty, e, Bool.and_eq_true] at h; exact absurd h.1 (by decide)
  | 2 => cases h
  | 3 => cases h
  | k + 4 =>
    simp only [zx_ty, e, Bool.or_eq_true, Bool.and_eq_true] at h
    rcases h with h | ⟨h1, h | h⟩
    · have := Nat.eq_of_beq_eq_true h; omega
    · exact absurd h (by decide)
    · have := Nat.eq_of_beq_eq_true h
      have := Nat.eq_of_beq_eq_true h1
      omega
/-- the facts of the fields before, of which each stands in the state -/
def zx_pf0 (q : zs_S) (zs : List zv_V) (p : Nat × Nat × Nat) : Option zv_V := match zs[p.1]? with
  | some z => (match Nat.beq z.1 (4 + 2 * p.2.1), zx_un z.2 with
    | true, some i => zf_get q.2.2.2.2.1 i p.2.1 p.2.2
    | _, _ => none)
  | none => none
def zx_pfs (q : zs_S) (zs : List zv_V) : List ((Nat × Nat × Nat) × zt_T) → Option (List zv_V)
  | [] => some []
  | e :: t => match zx_pf0 q zs e.1, zx_pfs q zs t with
    | some z, some r => (match zx_ty q z e.2 with
      | true => some (z :: r)
      | false => none)
    | _, _ => none
/-- the weight of operands -/
def zx_wt : List zv_V → Nat
  | [] => 0
  | z :: t => (match Nat.beq z.1 1 with
    | true => 2
    | false => 1) + zx_wt t
theorem zx_wt_ok {ro : Nat → Option Nat} {v : Nat → Int} : ∀ {st : List Value} {S : List zv_V}, zs_st ro v st S → (st.map fun v => v.category).sum = zx_wt S
  | [], [], _ => rfl
  | x :: st, z :: S, h => by
    have e0 : zx_wt (z :: S) = (match Nat.beq z.1 1 with
      | true => 2
      | false => 1) + zx_wt S := rfl
    rw [List.map_cons, List.sum_cons, zx_wt_ok h.2, zv_cat h.1, e0]
    by_cases e : z.1 = 1
    · rw [if_pos e, e]
    · rw [if_neg e, show Nat.beq z.1 1 = false by
        cases g : Nat.beq z.1 1 with
        | true => exact absurd (Nat.eq_of_beq_eq_true g) e
        | false => rfl]
  | [], _ :: _, h => h.elim
  | _ :: _, [], h => h.elim
end
section
/-! a call by a contract, its soundness -/
section ZCS
variable {D : va_G} {cA : Nat → ClassId} {RT : List zr_R} {ro : Nat → Option Nat} {sz : Nat} {H0 : Heap} {Ga : List Int} {nL : Nat} {G : zg_G} {pc pc' : Nat} {q : zs_S}
theorem zs_st_app {v : Nat → Int} : ∀ {A B : List zv_V} {st : List Value}, zs_st ro v st (A ++ B) → ∃ a b, st = a ++ b ∧ zs_st ro v a A ∧ zs_st ro v b B
  | [], B, st, h => ⟨[], st, rfl, trivial, h⟩
  | z :: A, B, x :: st, h => by
    obtain ⟨a, b, h1, h2, h3⟩ := zs_st_app h.2
    exact ⟨x :: a, b, by rw [h1]; rfl, ⟨h.1, h2⟩, h3⟩
  | _ :: _, _, [], h => h.elim
theorem zs_st_ap {v : Nat → Int} : ∀ {A B : List zv_V} {a b : List Value}, zs_st ro v a A → zs_st ro v b B → zs_st ro v (a ++ b) (A ++ B)
  | [], _, [], _, _, h => h
  | _ :: _, _, _ :: _, _, h1, h => ⟨h1.1, zs_st_ap h1.2 h⟩
  | [], _, _ :: _, _, h1, _ => h1.elim
  | _ :: _, _, [], _, h1, _ => h1.elim
theorem zs_st_rev {v : Nat → Int} : ∀ {A : List zv_V} {a : List Value}, zs_st ro v a A → zs_st ro v a.reverse A.reverse
  | [], [], _ => trivial
  | z :: A, x :: a, h => by
    rw [List.reverse_cons, List.reverse_cons]
    exact zs_st_ap (zs_st_rev h.2) ⟨h.1, trivial⟩
  | [], _ :: _, h => h.elim
  | _ :: _, [], h => h.elim
theorem zs_st_get {v : Nat → Int} : ∀ {A : List zv_V} {a : List Value} {j : Nat} {z : zv_V}, zs_st ro v a A → A[j]? = some z → ∃ x, a[j]? = some x ∧ zv_ok ro v x z
  | z :: A, x :: a, 0, _, h, e => by cases e; exact ⟨x, rfl, h.1⟩
  | z :: A, x :: a, j + 1, _, h, e => by
    obtain ⟨y, h1, h2⟩ := zs_st_get (j := j) h.2 (by simpa using e)
    exact ⟨y, by simpa using h1, h2⟩
  | [], _, _, _, _, e => by simp at e
  | _ :: _, [], _, _, h, _ => h.elim
theorem zs_st_mono {v v' : Nat → Int} {n : Nat} (hv : ∀ f, zl_wf n f → zl_at v' f = zl_at v f) : ∀ {A : List zv_V} {a : List Value}, (∀ z ∈ A, zv_wf n z) → zs_st ro v a A → zs_st ro v' a A
  | [], [], _, h => h
  | [], _ :: _, _, h => h
  | _ :: _, [], _, h => h
  | z :: A, x :: a, hw, h => by
    refine ⟨?_, zs_st_mono hv (fun y hy => hw y (List.mem_cons_of_mem _ hy)) h.2⟩
    have e := hv z.2 (hw z List.mem_cons_self)
    have h1 := h.1
    obtain ⟨k, f⟩ := z
    dsimp only at e
    match k with
    | 0 => obtain ⟨a, h1, h2⟩ := h1; exact ⟨a, h1, by rw [e]; exact h2⟩
    | 1 => obtain ⟨a, h1, h2⟩ := h1; exact ⟨a, h1, by rw [e]; exact h2⟩
    | 2 => exact ⟨h1.1, by rw [e]; exact h1.2⟩
    | 3 => obtain ⟨a, h1, h2⟩ := h1; exact ⟨a, h1, by rw [e]; exact h2⟩
    | k + 4 =>
      rcases h1 with ⟨h1, h2, h3⟩ | ⟨a, h1, h2, h3⟩
      · exact Or.inl ⟨h1, h2, by rw [e]; exact h3⟩
      · exact Or.inr ⟨a, h1, h2, by rw [e]; exact h3⟩
theorem zx_tys_ok {v : Nat → Int} {H : Heap} {ls : Array Slot} {st : List Value} (h : zs_ok D RT ro Ga nL q v H ls st) : ∀ {zs : List zv_V} {ts : List zt_T} {vs : List Value}, zx_tys q zs ts = true → zs_st ro v vs zs → zt_all ro vs ts ∧ vs.map zi_of = zs.map (fun z => zl_at v z.2)
  | [], [], [], _, _ => ⟨trivial, rfl⟩
  | z :: zs, t :: ts, x :: vs, ht, hv => by
    simp only [zx_tys, Bool.and_eq_true] at ht
    obtain ⟨h1, h2⟩ := zx_tys_ok h ht.2 hv.2
    exact ⟨⟨zx_ty_ok h hv.1 ht.1, h1⟩, by rw [List.map_cons, List.map_cons, h2, zi_of_ok hv.1 (zx_ty_3 ht.1)]⟩
  | [], [], _ :: _, _, hv => hv.elim
  | [], _ :: _, _, ht, _ => by simp [zx_tys] at ht
  | _ :: _, [], _, ht, _ => by simp [zx_tys] at ht
  | _ :: _, _ :: _, [], _, hv => hv.elim
theorem zx_pf0_ok {v : Nat → Int} {H : Heap} {ls : Array Slot} {st vs : List Value} {zs : List zv_V} {p : Nat × Nat × Nat} {z : zv_V} (h : zs_ok D RT ro Ga nL q v H ls st) (hv : zs_st ro v vs zs) (hz : zx_pf0 q zs p = some z) : zv_ok ro v (zc_fv D RT H vs p) z := by
  unfold zx_pf0 at hz
  split at hz
  · rename_i y hy
    split at hz
    · rename_i i e1 e2
      have e1 := Nat.eq_of_beq_eq_true e1
      obtain ⟨x, h1, h2⟩ := zs_st_get hv hy
      obtain ⟨k, f⟩ := y
      dsimp only at e1 e2
      subst e1
      obtain ⟨a, h3, h4, h5⟩ := zv_rf h2
      subst h3
      obtain ⟨a', ci, n, fs, g1, g2, g3, g4, g5⟩ := h.2.2.2.2.1 _ (zf_get_mem hz)
      dsimp only at g1 g2 g3 g4 g5
      rw [zx_un_at e2] at h5
      have : a' = a := by
        have : (a' : Int) = a := by rw [g1, h5]
        omega
      subst this
      unfold zc_fv
      rw [h1]
      dsimp only
      rw [show zr_ci RT p.2.1 = ci by simp [zr_ci, g3]]
      exact g5
    · cases hz
  · cases hz
theorem zx_pf0_wf {zs : List zv_V} {p : Nat × Nat × Nat} {z : zv_V} (hw : zs_wf q) (hz : zx_pf0 q zs p = some z) : zv_wf q.1.length z := by
  unfold zx_pf0 at hz
  split at hz
  · split at hz
    · exact (hw.2.2.2.1 _ (zf_get_mem hz)).2
    · cases hz
  · cases hz
theorem zx_pfs_ok {v : Nat → Int} {H : Heap} {ls : Array Slot} {st vs : List Value} {zs : List zv_V} (hw : zs_wf q) (h : zs_ok D RT ro Ga nL q v H ls st) (hv : zs_st ro v vs zs) : ∀ {ps : List ((Nat × Nat × Nat) × zt_T)} {ys : List zv_V}, zx_pfs q zs ps = some ys →
    (∀ e ∈ ps, zt_ok ro (zc_fv D RT H vs e.1) e.2) ∧ ps.map (fun e => zi_of (zc_fv D RT H vs e.1)) = ys.map (fun z => zl_at v z.2) ∧ ∀ y ∈ ys, zv_wf q.1.length y
  | [], ys, hy => by
    simp only [zx_pfs, Option.some.injEq] at hy
    subst hy
    exact ⟨fun e he => (by cases he), rfl, fun y hy => (by cases hy)⟩
  | e :: ps, ys, hy => by
    unfold zx_pfs at hy
    split at hy
    · rename_i z r h1 h2
      split at hy
      · rename_i h3
        cases hy
        obtain ⟨g1, g2, g3⟩ := zx_pfs_ok hw h hv h2
        have g4 := zx_pf0_ok h hv h1
        refine ⟨fun x hx => ?_, by rw [List.map_cons, List.map_cons, g2, zi_of_ok g4 (zx_ty_3 h3)], fun y hy => ?_⟩
        · rcases List.mem_cons.mp hx with e' | e'
          · rw [e']; exact zx_ty_ok h g4 h3
          · exact g1 x e'
        · rcases List.mem_cons.mp hy with e' | e'
          · rw [e']; exact zx_pf0_wf hw h1
          · exact g3 y e'
      · cases hy
    · cases hy
/-- new unknowns for the fields behind -/
def zx_po (zs : List zv_V) : zs_S → List (Nat × Nat × Nat) → List zt_T → Option (zs_S × List zl_F)
  | q, [], [] => some (q, [])
  | q, p :: ps, t :: ts => (match zs[p.1]? with
    | some z => (match Nat.beq z.1 (4 + 2 * p.2.1), zx_un z.2, Nat.beq t.1 2 || Nat.beq t.1 3 with
      | true, some i, false => (match zx_po zs (zq_F (zs_new q (zt_b t).1 (zt_b t).2) (((i, p.2.1, p.2.2), (t.1, zl_id q.1.length)) :: q.2.2.2.2.1)) ps ts with
        | some r => some (r.1, zl_id q.1.length :: r.2)
        | none => none)
      | _, _, _ => none)
    | none => none)
  | _, _, _ => none
theorem zx_un_lt {n i : Nat} {f : zl_F} (hw : zl_wf n f) (hi : zx_un f = some i) : i < n := by
  unfold zx_un at hi
  split at hi
  · cases hi
    exact hw _ List.mem_cons_self
  · cases hi
theorem zx_po_ok {H : Heap} {ls : Array Slot} {st vs : List Value} {zs : List zv_V} : ∀ {ps : List (Nat × Nat × Nat)} {ts : List zt_T} {q q' : zs_S} {fs : List zl_F} {v : Nat → Int}, zx_po zs q ps ts = some (q', fs) → zs_wf q → zs_ok D RT ro Ga nL q v H ls st → zs_st ro v vs zs → (∀ z ∈ zs, zv_wf q.1.length z) →
    (∀ p ∈ ps, ∃ (ci n : Nat) (gs : List zt_T), RT[p.2.1]? = some (0, ci, n, gs) ∧ p.2.2 < gs.length) → zt_all ro (ps.map (zc_fv D RT H vs)) ts →
    ∃ v', zs_wf q' ∧ zs_ok D RT ro Ga nL q' v' H ls st ∧ q.1.length ≤ q'.1.length ∧ (∀ f, zl_wf q.1.length f → zl_at v' f = zl_at v f) ∧ fs.map (zl_at v') = ps.map (fun p => zi_of (zc_fv D RT H vs p)) ∧ ∀ f ∈ fs, zl_wf q'.1.length f
  | [], [], q, q', fs, v, hq, hw, h, hv, hz, hp, ht => by
    simp only [zx_po, Option.some.injEq, Prod.mk.injEq] at hq
    obtain ⟨rfl, rfl⟩ := hq
    exact ⟨v, hw, h, Nat.le_refl _, fun _ _ => rfl, rfl, fun f hf => by cases hf⟩
  | p :: ps, t :: ts, q, q', fs, v, hq, hw, h, hv, hz, hp, ht => by
    unfold zx_po at hq
    split at hq
    · rename_i z hzp
      split at hq
      · rename_i i e1 e2 e3
        split at hq
        · rename_i r hr
          obtain ⟨q2, fs2⟩ := r
          cases hq
          have e1 := Nat.eq_of_beq_eq_true e1
          simp only [Bool.or_eq_false_iff] at e3
          have t2 : t.1 ≠ 2 := fun e => by rw [e] at e3; exact absurd e3.1 (by decide)
          have t3 : t.1 ≠ 3 := fun e => by rw [e] at e3; exact absurd e3.2 (by decide)
          obtain ⟨x, h1, h2⟩ := zs_st_get hv hzp
          have wz := hz z (List.mem_of_getElem? hzp)
          obtain ⟨k, f⟩ := z
          dsimp only at e1 e2
          subst e1
          obtain ⟨a, h3, h4, h5⟩ := zv_rf h2
          subst h3
          rw [zx_un_at e2] at h5
          have iw := zx_un_lt wz e2
          obtain ⟨ci, n, gs, p1, p2⟩ := hp p List.mem_cons_self
          have hfv : zc_fv D RT H vs p = zh_f D H a ci p.2.2 := by
            unfold zc_fv
            rw [h1]
            dsimp only
            rw [show zr_ci RT p.2.1 = ci by simp [zr_ci, p1]]
          obtain ⟨y, hy, hyv⟩ := zt_new ht.1 t2 t3
          have hn := zs_new_ok hw h hy
          have hnw := zs_new_wf (lo := (zt_b t).1) (hi := (zt_b t).2) hw
          have el : (zs_new q (zt_b t).1 (zt_b t).2).1.length = q.1.length + 1 := by simp [zs_new]
          have hag : ∀ g, zl_wf q.1.length g → zl_at (zl_up v q.1.length y) g = zl_at v g := fun g hg => zl_up_at hg
          have hself : zl_at (zl_up v q.1.length y) (zl_id q.1.length) = y := by rw [zl_id_at]; simp [zl_up]
          obtain ⟨v', k1, k2, k3, k4, k5, k6⟩ := zx_po_ok (v := zl_up v q.1.length y) hr
            ⟨hnw.1, hnw.2.1, hnw.2.2.1, fun e he => by
              show e.1.1 < (zs_new q (zt_b t).1 (zt_b t).2).1.length ∧ zv_wf (zs_new q (zt_b t).1 (zt_b t).2).1.length e.2
              rcases List.mem_cons.mp he with e' | e'
              · rw [e', el]; exact ⟨by dsimp only; omega, zl_id_wf (by omega)⟩
              · exact hnw.2.2.2.1 e e', hnw.2.2.2.2⟩
            ⟨hn.1, hn.2.1, hn.2.2.1, hn.2.2.2.1, fun e he => by
              rcases List.mem_cons.mp he with e' | e'
              · rw [e']
                refine ⟨a, ci, n, gs, ?_, h4, p1, p2, ?_⟩
                · dsimp only
                  rw [show zl_up v q.1.length y i = v i by simp [zl_up, Nat.ne_of_lt iw]]; exact h5
                · dsimp only
                  rw [← hfv]; exact hyv _ _ hself
              · exact hn.2.2.2.2.1 e e', hn.2.2.2.2.2⟩
            (zs_st.up hz hv) (fun g hg => by
              show zv_wf (zs_new q (zt_b t).1 (zt_b t).2).1.length g
              exact zl_wf.mono (hz g hg) (by omega)) (fun p' hp' => hp p' (List.mem_cons_of_mem _ hp')) ht.2
          have el2 : q.1.length + 1 ≤ q2.1.length := by rw [← el]; exact k3
          have hself' : zl_at v' (zl_id q.1.length) = y := by
            rw [k4 (zl_id q.1.length) (by
              show zl_wf (zs_new q (zt_b t).1 (zt_b t).2).1.length (zl_id q.1.length)
              exact zl_id_wf (by omega))]
            exact hself
          refine ⟨v', k1, k2, Nat.le_trans (Nat.le_succ _) el2, fun g hg => ?_, ?_, fun g hg => ?_⟩
          · rw [k4 g (by
              show zl_wf (zs_new q (zt_b t).1 (zt_b t).2).1.length g
              exact hg.mono (by omega)), hag g hg]
          · rw [List.map_cons, List.map_cons, k5, hself']
            have hz3 : zi_of (zc_fv D RT H vs p) = zl_at (zl_up v q.1.length y) (zl_id q.1.length) := zi_of_ok (hyv _ _ hself) t3
            rw [hz3, hself]
          · rcases List.mem_cons.mp hg with e' | e'
            · rw [e']; exact zl_id_wf (show q.1.length < q2.1.length by omega)
            · exact k6 g e'
        · cases hq
      · cases hq
    · cases hq
  | [], _ :: _, q, q', fs, v, hq, hw, h, hv, hz, hp, ht => by simp [zx_po] at hq
  | _ :: _, [], q, q', fs, v, hq, hw, h, hv, hz, hp, ht => by simp [zx_po] at hq
end ZCS
end
section
/-! the step of a call -/
def zx_kp (ms : List (Nat × Nat)) (F : List ((Nat × Nat × Nat) × zv_V)) : List ((Nat × Nat × Nat) × zv_V) := F.filter (fun e => !(ms.any (fun p => Nat.beq p.1 e.1.2.1 && Nat.beq p.2 e.1.2.2)))
def zx_c0 (ms : List (Nat × Nat)) (q : zs_S) (S : List zv_V) : zs_S := (q.1, q.2.1, q.2.2.1, S, zx_kp ms q.2.2.2.2.1, q.2.2.2.2.2)
def zx_rs (r : Option zt_T) (q : zs_S) : Option (zs_S × zl_F) := match r with
  | none => some (q, zl_k 0)
  | some t => (match Nat.beq t.1 2 || Nat.beq t.1 3 with
    | true => none
    | false => some (zx_ft t q q.2.2.2.1, zl_id q.1.length))
def zx_pk (RT : List zr_R) (ps : List (Nat × Nat × Nat)) : Bool := ps.all (fun p => match RT[p.2.1]? with
  | some (0, _, _, gs) => Nat.blt p.2.2 gs.length
  | _ => false)
def zx_cp (c : zc_C) (q : zs_S) : Option (List zv_V × List zv_V × List zv_V) :=
  let zs := (q.2.2.2.1.take c.1.length).reverse
  match zx_tys q zs c.1 && Nat.ble (zx_wt (q.2.2.2.1.drop c.1.length)) 8, zx_pfs q zs c.2.1 with
  | true, some ys => (match c.2.2.1.all (fun f => zl_le q.1 q.2.1 (zl_sB (zs.map (fun z => z.2) ++ ys.map (fun z => z.2)) f)) with
    | true => some (zs, ys, q.2.2.2.1.drop c.1.length)
    | false => none)
  | _, _ => none
def zx_ca (c : zc_C) (al : zc_A) (q : zs_S) (w : List zv_V × List zv_V × List zv_V) : Option zs_S := match zx_rs al.1 (zx_c0 c.2.2.2.1 q w.2.2) with
  | some r => (match zx_po w.1 r.1 c.2.2.2.2.1 al.2.1 with
    | some p => some ((al.2.2.map (zl_sB (w.1.map (fun z => z.2) ++ w.2.1.map (fun z => z.2) ++ r.2 :: p.2))).foldr (fun g a => zx_as a g) p.1)
    | none => none)
  | none => none
section ZCT
variable {D : va_G} {cA : Nat → ClassId} {RT : List zr_R} {ro : Nat → Option Nat} {sz : Nat} {H0 : Heap} {Ga : List Int} {nL : Nat} {G : zg_G} {pc pc' : Nat} {q : zs_S}
theorem zx_rs_ok {r : Option zt_T} {q' : zs_S} {f : zl_F} {v : Nat → Int} {H : Heap} {ls : Array Slot} {st : List Value} {x : Option Value} (hq : zx_rs r q = some (q', f)) (hw : zs_wf q) (h : zs_ok D RT ro Ga nL q v H ls st) (hx : zc_res ro r x) :
    ∃ v', zs_wf q' ∧ zs_ok D RT ro Ga nL q' v' H ls (x.toList ++ st) ∧ q.1.length ≤ q'.1.length ∧ (∀ g, zl_wf q.1.length g → zl_at v' g = zl_at v g) ∧ zl_at v' f = zc_rv x ∧ zl_wf q'.1.length f := by
  unfold zx_rs at hq
  split at hq
  · cases hq
    match x, hx with
    | none, _ => exact ⟨v, hw, h, Nat.le_refl _, fun _ _ => rfl, zl_k_at v 0, zl_k_wf⟩
  · rename_i t
    split at hq
    · cases hq
    · rename_i e3
      cases hq
      simp only [Bool.or_eq_false_iff] at e3
      have t2 : t.1 ≠ 2 := fun e => by rw [e] at e3; exact absurd e3.1 (by decide)
      have t3 : t.1 ≠ 3 := fun e => by rw [e] at e3; exact absurd e3.2 (by decide)
      match x, hx with
      | some x, hx =>
        obtain ⟨z, hz, hv⟩ := zt_new hx t2 t3
        have hself : zl_at (zl_up v q.1.length z) (zl_id q.1.length) = z := by rw [zl_id_at]; simp [zl_up]
        have el : (zx_ft t q q.2.2.2.1).1.length = q.1.length + 1 := by simp [zx_ft, zq_S, zs_new]
        refine ⟨zl_up v q.1.length z, zx_ft_wf hw hw.2.2.1, zq_S_ok (zs_new_ok hw h hz) ⟨hv _ _ hself, zs_st.up hw.2.2.1 h.2.2.2.1⟩, by omega, fun g hg => zl_up_at hg, ?_, by rw [el]; exact zl_id_wf (by omega)⟩
        rw [show zc_rv (some x) = zi_of x from rfl, zi_of_ok (hv _ _ hself) t3]
theorem zi_call {c : zc_C} {w : List zv_V × List zv_V × List zv_V} (hrow : zc_row D cA RT ro sz H0 nL G pc pc' c) (hp : zx_cp c q = some w) (hk : zx_pk RT c.2.2.2.2.1 = true)
    (K : ∀ al ∈ c.2.2.2.2.2, ∃ q', zx_ca c al q w = some q' ∧ zw D cA RT ro sz H0 Ga nL G pc' q') : zw D cA RT ro sz H0 Ga nL G pc q := by
  intro hw v H locs ls st h hh
  unfold zx_cp at hp
  dsimp only at hp
  split at hp
  · rename_i ys ht hys
    split at hp
    · rename_i hR
      cases hp
      rw [Bool.and_eq_true] at ht
      obtain ⟨ht, hwt⟩ := ht
      generalize hzs : (q.2.2.2.1.take c.1.length).reverse = zs at ht hys hR K
      have hS : q.2.2.2.1 = zs.reverse ++ q.2.2.2.1.drop c.1.length := by rw [← hzs, List.reverse_reverse, List.take_append_drop]
      have hst := h.2.2.2.1
      rw [hS] at hst
      obtain ⟨a, b, rfl, ha, hb⟩ := zs_st_app hst
      have hvs := zs_st_rev ha
      rw [List.reverse_reverse] at hvs
      have ea : a = a.reverse.reverse := (List.reverse_reverse a).symm
      rw [ea]
      generalize a.reverse = vs at hvs
      obtain ⟨t1, t2⟩ := zx_tys_ok h ht hvs
      obtain ⟨p1, p2, p3⟩ := zx_pfs_ok hw h hvs hys
      have wzs : ∀ z ∈ zs, zv_wf q.1.length z := fun z hz => hw.2.2.1 z (by rw [hS]; exact List.mem_append_left _ (List.mem_reverse.mpr hz))
      have wS0 : ∀ z ∈ q.2.2.2.1.drop c.1.length, zv_wf q.1.length z := fun z hz => hw.2.2.1 z (List.mem_of_mem_drop hz)
      have hσ : vs.map zi_of ++ c.2.1.map (fun e => zi_of (zc_fv D RT H vs e.1)) = (zs.map (fun z => z.2) ++ ys.map (fun z => z.2)).map (zl_at v) := by
        rw [t2, p2, List.map_append, List.map_map, List.map_map]; rfl
      obtain ⟨lv0, hlv0, -⟩ := h.2.2.1
      refine hrow H locs ls b vs hlv0.1 (by rw [zx_wt_ok hb]; exact Nat.le_of_ble_eq_true hwt) hh ⟨t1, p1, fun f hf => ?_⟩ (fun H' locs' x hh' hkp hal => ?_)
      · have h1 := List.all_eq_true.mp hR f hf
        have h2 := zl_le_ok h.1 h.2.1 h1
        rw [zl_sB_at] at h2
        rw [hσ]; exact h2
      · obtain ⟨al, hal, hr, hpo, hrel⟩ := hal
        obtain ⟨q', hq', Kq⟩ := K al hal
        unfold zx_ca at hq'
        split at hq'
        · rename_i r hrs
          obtain ⟨q1, rf⟩ := r
          split at hq'
          · rename_i pr hpr
            obtain ⟨q2, fs⟩ := pr
            have hq' := Option.some.inj hq'
            subst hq'
            have w0 : zs_wf (zx_c0 c.2.2.2.1 q (q.2.2.2.1.drop c.1.length)) := ⟨hw.1, hw.2.1, wS0, fun e he => hw.2.2.2.1 e (List.mem_filter.mp he).1, hw.2.2.2.2⟩
            have o0 : zs_ok D RT ro Ga nL (zx_c0 c.2.2.2.1 q (q.2.2.2.1.drop c.1.length)) v H' ls b := by
              refine ⟨h.1, h.2.1, h.2.2.1, hb, fun e he => ?_, h.2.2.2.2.2⟩
              obtain ⟨m1, m2⟩ := List.mem_filter.mp he
              obtain ⟨a', ci, n, gs, g1, g2, g3, g4, g5⟩ := h.2.2.2.2.1 e m1
              refine ⟨a', ci, n, gs, g1, g2, g3, g4, ?_⟩
              have := hkp a' e.1.2.1 e.1.2.2 ci n gs g2 g3 g4 (fun hm => by
                have : (c.2.2.2.1.any (fun p => Nat.beq p.1 e.1.2.1 && Nat.beq p.2 e.1.2.2)) = true := List.any_eq_true.mpr ⟨_, hm, by simp⟩
                rw [this] at m2
                cases m2)
              rw [this]; exact g5
            obtain ⟨v1, r1, r2, r3, r4, r5, r6⟩ := zx_rs_ok hrs w0 o0 hr
            have hvs1 : zs_st ro v1 vs zs := zs_st_mono (n := q.1.length) r4 wzs hvs
            have el0 : (zx_c0 c.2.2.2.1 q (q.2.2.2.1.drop c.1.length)).1.length = q.1.length := rfl
            rw [el0] at r3
            have wzs1 : ∀ z ∈ zs, zv_wf q1.1.length z := fun z hz => zl_wf.mono (wzs z hz) r3
            have hpk : ∀ p ∈ c.2.2.2.2.1, ∃ (ci n : Nat) (gs : List zt_T), RT[p.2.1]? = some (0, ci, n, gs) ∧ p.2.2 < gs.length := by
              intro p hp
              have h1 := List.all_eq_true.mp hk p hp
              split at h1
              · rename_i ci n gs hg
                exact ⟨ci, n, gs, hg, Nat.le_of_ble_eq_true h1⟩
              · cases h1
            obtain ⟨v2, k1, k2, k3, k4, k5, k6⟩ := zx_po_ok hpr r1 r2 hvs1 wzs1 hpk hpo
            have ag : ∀ g, zl_wf q.1.length g → zl_at v2 g = zl_at v g := fun g hg => by rw [k4 g (hg.mono r3), r4 g hg]
            have m1 : zs.map (fun z => z.2) |>.map (zl_at v2) |> (· = zs.map (fun z => zl_at v z.2)) := by
              rw [List.map_map]
              exact List.map_congr_left (fun z hz => ag z.2 (wzs z hz))
            have m2 : ys.map (fun z => z.2) |>.map (zl_at v2) |> (· = ys.map (fun z => zl_at v z.2)) := by
              rw [List.map_map]
              exact List.map_congr_left (fun z hz => ag z.2 (p3 z hz))
            have henv : (zs.map (fun z => z.2) ++ ys.map (fun z => z.2) ++ rf :: fs).map (zl_at v2) = zc_env D RT c H H' vs x := by
              unfold zc_env
              rw [List.map_append, List.map_append, m1, m2, List.map_cons, k5, k4 rf r6, r5, t2, p2]
            have w3 : ∀ g ∈ (zs.map (fun z => z.2) ++ ys.map (fun z => z.2) ++ rf :: fs), zl_wf q2.1.length g := by
              intro g hg
              have l2 : q.1.length ≤ q2.1.length := Nat.le_trans r3 k3
              rcases List.mem_append.mp hg with hg | hg
              · rcases List.mem_append.mp hg with hg | hg
                · obtain ⟨z, hz, rfl⟩ := List.mem_map.mp hg
                  exact zl_wf.mono (wzs z hz) l2
                · obtain ⟨z, hz, rfl⟩ := List.mem_map.mp hg
                  exact zl_wf.mono (p3 z hz) l2
              · rcases List.mem_cons.mp hg with e | e
                · rw [e]; exact r6.mono k3
                · exact k6 g e
            refine Kq (zx_fold_wf k1 (fun g hg => ?_)) v2 H' locs' ls _ (zx_fold_ok k2 (fun g hg => ?_)) hh'
            · obtain ⟨f, hf, rfl⟩ := List.mem_map.mp hg
              exact zl_sB_wf f w3
            · obtain ⟨f, hf, rfl⟩ := List.mem_map.mp hg
              rw [zl_sB_at, henv]
              exact hrel f hf
          · cases hq'
        · cases hq'
    · cases hp
  · cases hp
end ZCT
end
section
/-! points: (pc, bounds, relations, locals (place, kind), kinds of the operands, facts ((place of the object among the unknowns, role, field), kind), how many numbers stay, measures). The unknowns are numbered: locals, operands, facts, numbers that stay -/
abbrev zp_P : Type := Nat × zl_B × List zl_F × List (Nat × Nat) × List Nat × List ((Nat × Nat × Nat) × Nat) × Nat × List zl_F
def zp_L : Nat → List (Nat × Nat) → List (Nat × zv_V)
  | _, [] => []
  | n, e :: t => (e.1, (e.2, zl_id n)) :: zp_L (n + 1) t
def zp_S : Nat → List Nat → List zv_V
  | _, [] => []
  | n, k :: t => (k, zl_id n) :: zp_S (n + 1) t
def zp_F : Nat → List ((Nat × Nat × Nat) × Nat) → List ((Nat × Nat × Nat) × zv_V)
  | _, [] => []
  | n, e :: t => (e.1, (e.2, zl_id n)) :: zp_F (n + 1) t
def zp_G : Nat → Nat → List zl_F
  | _, 0 => []
  | n, k + 1 => zl_id n :: zp_G (n + 1) k
def zp_mk (P : zp_P) : zs_S := (P.2.1, P.2.2.1, zp_L 0 P.2.2.2.1, zp_S P.2.2.2.1.length P.2.2.2.2.1, zp_F (P.2.2.2.1.length + P.2.2.2.2.1.length) P.2.2.2.2.2.1, zp_G (P.2.2.2.1.length + P.2.2.2.2.1.length + P.2.2.2.2.2.1.length) P.2.2.2.2.2.2.1)
/-- the kinds: a is b, or null or not null where b may be null -/
def zx_co (a b : Nat) : Bool := (Nat.beq a b && !(Nat.beq a 3)) || (Nat.ble 5 b && Nat.beq (b % 2) 1 && (Nat.beq a 2 || Nat.beq (a + 1) b))
theorem zx_co_ok {ro : Nat → Option Nat} {v v' : Nat → Int} {x : Value} {a b : Nat} {f g : zl_F} (h : zv_ok ro v x (a, f)) (hc : zx_co a b = true) (e : zl_at v' g = zl_at v f) : zv_ok ro v' x (b, g) := by
  unfold zx_co at hc
  simp only [Bool.or_eq_true, Bool.and_eq_true, Bool.not_eq_true'] at hc
  rcases hc with ⟨h1, h2⟩ | ⟨⟨h1, h2⟩, h3 | h3⟩
  · have h1 := Nat.eq_of_beq_eq_true h1
    subst h1
    match a, h with
    | 0, h => obtain ⟨y, k1, k2⟩ := h; exact ⟨y, k1, by rw [e]; exact k2⟩
    | 1, h => obtain ⟨y, k1, k2⟩ := h; exact ⟨y, k1, by rw [e]; exact k2⟩
    | 2, h => exact ⟨h.1, by rw [e]; exact h.2⟩
    | 3, h => exact absurd h2 (by decide)
    | k + 4, h =>
      rcases h with ⟨k1, k2, k3⟩ | ⟨y, k1, k2, k3⟩
      · exact Or.inl ⟨k1, k2, by rw [e]; exact k3⟩
      · exact Or.inr ⟨y, k1, k2, by rw [e]; exact k3⟩
  · have h1 := Nat.le_of_ble_eq_true h1
    have h2 := Nat.eq_of_beq_eq_true h2
    have h3 := Nat.eq_of_beq_eq_true h3
    subst h3
    obtain ⟨k, rfl⟩ : ∃ k, b = k + 4 := ⟨b - 4, by omega⟩
    exact Or.inl ⟨by omega, h.1, by rw [e]; exact h.2⟩
  · have h1 := Nat.le_of_ble_eq_true h1
    have h2 := Nat.eq_of_beq_eq_true h2
    have h3 := Nat.eq_of_beq_eq_true h3
    obtain ⟨k, rfl⟩ : ∃ k, a = k + 4 := ⟨a - 4, by omega⟩
    have : b = k + 1 + 4 := by omega
    subst this
    rcases h with ⟨k1, k2, k3⟩ | ⟨y, k1, k2, k3⟩
    · omega
    · exact Or.inr ⟨y, k1, by rw [show (k + 1) / 2 = k / 2 by omega]; exact k2, by rw [e]; exact k3⟩
/-- what the unknowns of the point are in a state -/
def zp_sL (L : List (Nat × zv_V)) : List (Nat × Nat) → Option (List zl_F)
  | [] => some []
  | e :: t => match zx_get L e.1, zp_sL L t with
    | some z, some r => (match zx_co z.1 e.2 with
      | true => some (z.2 :: r)
      | false => none)
    | _, _ => none
def zp_sS : List zv_V → List Nat → Option (List zl_F)
  | [], [] => some []
  | z :: S, k :: t => match zp_sS S t with
    | some r => (match zx_co z.1 k with
      | true => some (z.2 :: r)
      | false => none)
    | none => none
  | _, _ => none
def zp_sF (F : List ((Nat × Nat × Nat) × zv_V)) (σ : List zl_F) : List ((Nat × Nat × Nat) × Nat) → Option (List zl_F)
  | [] => some []
  | e :: t => match zx_un (σ.getD e.1.1 (zl_k 0)), zp_sF F σ t with
    | some i, some r => (match zf_get F i e.1.2.1 e.1.2.2 with
      | some z => (match zx_co z.1 e.2 with
        | true => some (z.2 :: r)
        | false => none)
      | none => none)
    | _, _ => none
def zp_sg (q : zs_S) (P : zp_P) : Option (List zl_F) := match zp_sL q.2.2.1 P.2.2.2.1, zp_sS q.2.2.2.1 P.2.2.2.2.1 with
  | some a, some b => (match zp_sF q.2.2.2.2.1 (a ++ b) P.2.2.2.2.2.1, Nat.beq q.2.2.2.2.2.length P.2.2.2.2.2.2.1 with
    | some c, true => some (a ++ b ++ c ++ q.2.2.2.2.2)
    | _, _ => none)
  | _, _ => none
def zp_bs (q : zs_S) : List zl_F → zl_B → Bool
  | _, [] => true
  | [], _ :: _ => false
  | f :: σ, b :: B => (decide (b.2 < b.1) || zx_in q b.1 b.2 f) && zp_bs q σ B
/-- the state is one of the point's -/
def zp_in (q : zs_S) (P : zp_P) (σ : List zl_F) : Bool := zp_bs q σ P.2.1 && P.2.2.1.all (fun f => zl_le q.1 q.2.1 (zl_sB σ f))
section ZP
variable {D : va_G} {cA : Nat → ClassId} {RT : List zr_R} {ro : Nat → Option Nat} {sz : Nat} {H0 : Heap} {Ga : List Int} {nL : Nat} {G : zg_G} {q : zs_S}
theorem zp_sL_ok {v v' : Nat → Int} {lv : List (Nat × Value)} {L : List (Nat × zv_V)} (hL : ∀ e ∈ L, ∃ x : Value, (e.1, x) ∈ lv ∧ zv_ok ro v x e.2) : ∀ {Ls : List (Nat × Nat)} {a : List zl_F} {n : Nat}, zp_sL L Ls = some a → (∀ (i : Nat) (f : zl_F), a[i]? = some f → v' (n + i) = zl_at v f) → a.length = Ls.length ∧ ∀ e ∈ zp_L n Ls, ∃ x : Value, (e.1, x) ∈ lv ∧ zv_ok ro v' x e.2
  | [], a, n, h, _ => by
    simp only [zp_sL, Option.some.injEq] at h
    subst h
    exact ⟨rfl, fun e he => (by cases he)⟩
  | e :: t, a, n, h, hv => by
    unfold zp_sL at h
    split at h
    · rename_i z r h1 h2
      split at h
      · rename_i h3
        cases h
        have h0 := hv 0 z.2 rfl
        obtain ⟨g1, g2⟩ := zp_sL_ok (n := n + 1) hL h2 (fun i f hf => by rw [show n + 1 + i = n + (i + 1) by omega]; exact hv (i + 1) f (by simpa using hf))
        refine ⟨by simp [g1], fun x hx => ?_⟩
        rcases List.mem_cons.mp hx with e' | e'
        · rw [e']
          obtain ⟨y, k1, k2⟩ := hL _ (zx_get_mem h1)
          exact ⟨y, k1, zx_co_ok k2 h3 (by rw [zl_id_at]; exact h0)⟩
        · exact g2 x e'
      · cases h
    · cases h
theorem zp_sS_ok {v v' : Nat → Int} : ∀ {Ss : List Nat} {S : List zv_V} {st : List Value} {a : List zl_F} {n : Nat}, zp_sS S Ss = some a → zs_st ro v st S → (∀ (i : Nat) (f : zl_F), a[i]? = some f → v' (n + i) = zl_at v f) → a.length = Ss.length ∧ zs_st ro v' st (zp_S n Ss)
  | [], [], [], a, n, h, _, _ => by
    simp only [zp_sS, Option.some.injEq] at h
    subst h
    exact ⟨rfl, trivial⟩
  | k :: t, z :: S, x :: st, a, n, h, hs, hv => by
    unfold zp_sS at h
    split at h
    · rename_i r h2
      split at h
      · rename_i h3
        cases h
        have h0 := hv 0 z.2 rfl
        obtain ⟨g1, g2⟩ := zp_sS_ok (n := n + 1) h2 hs.2 (fun i f hf => by rw [show n + 1 + i = n + (i + 1) by omega]; exact hv (i + 1) f (by simpa using hf))
        exact ⟨by simp [g1], zx_co_ok hs.1 h3 (by rw [zl_id_at]; exact h0), g2⟩
      · cases h
    · cases h
  | [], [], _ :: _, _, _, _, h, _ => h.elim
  | [], _ :: _, _, _, _, h, _, _ => by simp [zp_sS] at h
  | _ :: _, [], _, _, _, h, _, _ => by simp [zp_sS] at h
  | _ :: _, _ :: _, [], _, _, _, h, _ => h.elim
theorem zp_sF_ok {v v' : Nat → Int} {H : Heap} {F : List ((Nat × Nat × Nat) × zv_V)} {σ : List zl_F} (hF : ∀ e ∈ F, zs_fact D RT ro v H e) (hσ : ∀ (u : Nat) (f : zl_F), σ[u]? = some f → v' u = zl_at v f) : ∀ {Fs : List ((Nat × Nat × Nat) × Nat)} {a : List zl_F} {n : Nat}, zp_sF F σ Fs = some a → (∀ (i : Nat) (f : zl_F), a[i]? = some f → v' (n + i) = zl_at v f) → a.length = Fs.length ∧ ∀ e ∈ zp_F n Fs, zs_fact D RT ro v' H e
  | [], a, n, h, _ => by
    simp only [zp_sF, Option.some.injEq] at h
    subst h
    exact ⟨rfl, fun e he => (by cases he)⟩
  | e :: t, a, n, h, hv => by
    unfold zp_sF at h
    split at h
    · rename_i i r h1 h2
      split at h
      · rename_i z h4
        split at h
        · rename_i h3
          cases h
          have h0 := hv 0 z.2 rfl
          obtain ⟨g1, g2⟩ := zp_sF_ok (n := n + 1) hF hσ h2 (fun i f hf => by rw [show n + 1 + i = n + (i + 1) by omega]; exact hv (i + 1) f (by simpa using hf))
          refine ⟨by simp [g1], fun x hx => ?_⟩
          rcases List.mem_cons.mp hx with e' | e'
          · rw [e']
            obtain ⟨ad, ci, m, fs, k1, k2, k3, k4, k5⟩ := hF _ (zf_get_mem h4)
            refine ⟨ad, ci, m, fs, ?_, k2, k3, k4, zx_co_ok k5 h3 (by rw [zl_id_at]; exact h0)⟩
            dsimp only at k1 ⊢
            rw [k1, ← zx_un_at h1 v]
            rw [List.getD_eq_getElem?_getD] at h1 ⊢
            cases hu : σ[e.1.1]? with
            | none => rw [hu] at h1; simp [zl_k, zx_un] at h1
            | some f => rw [hσ _ f hu]; rfl
          · exact g2 x e'
        · cases h
      · cases h
    · cases h
theorem zp_G_map {v' : Nat → Int} : ∀ (k n : Nat) (l : List Int), l.length = k → (∀ (i : Nat) (x : Int), l[i]? = some x → v' (n + i) = x) → (zp_G n k).map (zl_at v') = l
  | 0, _, [], _, _ => rfl
  | k + 1, n, x :: l, hl, hv => by
    show zl_at v' (zl_id n) :: (zp_G (n + 1) k).map (zl_at v') = x :: l
    rw [zl_id_at, show v' n = x from hv 0 x rfl, zp_G_map k (n + 1) l (by simpa using hl) (fun i y hy => by rw [show n + 1 + i = n + (i + 1) by omega]; exact hv (i + 1) y (by simpa using hy))]
theorem zp_bs_ok {v : Nat → Int} {H : Heap} {ls : Array Slot} {st : List Value} (h : zs_ok D RT ro Ga nL q v H ls st) : ∀ {σ : List zl_F} {B : zl_B}, zp_bs q σ B = true → ∀ (i : Nat) (b : Int × Int), B[i]? = some b → b.2 < b.1 ∨ ∃ f, σ[i]? = some f ∧ b.1 ≤ zl_at v f ∧ zl_at v f ≤ b.2
  | σ, [], _, i, b, hb => by simp at hb
  | [], _ :: _, hs, _, _, _ => by simp [zp_bs] at hs
  | f :: σ, c :: B, hs, i, b, hb => by
    simp only [zp_bs, Bool.and_eq_true, Bool.or_eq_true] at hs
    cases i with
    | zero =>
      simp at hb
      subst hb
      rcases hs.1 with e | e
      · exact Or.inl (of_decide_eq_true e)
      · exact Or.inr ⟨f, rfl, zx_in_ok h e⟩
    | succ i =>
      rcases zp_bs_ok h hs.2 i b (by simpa using hb) with e | ⟨g, e1, e2⟩
      · exact Or.inl e
      · exact Or.inr ⟨g, by simpa using e1, e2⟩
theorem zp_in_ok {P : zp_P} {σ : List zl_F} {v : Nat → Int} {H : Heap} {ls : Array Slot} {st : List Value} (h : zs_ok D RT ro Ga nL q v H ls st) (hs : zp_sg q P = some σ) (hi : zp_in q P σ = true) :
    zs_ok D RT ro Ga nL (zp_mk P) (fun u => (σ.map (zl_at v)).getD u 0) H ls st := by
  unfold zp_sg at hs
  split at hs
  · rename_i a b ha hb
    split at hs
    · rename_i c hc hg
      have hs := Option.some.inj hs
      have hv : ∀ (u : Nat) (f : zl_F), σ[u]? = some f → (σ.map (zl_at v)).getD u 0 = zl_at v f := fun u f hf => by
        rw [List.getD_eq_getElem?_getD, List.getElem?_map, hf]; rfl
      have hg := Nat.eq_of_beq_eq_true hg
      obtain ⟨hB, hC, ⟨lv, hlv, hL⟩, hS, hF, hG⟩ := id h
      unfold zp_in at hi
      rw [Bool.and_eq_true] at hi
      have la := (zp_sL_ok (v' := fun u => (σ.map (zl_at v)).getD u 0) (n := 0) hL ha (fun i f hf => hv _ f (by
        rw [← hs, Nat.zero_add, List.append_assoc, List.append_assoc, List.getElem?_append_left (List.getElem?_eq_some_iff.mp hf).1]; exact hf)))
      have lb := (zp_sS_ok (v' := fun u => (σ.map (zl_at v)).getD u 0) (n := P.2.2.2.1.length) hb hS (fun i f hf => hv _ f (by
        rw [← hs, ← la.1, List.append_assoc, List.append_assoc, List.getElem?_append_right (by omega), List.getElem?_append_left (by have := (List.getElem?_eq_some_iff.mp hf).1; omega), Nat.add_sub_cancel_left]; exact hf)))
      have lc := (zp_sF_ok (v' := fun u => (σ.map (zl_at v)).getD u 0) (σ := a ++ b) (n := P.2.2.2.1.length + P.2.2.2.2.1.length) hF (fun u f hf => hv _ f (by
        rw [← hs, List.append_assoc, List.getElem?_append_left (List.getElem?_eq_some_iff.mp hf).1]; exact hf)) hc (fun i f hf => hv _ f (by
        rw [← hs, ← la.1, ← lb.1, List.getElem?_append_left (by have := (List.getElem?_eq_some_iff.mp hf).1; simp; omega), List.getElem?_append_right (by simp), List.length_append, Nat.add_sub_cancel_left]; exact hf)))
      refine ⟨fun i bd hbd => ?_, fun f hf => ?_, ⟨lv, hlv, la.2⟩, lb.2, lc.2, ?_⟩
      · rcases zp_bs_ok h hi.1 i bd hbd with e | ⟨f, e1, e2⟩
        · exact Or.inl e
        · refine Or.inr ?_
          dsimp only
          rw [hv i f e1]; exact e2
      · have h1 := List.all_eq_true.mp hi.2 f hf
        have h2 := zl_le_ok hB hC h1
        rw [zl_sB_at] at h2
        exact h2
      · refine zp_G_map _ _ _ (by rw [← hG, List.length_map]; exact hg) (fun i x hx => ?_)
        rw [← hG, List.getElem?_map] at hx
        cases hq : q.2.2.2.2.2[i]? with
        | none => rw [hq] at hx; cases hx
        | some f =>
          rw [hq] at hx
          cases hx
          refine hv _ f ?_
          rw [← hs, ← la.1, ← lb.1, ← lc.1, List.getElem?_append_right (by simp; omega)]
          simp only [List.length_append]
          rw [Nat.add_sub_cancel_left]; exact hq
    · cases hs
  · cases hs
end ZP
end
section
/-! the machine's instructions as steps of abstract states -/
def zk_G (p : Program) (l : Launch) (e : Env) (R : Room) (s : State) (m : MethodId) (args : Array Value) (below : List Frame) (meth : Method) (c : Code) (cells slots : Nat) (Q : State → Prop) (D : va_G) (RT : List zr_R) (ro : Nat → Option Nat) (ms : List (Nat × Nat)) : zg_G :=
  fun pc H locs ls st => zc_kept D RT ro ms s.heap H → W p l e R s m args below meth c H locs cells slots Q (F0 m pc ls st)
theorem zn_ib {n : Int} (h1 : -128 ≤ n) (h2 : n ≤ 127) : (Int32.ofInt n).toInt = n := by
  rw [Int32.toInt_ofInt]; exact zn_b32 (by omega) (by omega)
theorem zn_bp {n : Int} (h1 : -128 ≤ n) (h2 : n ≤ 127) : (Int8.ofInt n).toInt32.toInt = n := by
  rw [Int8.toInt_toInt32, Int8.toInt_ofInt]
  show n.bmod 256 = n
  exact Int.bmod_eq_of_le (by omega) (by omega)
theorem zn_sp {n : Int} (h1 : -32768 ≤ n) (h2 : n ≤ 32767) : (Int16.ofInt n).toInt32.toInt = n := by
  rw [Int16.toInt_toInt32, Int16.toInt_ofInt]
  show n.bmod 65536 = n
  exact Int.bmod_eq_of_le (by omega) (by omega)
theorem zn_ibx {x : Int32} (h1 : -128 ≤ x.toInt) (h2 : x.toInt ≤ 127) : x.toInt8.toInt32.toInt = x.toInt := by
  rw [Int8.toInt_toInt32, Int32.toInt_toInt8]; exact Int.bmod_eq_of_le (by omega) (by omega)
theorem zn_and {x y : Int32} (h : 0 ≤ y.toInt) : 0 ≤ (x &&& y).toInt ∧ (x &&& y).toInt ≤ y.toInt := by
  have e0 : y.toInt = y.toBitVec.toInt := rfl
  have e1 : y.toInt = (y.toBitVec.toNat : Int) ∧ 2 * y.toBitVec.toNat < 2 ^ 32 := by
    rw [e0, BitVec.toInt_eq_toNat_cond] at h ⊢
    split at h
    · rename_i h1
      rw [if_pos h1]; exact ⟨rfl, h1⟩
    · have := y.toBitVec.isLt
      omega
  obtain ⟨e1, hlt⟩ := e1
  have e2 : (x &&& y).toBitVec.toNat ≤ y.toBitVec.toNat := by
    rw [Int32.toBitVec_and, BitVec.toNat_and]
    exact Nat.and_le_right
  have e3 : (x &&& y).toInt = ((x &&& y).toBitVec.toNat : Int) := by
    rw [← Int32.toInt_toBitVec, BitVec.toInt_eq_toNat_of_lt (by omega)]
  omega
theorem zn_sg (x y : Int64) : (lg_cmp x y).toInt = (x.toInt - y.toInt).sign := by
  unfold lg_cmp
  split
  · rename_i h
    have h := Int64.lt_iff_toInt_lt.mp h
    rw [Int.sign_eq_one_of_pos (by omega)]; decide
  · rename_i h
    split
    · rename_i h2
      rw [h2, Int.sub_self]; decide
    · rename_i h2
      have h3 : ¬ y.toInt < x.toInt := fun q => h (Int64.lt_iff_toInt_lt.mpr q)
      have h4 : ¬ x.toInt = y.toInt := fun q => h2 (Int64.toInt_inj.mp q)
      rw [Int.sign_eq_neg_one_of_neg (by omega)]; decide
theorem zv_nr {ro : Nat → Option Nat} {v : Nat → Int} {x : Value} {z : zv_V} (hk : z.1 = 2 ∨ 4 ≤ z.1) (h : zv_ok ro v x z) : x = .null ∨ ∃ a : Nat, x = .ref a := by
  obtain ⟨k, f⟩ := z
  match k with
  | 0 => rcases hk with hk | hk <;> simp at hk
  | 1 => rcases hk with hk | hk <;> simp at hk
  | 2 => exact Or.inl h.1
  | 3 => rcases hk with hk | hk <;> simp at hk
  | k + 4 =>
    rcases h with ⟨-, h, -⟩ | ⟨a, h, -⟩
    · exact Or.inl h
    · exact Or.inr ⟨a, h⟩
theorem zm_keep1 {lv : List (Nat × Value)} {i k : Nat} {x : Value} (hk : k ≠ 1) : ∀ j y, (j, y) ∈ lv → ¬ j = i → ¬ (j = i + 1 ∧ k = 1) → ¬ (j + 1 = i ∧ y.category = 2) → (j, y) ∈ (i, x) :: lv.filter (fun q => !(q.1 == i) && !(q.1 + 1 == i && q.2.category == 2)) := by
  intro j y h1 h2 h3 h4
  refine List.mem_cons_of_mem _ (List.mem_filter.mpr ⟨h1, ?_⟩)
  simp only [Bool.and_eq_true, Bool.not_eq_true', beq_eq_false_iff_ne, Bool.and_eq_false_iff]
  refine ⟨h2, ?_⟩
  by_cases e : j + 1 = i
  · exact Or.inr (fun q => h4 ⟨e, q⟩)
  · exact Or.inl e
theorem zm_keep2 {lv : List (Nat × Value)} {i : Nat} {x : Value} : ∀ j y, (j, y) ∈ lv → ¬ j = i → ¬ (j = i + 1 ∧ 1 = 1) → ¬ (j + 1 = i ∧ y.category = 2) → (j, y) ∈ (i, x) :: lv.filter (fun q => !(q.1 == i) && (!(q.1 == i + 1) && !(q.1 + 1 == i && q.2.category == 2))) := by
  intro j y h1 h2 h3 h4
  refine List.mem_cons_of_mem _ (List.mem_filter.mpr ⟨h1, ?_⟩)
  simp only [Bool.and_eq_true, Bool.not_eq_true', beq_eq_false_iff_ne, Bool.and_eq_false_iff]
  refine ⟨h2, fun q => h3 ⟨q, rfl⟩, ?_⟩
  by_cases e : j + 1 = i
  · exact Or.inr (fun q => h4 ⟨e, q⟩)
  · exact Or.inl e
section ZM
variable {p : Program} {l : Launch} {e : Env} {R : Room} {s : State} {m : MethodId} {args : Array Value} {below : List Frame} {meth : Method} {c : Code} {cells slots : Nat} {Q : State → Prop} {cc : ByteArray}
variable {D : va_G} {cA : Nat → ClassId} {RT : List zr_R} {ro : Nat → Option Nat} {sz : Nat} {H0 : Heap} {Ga : List Int} {nL : Nat} {ms : List (Nat × Nat)} {pc : Nat} {q : zs_S} {S : List zv_V} {fa fb : zl_F}
theorem zm_iconst (hx : p.tables.exec = Jvm.exec) (hb : c.code = cc) {n : Int} (h1 : -128 ≤ n) (h2 : n ≤ 127) (hd : decode cc pc = .ok (.iconst n, 1)) (K : zw D cA RT ro sz H0 Ga nL (zk_G p l e R s m args below meth c cells slots Q D RT ro ms) (pc + 1) (zq_S q ((0, zl_k n) :: q.2.2.2.1))) : zw D cA RT ro sz H0 Ga nL (zk_G p l e R s m args below meth c cells slots Q D RT ro ms) pc q :=
  zi_const (Or.inl ⟨rfl, Int32.ofInt n, rfl, zn_ib h1 h2⟩) (fun _ _ _ _ k hk => lv_iconst hx hb hd rfl (k hk)) K

theorem zm_bipush (hx : p.tables.exec = Jvm.exec) (hb : c.code = cc) {n : Int} (h1 : -128 ≤ n) (h2 : n ≤ 127) (hd : decode cc pc = .ok (.bipush n, 2)) (K : zw D cA RT ro sz H0 Ga nL (zk_G p l e R s m args below meth c cells slots Q D RT ro ms) (pc + 2) (zq_S q ((0, zl_k n) :: q.2.2.2.1))) : zw D cA RT ro sz H0 Ga nL (zk_G p l e R s m args below meth c cells slots Q D RT ro ms) pc q :=
  zi_const (Or.inl ⟨rfl, (Int8.ofInt n).toInt32, rfl, zn_bp h1 h2⟩) (fun _ _ _ _ k hk => lv_bipush hx hb hd rfl (k hk)) K

theorem zm_sipush (hx : p.tables.exec = Jvm.exec) (hb : c.code = cc) {n : Int} (h1 : -32768 ≤ n) (h2 : n ≤ 32767) (hd : decode cc pc = .ok (.sipush n, 3)) (K : zw D cA RT ro sz H0 Ga nL (zk_G p l e R s m args below meth c cells slots Q D RT ro ms) (pc + 3) (zq_S q ((0, zl_k n) :: q.2.2.2.1))) : zw D cA RT ro sz H0 Ga nL (zk_G p l e R s m args below meth c cells slots Q D RT ro ms) pc q :=
  zi_const (Or.inl ⟨rfl, (Int16.ofInt n).toInt32, rfl, zn_sp h1 h2⟩) (fun _ _ _ _ k hk => lv_sipush hx hb hd rfl (k hk)) K

theorem zm_lconst (hx : p.tables.exec = Jvm.exec) (hb : c.code = cc) {n : Fin 2} (hd : decode cc pc = .ok (.lconst n, 1)) (K : zw D cA RT ro sz H0 Ga nL (zk_G p l e R s m args below meth c cells slots Q D RT ro ms) (pc + 1) (zq_S q ((1, zl_k (n.val : Int)) :: q.2.2.2.1))) : zw D cA RT ro sz H0 Ga nL (zk_G p l e R s m args below meth c cells slots Q D RT ro ms) pc q :=
  zi_const (Or.inr ⟨rfl, Int64.ofNat n.val, rfl, by rcases n with ⟨n, hn⟩; rcases (show n = 0 ∨ n = 1 by omega) with rfl | rfl <;> rfl⟩) (fun _ _ _ _ k hk => lv_lconst hx hb hd rfl (k hk)) K

theorem zm_null (hx : p.tables.exec = Jvm.exec) (hb : c.code = cc) (hd : decode cc pc = .ok (.aconst_null, 1)) (K : zw D cA RT ro sz H0 Ga nL (zk_G p l e R s m args below meth c cells slots Q D RT ro ms) (pc + 1) (zq_S q ((2, zl_k (-1)) :: q.2.2.2.1))) : zw D cA RT ro sz H0 Ga nL (zk_G p l e R s m args below meth c cells slots Q D RT ro ms) pc q :=
  zi_null (fun _ _ _ _ k hk => lv_null hx hb hd (k hk)) K

theorem zm_iload (hx : p.tables.exec = Jvm.exec) (hb : c.code = cc) {i : Nat} {f : zl_F} (hz : zx_get q.2.2.1 i = some (0, f)) (hd : decode cc pc = .ok (.iload i, 2)) (K : zw D cA RT ro sz H0 Ga nL (zk_G p l e R s m args below meth c cells slots Q D RT ro ms) (pc + 2) (zq_S q ((0, f) :: q.2.2.2.1))) : zw D cA RT ro sz H0 Ga nL (zk_G p l e R s m args below meth c cells slots Q D RT ro ms) pc q :=
  zi_load hz (fun v _ _ _ _ x ho hl k hk => by obtain ⟨y, rfl, -⟩ := ho; exact lv_iload hx hb hd hl (k hk)) K

theorem zm_iload_n (hx : p.tables.exec = Jvm.exec) (hb : c.code = cc) {i : Fin 4} {f : zl_F} (hz : zx_get q.2.2.1 i.val = some (0, f)) (hd : decode cc pc = .ok (.iload_n i, 1)) (K : zw D cA RT ro sz H0 Ga nL (zk_G p l e R s m args below meth c cells slots Q D RT ro ms) (pc + 1) (zq_S q ((0, f) :: q.2.2.2.1))) : zw D cA RT ro sz H0 Ga nL (zk_G p l e R s m args below meth c cells slots Q D RT ro ms) pc q :=
  zi_load hz (fun v _ _ _ _ x ho hl k hk => by obtain ⟨y, rfl, -⟩ := ho; exact lv_iload_n hx hb hd rfl hl (k hk)) K

theorem zm_lload (hx : p.tables.exec = Jvm.exec) (hb : c.code = cc) {i : Nat} {f : zl_F} (hz : zx_get q.2.2.1 i = some (1, f)) (hd : decode cc pc = .ok (.lload i, 2)) (K : zw D cA RT ro sz H0 Ga nL (zk_G p l e R s m args below meth c cells slots Q D RT ro ms) (pc + 2) (zq_S q ((1, f) :: q.2.2.2.1))) : zw D cA RT ro sz H0 Ga nL (zk_G p l e R s m args below meth c cells slots Q D RT ro ms) pc q :=
  zi_load hz (fun v _ _ _ _ x ho hl k hk => by obtain ⟨y, rfl, -⟩ := ho; exact lv_lload hx hb hd hl (k hk)) K

theorem zm_lload_n (hx : p.tables.exec = Jvm.exec) (hb : c.code = cc) {i : Fin 4} {f : zl_F} (hz : zx_get q.2.2.1 i.val = some (1, f)) (hd : decode cc pc = .ok (.lload_n i, 1)) (K : zw D cA RT ro sz H0 Ga nL (zk_G p l e R s m args below meth c cells slots Q D RT ro ms) (pc + 1) (zq_S q ((1, f) :: q.2.2.2.1))) : zw D cA RT ro sz H0 Ga nL (zk_G p l e R s m args below meth c cells slots Q D RT ro ms) pc q :=
  zi_load hz (fun v _ _ _ _ x ho hl k hk => by obtain ⟨y, rfl, -⟩ := ho; exact lv_lload_n hx hb hd rfl hl (k hk)) K

theorem zm_aload (hx : p.tables.exec = Jvm.exec) (hb : c.code = cc) {i : Nat} {z : zv_V} (hk0 : z.1 = 2 ∨ 4 ≤ z.1) (hz : zx_get q.2.2.1 i = some z) (hd : decode cc pc = .ok (.aload i, 2)) (K : zw D cA RT ro sz H0 Ga nL (zk_G p l e R s m args below meth c cells slots Q D RT ro ms) (pc + 2) (zq_S q (z :: q.2.2.2.1))) : zw D cA RT ro sz H0 Ga nL (zk_G p l e R s m args below meth c cells slots Q D RT ro ms) pc q :=
  zi_load hz (fun v _ _ _ _ x ho hl k hk => by
    rcases zv_nr hk0 ho with rfl | ⟨a, rfl⟩
    · exact lv_aloadN hx hb hd hl (k hk)
    · exact lv_aload hx hb hd hl (k hk)) K

theorem zm_aload_n (hx : p.tables.exec = Jvm.exec) (hb : c.code = cc) {i : Fin 4} {z : zv_V} (hk0 : z.1 = 2 ∨ 4 ≤ z.1) (hz : zx_get q.2.2.1 i.val = some z) (hd : decode cc pc = .ok (.aload_n i, 1)) (K : zw D cA RT ro sz H0 Ga nL (zk_G p l e R s m args below meth c cells slots Q D RT ro ms) (pc + 1) (zq_S q (z :: q.2.2.2.1))) : zw D cA RT ro sz H0 Ga nL (zk_G p l e R s m args below meth c cells slots Q D RT ro ms) pc q :=
  zi_load hz (fun v _ _ _ _ x ho hl k hk => by
    rcases zv_nr hk0 ho with rfl | ⟨a, rfl⟩
    · exact lv_aload_nN hx hb hd rfl hl (k hk)
    · exact lv_aload_n hx hb hd rfl hl (k hk)) K

theorem zm_istore (hx : p.tables.exec = Jvm.exec) (hb : c.code = cc) {i : Nat} {f : zl_F} (hS : q.2.2.2.1 = (0, f) :: S) (hn : i < nL) (hd : decode cc pc = .ok (.istore i, 2)) (K : zw D cA RT ro sz H0 Ga nL (zk_G p l e R s m args below meth c cells slots Q D RT ro ms) (pc + 2) (zq_LS q (zx_put q.2.2.1 i (0, f)) S)) : zw D cA RT ro sz H0 Ga nL (zk_G p l e R s m args below meth c cells slots Q D RT ro ms) pc q :=
  zi_store hS (fun v _ _ _ _ x lv ho hl k hk => by
    obtain ⟨y, rfl, -⟩ := ho
    exact lv_istore hx hb hd hl hn rfl (fun ls' h' => k ls' ⟨_, h', List.mem_cons_self, zm_keep1 (k := 0) (by decide)⟩ hk)) K

theorem zm_istore_n (hx : p.tables.exec = Jvm.exec) (hb : c.code = cc) {i : Fin 4} {f : zl_F} (hS : q.2.2.2.1 = (0, f) :: S) (hn : i.val < nL) (hd : decode cc pc = .ok (.istore_n i, 1)) (K : zw D cA RT ro sz H0 Ga nL (zk_G p l e R s m args below meth c cells slots Q D RT ro ms) (pc + 1) (zq_LS q (zx_put q.2.2.1 i.val (0, f)) S)) : zw D cA RT ro sz H0 Ga nL (zk_G p l e R s m args below meth c cells slots Q D RT ro ms) pc q :=
  zi_store hS (fun v _ _ _ _ x lv ho hl k hk => by
    obtain ⟨y, rfl, -⟩ := ho
    exact lv_istore_n hx hb hd rfl hl hn rfl (fun ls' h' => k ls' ⟨_, h', List.mem_cons_self, zm_keep1 (k := 0) (by decide)⟩ hk)) K

theorem zm_lstore (hx : p.tables.exec = Jvm.exec) (hb : c.code = cc) {i : Nat} {f : zl_F} (hS : q.2.2.2.1 = (1, f) :: S) (hn : i + 1 < nL) (hd : decode cc pc = .ok (.lstore i, 2)) (K : zw D cA RT ro sz H0 Ga nL (zk_G p l e R s m args below meth c cells slots Q D RT ro ms) (pc + 2) (zq_LS q (zx_put q.2.2.1 i (1, f)) S)) : zw D cA RT ro sz H0 Ga nL (zk_G p l e R s m args below meth c cells slots Q D RT ro ms) pc q :=
  zi_store hS (fun v _ _ _ _ x lv ho hl k hk => by
    obtain ⟨y, rfl, -⟩ := ho
    exact lv_lstore hx hb hd hl hn rfl (fun ls' h' => k ls' ⟨_, h', List.mem_cons_self, zm_keep2⟩ hk)) K

theorem zm_lstore_n (hx : p.tables.exec = Jvm.exec) (hb : c.code = cc) {i : Fin 4} {f : zl_F} (hS : q.2.2.2.1 = (1, f) :: S) (hn : i.val + 1 < nL) (hd : decode cc pc = .ok (.lstore_n i, 1)) (K : zw D cA RT ro sz H0 Ga nL (zk_G p l e R s m args below meth c cells slots Q D RT ro ms) (pc + 1) (zq_LS q (zx_put q.2.2.1 i.val (1, f)) S)) : zw D cA RT ro sz H0 Ga nL (zk_G p l e R s m args below meth c cells slots Q D RT ro ms) pc q :=
  zi_store hS (fun v _ _ _ _ x lv ho hl k hk => by
    obtain ⟨y, rfl, -⟩ := ho
    exact lv_lstore_n hx hb hd rfl hl hn rfl (fun ls' h' => k ls' ⟨_, h', List.mem_cons_self, zm_keep2⟩ hk)) K

theorem zm_astore (hx : p.tables.exec = Jvm.exec) (hb : c.code = cc) {i : Nat} {z : zv_V} (hk0 : z.1 = 2 ∨ 4 ≤ z.1) (hS : q.2.2.2.1 = z :: S) (hn : i < nL) (hd : decode cc pc = .ok (.astore i, 2)) (K : zw D cA RT ro sz H0 Ga nL (zk_G p l e R s m args below meth c cells slots Q D RT ro ms) (pc + 2) (zq_LS q (zx_put q.2.2.1 i z) S)) : zw D cA RT ro sz H0 Ga nL (zk_G p l e R s m args below meth c cells slots Q D RT ro ms) pc q :=
  zi_store hS (fun v _ _ _ _ x lv ho hl k hk => by
    rcases zv_nr hk0 ho with rfl | ⟨a, rfl⟩
    · exact lv_astoreN hx hb hd hl hn rfl (fun ls' h' => k ls' ⟨_, h', List.mem_cons_self, zm_keep1 (by omega)⟩ hk)
    · exact lv_astore hx hb hd hl hn rfl (fun ls' h' => k ls' ⟨_, h', List.mem_cons_self, zm_keep1 (by omega)⟩ hk)) K

theorem zm_astore_n (hx : p.tables.exec = Jvm.exec) (hb : c.code = cc) {i : Fin 4} {z : zv_V} (hk0 : z.1 = 2 ∨ 4 ≤ z.1) (hS : q.2.2.2.1 = z :: S) (hn : i.val < nL) (hd : decode cc pc = .ok (.astore_n i, 1)) (K : zw D cA RT ro sz H0 Ga nL (zk_G p l e R s m args below meth c cells slots Q D RT ro ms) (pc + 1) (zq_LS q (zx_put q.2.2.1 i.val z) S)) : zw D cA RT ro sz H0 Ga nL (zk_G p l e R s m args below meth c cells slots Q D RT ro ms) pc q :=
  zi_store hS (fun v _ _ _ _ x lv ho hl k hk => by
    rcases zv_nr hk0 ho with rfl | ⟨a, rfl⟩
    · exact lv_astore_nN hx hb hd rfl hl hn rfl (fun ls' h' => k ls' ⟨_, h', List.mem_cons_self, zm_keep1 (by omega)⟩ hk)
    · exact lv_astore_n hx hb hd rfl hl hn rfl (fun ls' h' => k ls' ⟨_, h', List.mem_cons_self, zm_keep1 (by omega)⟩ hk)) K

theorem zm_iadd (hx : p.tables.exec = Jvm.exec) (hb : c.code = cc) (hS : q.2.2.2.1 = (0, fb) :: (0, fa) :: S) (hd : decode cc pc = .ok (.iadd, 1)) (K : zw D cA RT ro sz H0 Ga nL (zk_G p l e R s m args below meth c cells slots Q D RT ro ms) (pc + 1) (zx_pu 0 (-2147483648) 2147483647 q S (zl_add fa fb))) : zw D cA RT ro sz H0 Ga nL (zk_G p l e R s m args below meth c cells slots Q D RT ro ms) pc q :=
  zi_bin hS (fun ha hb' => zl_add_wf ha hb') (fun v vx vy h1 h2 => by
    obtain ⟨x, rfl, ex⟩ := h1
    obtain ⟨y, rfl, ey⟩ := h2
    refine ⟨.int (x + y), (x + y).toInt, Or.inl ⟨rfl, _, rfl, rfl⟩, (zn_i32 _).1, (zn_i32 _).2, fun g1 g2 => ?_, fun _ _ _ _ k hk => lv_iadd hx hb hd (k hk)⟩
    rw [zl_add_at] at g1 g2 ⊢
    dsimp only at ex ey
    rw [← ex, ← ey] at g1 g2 ⊢
    exact zn_add g1 g2) K

theorem zm_isub (hx : p.tables.exec = Jvm.exec) (hb : c.code = cc) (hS : q.2.2.2.1 = (0, fb) :: (0, fa) :: S) (hd : decode cc pc = .ok (.isub, 1)) (K : zw D cA RT ro sz H0 Ga nL (zk_G p l e R s m args below meth c cells slots Q D RT ro ms) (pc + 1) (zx_pu 0 (-2147483648) 2147483647 q S (zl_sub fa fb))) : zw D cA RT ro sz H0 Ga nL (zk_G p l e R s m args below meth c cells slots Q D RT ro ms) pc q :=
  zi_bin hS (fun ha hb' => zl_sub_wf ha hb') (fun v vx vy h1 h2 => by
    obtain ⟨x, rfl, ex⟩ := h1
    obtain ⟨y, rfl, ey⟩ := h2
    refine ⟨.int (x - y), (x - y).toInt, Or.inl ⟨rfl, _, rfl, rfl⟩, (zn_i32 _).1, (zn_i32 _).2, fun g1 g2 => ?_, fun _ _ _ _ k hk => lv_isub hx hb hd (k hk)⟩
    rw [zl_sub_at] at g1 g2 ⊢
    dsimp only at ex ey
    rw [← ex, ← ey] at g1 g2 ⊢
    exact zn_sub g1 g2) K

theorem zm_ladd (hx : p.tables.exec = Jvm.exec) (hb : c.code = cc) (hS : q.2.2.2.1 = (1, fb) :: (1, fa) :: S) (hd : decode cc pc = .ok (.ladd, 1)) (K : zw D cA RT ro sz H0 Ga nL (zk_G p l e R s m args below meth c cells slots Q D RT ro ms) (pc + 1) (zx_pu 1 (-9223372036854775808) 9223372036854775807 q S (zl_add fa fb))) : zw D cA RT ro sz H0 Ga nL (zk_G p l e R s m args below meth c cells slots Q D RT ro ms) pc q :=
  zi_bin hS (fun ha hb' => zl_add_wf ha hb') (fun v vx vy h1 h2 => by
    obtain ⟨x, rfl, ex⟩ := h1
    obtain ⟨y, rfl, ey⟩ := h2
    refine ⟨.long (x + y), (x + y).toInt, Or.inr ⟨rfl, _, rfl, rfl⟩, (zn_i64 _).1, (zn_i64 _).2, fun g1 g2 => ?_, fun _ _ _ _ k hk => lv_ladd hx hb hd (k hk)⟩
    rw [zl_add_at] at g1 g2 ⊢
    dsimp only at ex ey
    rw [← ex, ← ey] at g1 g2 ⊢
    exact zn_addL g1 g2) K

theorem zm_lsub (hx : p.tables.exec = Jvm.exec) (hb : c.code = cc) (hS : q.2.2.2.1 = (1, fb) :: (1, fa) :: S) (hd : decode cc pc = .ok (.lsub, 1)) (K : zw D cA RT ro sz H0 Ga nL (zk_G p l e R s m args below meth c cells slots Q D RT ro ms) (pc + 1) (zx_pu 1 (-9223372036854775808) 9223372036854775807 q S (zl_sub fa fb))) : zw D cA RT ro sz H0 Ga nL (zk_G p l e R s m args below meth c cells slots Q D RT ro ms) pc q :=
  zi_bin hS (fun ha hb' => zl_sub_wf ha hb') (fun v vx vy h1 h2 => by
    obtain ⟨x, rfl, ex⟩ := h1
    obtain ⟨y, rfl, ey⟩ := h2
    refine ⟨.long (x - y), (x - y).toInt, Or.inr ⟨rfl, _, rfl, rfl⟩, (zn_i64 _).1, (zn_i64 _).2, fun g1 g2 => ?_, fun _ _ _ _ k hk => lv_lsub hx hb hd (k hk)⟩
    rw [zl_sub_at] at g1 g2 ⊢
    dsimp only at ex ey
    rw [← ex, ← ey] at g1 g2 ⊢
    exact zn_subL g1 g2) K

theorem zm_imulL (hx : p.tables.exec = Jvm.exec) (hb : c.code = cc) {n : Int} (hS : q.2.2.2.1 = (0, fb) :: (0, ([], n)) :: S) (hd : decode cc pc = .ok (.imul, 1)) (K : zw D cA RT ro sz H0 Ga nL (zk_G p l e R s m args below meth c cells slots Q D RT ro ms) (pc + 1) (zx_pu 0 (-2147483648) 2147483647 q S (zl_mul n fb))) : zw D cA RT ro sz H0 Ga nL (zk_G p l e R s m args below meth c cells slots Q D RT ro ms) pc q :=
  zi_bin hS (fun ha hb' => zl_mul_wf hb') (fun v vx vy h1 h2 => by
    obtain ⟨x, rfl, ex⟩ := h1
    obtain ⟨y, rfl, ey⟩ := h2
    refine ⟨.int (x * y), (x * y).toInt, Or.inl ⟨rfl, _, rfl, rfl⟩, (zn_i32 _).1, (zn_i32 _).2, fun g1 g2 => ?_, fun _ _ _ _ k hk => lv_imul hx hb hd (k hk)⟩
    rw [zl_mul_at] at g1 g2 ⊢
    have e0 : zl_at v (([], n) : zl_F) = n := zl_k_at v n
    dsimp only at ex ey
    rw [e0] at ex
    rw [← ex, ← ey] at g1 g2 ⊢
    exact zn_mul g1 g2) K

theorem zm_imulR (hx : p.tables.exec = Jvm.exec) (hb : c.code = cc) {n : Int} (hS : q.2.2.2.1 = (0, ([], n)) :: (0, fa) :: S) (hd : decode cc pc = .ok (.imul, 1)) (K : zw D cA RT ro sz H0 Ga nL (zk_G p l e R s m args below meth c cells slots Q D RT ro ms) (pc + 1) (zx_pu 0 (-2147483648) 2147483647 q S (zl_mul n fa))) : zw D cA RT ro sz H0 Ga nL (zk_G p l e R s m args below meth c cells slots Q D RT ro ms) pc q :=
  zi_bin hS (fun ha hb' => zl_mul_wf ha) (fun v vx vy h1 h2 => by
    obtain ⟨x, rfl, ex⟩ := h1
    obtain ⟨y, rfl, ey⟩ := h2
    refine ⟨.int (x * y), (x * y).toInt, Or.inl ⟨rfl, _, rfl, rfl⟩, (zn_i32 _).1, (zn_i32 _).2, fun g1 g2 => ?_, fun _ _ _ _ k hk => lv_imul hx hb hd (k hk)⟩
    rw [zl_mul_at] at g1 g2 ⊢
    have e0 : zl_at v (([], n) : zl_F) = n := zl_k_at v n
    dsimp only at ex ey
    rw [e0] at ey
    rw [← ex, ← ey, Int.mul_comm] at g1 g2 ⊢
    exact zn_mul g1 g2) K

theorem zm_lmulL (hx : p.tables.exec = Jvm.exec) (hb : c.code = cc) {n : Int} (hS : q.2.2.2.1 = (1, fb) :: (1, ([], n)) :: S) (hd : decode cc pc = .ok (.lmul, 1)) (K : zw D cA RT ro sz H0 Ga nL (zk_G p l e R s m args below meth c cells slots Q D RT ro ms) (pc + 1) (zx_pu 1 (-9223372036854775808) 9223372036854775807 q S (zl_mul n fb))) : zw D cA RT ro sz H0 Ga nL (zk_G p l e R s m args below meth c cells slots Q D RT ro ms) pc q :=
  zi_bin hS (fun ha hb' => zl_mul_wf hb') (fun v vx vy h1 h2 => by
    obtain ⟨x, rfl, ex⟩ := h1
    obtain ⟨y, rfl, ey⟩ := h2
    refine ⟨.long (x * y), (x * y).toInt, Or.inr ⟨rfl, _, rfl, rfl⟩, (zn_i64 _).1, (zn_i64 _).2, fun g1 g2 => ?_, fun _ _ _ _ k hk => lv_lmul hx hb hd (k hk)⟩
    rw [zl_mul_at] at g1 g2 ⊢
    have e0 : zl_at v (([], n) : zl_F) = n := zl_k_at v n
    dsimp only at ex ey
    rw [e0] at ex
    rw [← ex, ← ey] at g1 g2 ⊢
    exact zn_mulL g1 g2) K

theorem zm_lmulR (hx : p.tables.exec = Jvm.exec) (hb : c.code = cc) {n : Int} (hS : q.2.2.2.1 = (1, ([], n)) :: (1, fa) :: S) (hd : decode cc pc = .ok (.lmul, 1)) (K : zw D cA RT ro sz H0 Ga nL (zk_G p l e R s m args below meth c cells slots Q D RT ro ms) (pc + 1) (zx_pu 1 (-9223372036854775808) 9223372036854775807 q S (zl_mul n fa))) : zw D cA RT ro sz H0 Ga nL (zk_G p l e R s m args below meth c cells slots Q D RT ro ms) pc q :=
  zi_bin hS (fun ha hb' => zl_mul_wf ha) (fun v vx vy h1 h2 => by
    obtain ⟨x, rfl, ex⟩ := h1
    obtain ⟨y, rfl, ey⟩ := h2
    refine ⟨.long (x * y), (x * y).toInt, Or.inr ⟨rfl, _, rfl, rfl⟩, (zn_i64 _).1, (zn_i64 _).2, fun g1 g2 => ?_, fun _ _ _ _ k hk => lv_lmul hx hb hd (k hk)⟩
    rw [zl_mul_at] at g1 g2 ⊢
    have e0 : zl_at v (([], n) : zl_F) = n := zl_k_at v n
    dsimp only at ex ey
    rw [e0] at ey
    rw [← ex, ← ey, Int.mul_comm] at g1 g2 ⊢
    exact zn_mulL g1 g2) K
end ZM
end
section
/-! the machine's instructions, continued -/
section ZN
variable {p : Program} {l : Launch} {e : Env} {R : Room} {s : State} {m : MethodId} {args : Array Value} {below : List Frame} {meth : Method} {c : Code} {cells slots : Nat} {Q : State → Prop} {cc : ByteArray}
variable {D : va_G} {cA : Nat → ClassId} {RT : List zr_R} {ro : Nat → Option Nat} {sz : Nat} {H0 : Heap} {Ga : List Int} {nL : Nat} {ms : List (Nat × Nat)} {pc : Nat} {q : zs_S} {S : List zv_V} {fa fb : zl_F}
theorem zm_imulF (hx : p.tables.exec = Jvm.exec) (hb : c.code = cc) (hS : q.2.2.2.1 = (0, fb) :: (0, fa) :: S) (hd : decode cc pc = .ok (.imul, 1)) (K : zw D cA RT ro sz H0 Ga nL (zk_G p l e R s m args below meth c cells slots Q D RT ro ms) (pc + 1) (zx_fR 0 (-2147483648) 2147483647 q S [])) : zw D cA RT ro sz H0 Ga nL (zk_G p l e R s m args below meth c cells slots Q D RT ro ms) pc q :=
  zi_binF hS (fun _ _ g hg => (by cases hg)) (fun v vx vy H ls st h _ _ h1 h2 => by
    obtain ⟨x, rfl, ex⟩ := h1
    obtain ⟨y, rfl, ey⟩ := h2
    exact ⟨.int (x * y), (x * y).toInt, Or.inl ⟨rfl, _, rfl, rfl⟩, (zn_i32 _).1, (zn_i32 _).2, fun g hg => (by cases hg), fun _ _ _ _ k hk => lv_imul hx hb hd (k hk)⟩) K

theorem zm_lmulF (hx : p.tables.exec = Jvm.exec) (hb : c.code = cc) (hS : q.2.2.2.1 = (1, fb) :: (1, fa) :: S) (hd : decode cc pc = .ok (.lmul, 1)) (K : zw D cA RT ro sz H0 Ga nL (zk_G p l e R s m args below meth c cells slots Q D RT ro ms) (pc + 1) (zx_fR 1 (-9223372036854775808) 9223372036854775807 q S [])) : zw D cA RT ro sz H0 Ga nL (zk_G p l e R s m args below meth c cells slots Q D RT ro ms) pc q :=
  zi_binF hS (fun _ _ g hg => (by cases hg)) (fun v vx vy H ls st h _ _ h1 h2 => by
    obtain ⟨x, rfl, ex⟩ := h1
    obtain ⟨y, rfl, ey⟩ := h2
    exact ⟨.long (x * y), (x * y).toInt, Or.inr ⟨rfl, _, rfl, rfl⟩, (zn_i64 _).1, (zn_i64 _).2, fun g hg => (by cases hg), fun _ _ _ _ k hk => lv_lmul hx hb hd (k hk)⟩) K

theorem zm_land (hx : p.tables.exec = Jvm.exec) (hb : c.code = cc) (hS : q.2.2.2.1 = (1, fb) :: (1, fa) :: S) (hd : decode cc pc = .ok (.land, 1)) (K : zw D cA RT ro sz H0 Ga nL (zk_G p l e R s m args below meth c cells slots Q D RT ro ms) (pc + 1) (zx_fR 1 (-9223372036854775808) 9223372036854775807 q S [])) : zw D cA RT ro sz H0 Ga nL (zk_G p l e R s m args below meth c cells slots Q D RT ro ms) pc q :=
  zi_binF hS (fun _ _ g hg => (by cases hg)) (fun v vx vy H ls st h _ _ h1 h2 => by
    obtain ⟨x, rfl, ex⟩ := h1
    obtain ⟨y, rfl, ey⟩ := h2
    exact ⟨.long (x &&& y), (x &&& y).toInt, Or.inr ⟨rfl, _, rfl, rfl⟩, (zn_i64 _).1, (zn_i64 _).2, fun g hg => (by cases hg), fun _ _ _ _ k hk => lv_land hx hb hd (k hk)⟩) K

theorem zm_lor (hx : p.tables.exec = Jvm.exec) (hb : c.code = cc) (hS : q.2.2.2.1 = (1, fb) :: (1, fa) :: S) (hd : decode cc pc = .ok (.lor, 1)) (K : zw D cA RT ro sz H0 Ga nL (zk_G p l e R s m args below meth c cells slots Q D RT ro ms) (pc + 1) (zx_fR 1 (-9223372036854775808) 9223372036854775807 q S [])) : zw D cA RT ro sz H0 Ga nL (zk_G p l e R s m args below meth c cells slots Q D RT ro ms) pc q :=
  zi_binF hS (fun _ _ g hg => (by cases hg)) (fun v vx vy H ls st h _ _ h1 h2 => by
    obtain ⟨x, rfl, ex⟩ := h1
    obtain ⟨y, rfl, ey⟩ := h2
    exact ⟨.long (x ||| y), (x ||| y).toInt, Or.inr ⟨rfl, _, rfl, rfl⟩, (zn_i64 _).1, (zn_i64 _).2, fun g hg => (by cases hg), fun _ _ _ _ k hk => lv_lor hx hb hd (k hk)⟩) K

theorem zm_lxor (hx : p.tables.exec = Jvm.exec) (hb : c.code = cc) (hS : q.2.2.2.1 = (1, fb) :: (1, fa) :: S) (hd : decode cc pc = .ok (.lxor, 1)) (K : zw D cA RT ro sz H0 Ga nL (zk_G p l e R s m args below meth c cells slots Q D RT ro ms) (pc + 1) (zx_fR 1 (-9223372036854775808) 9223372036854775807 q S [])) : zw D cA RT ro sz H0 Ga nL (zk_G p l e R s m args below meth c cells slots Q D RT ro ms) pc q :=
  zi_binF hS (fun _ _ g hg => (by cases hg)) (fun v vx vy H ls st h _ _ h1 h2 => by
    obtain ⟨x, rfl, ex⟩ := h1
    obtain ⟨y, rfl, ey⟩ := h2
    exact ⟨.long (x ^^^ y), (x ^^^ y).toInt, Or.inr ⟨rfl, _, rfl, rfl⟩, (zn_i64 _).1, (zn_i64 _).2, fun g hg => (by cases hg), fun _ _ _ _ k hk => lv_lxor hx hb hd (k hk)⟩) K

theorem zm_iandF (hx : p.tables.exec = Jvm.exec) (hb : c.code = cc) (hS : q.2.2.2.1 = (0, fb) :: (0, fa) :: S) (hd : decode cc pc = .ok (.iand, 1)) (K : zw D cA RT ro sz H0 Ga nL (zk_G p l e R s m args below meth c cells slots Q D RT ro ms) (pc + 1) (zx_fR 0 (-2147483648) 2147483647 q S [])) : zw D cA RT ro sz H0 Ga nL (zk_G p l e R s m args below meth c cells slots Q D RT ro ms) pc q :=
  zi_binF hS (fun _ _ g hg => (by cases hg)) (fun v vx vy H ls st h _ _ h1 h2 => by
    obtain ⟨x, rfl, ex⟩ := h1
    obtain ⟨y, rfl, ey⟩ := h2
    exact ⟨.int (x &&& y), (x &&& y).toInt, Or.inl ⟨rfl, _, rfl, rfl⟩, (zn_i32 _).1, (zn_i32 _).2, fun g hg => (by cases hg), fun _ _ _ _ k hk => lv_iand hx hb hd (k hk)⟩) K

theorem zm_lshl (hx : p.tables.exec = Jvm.exec) (hb : c.code = cc) (hS : q.2.2.2.1 = (0, fb) :: (1, fa) :: S) (hd : decode cc pc = .ok (.lshl, 1)) (K : zw D cA RT ro sz H0 Ga nL (zk_G p l e R s m args below meth c cells slots Q D RT ro ms) (pc + 1) (zx_fR 1 (-9223372036854775808) 9223372036854775807 q S [])) : zw D cA RT ro sz H0 Ga nL (zk_G p l e R s m args below meth c cells slots Q D RT ro ms) pc q :=
  zi_binF hS (fun _ _ g hg => (by cases hg)) (fun v vx vy H ls st h _ _ h1 h2 => by
    obtain ⟨x, rfl, ex⟩ := h1
    obtain ⟨y, rfl, ey⟩ := h2
    exact ⟨.long (x <<< (y.toInt64 &&& 63)), (x <<< (y.toInt64 &&& 63)).toInt, Or.inr ⟨rfl, _, rfl, rfl⟩, (zn_i64 _).1, (zn_i64 _).2, fun g hg => (by cases hg), fun _ _ _ _ k hk => lv_lshl hx hb hd rfl (k hk)⟩) K

theorem zm_lshr (hx : p.tables.exec = Jvm.exec) (hb : c.code = cc) (hS : q.2.2.2.1 = (0, fb) :: (1, fa) :: S) (hd : decode cc pc = .ok (.lshr, 1)) (K : zw D cA RT ro sz H0 Ga nL (zk_G p l e R s m args below meth c cells slots Q D RT ro ms) (pc + 1) (zx_fR 1 (-9223372036854775808) 9223372036854775807 q S [])) : zw D cA RT ro sz H0 Ga nL (zk_G p l e R s m args below meth c cells slots Q D RT ro ms) pc q :=
  zi_binF hS (fun _ _ g hg => (by cases hg)) (fun v vx vy H ls st h _ _ h1 h2 => by
    obtain ⟨x, rfl, ex⟩ := h1
    obtain ⟨y, rfl, ey⟩ := h2
    exact ⟨.long (x >>> (y.toInt64 &&& 63)), (x >>> (y.toInt64 &&& 63)).toInt, Or.inr ⟨rfl, _, rfl, rfl⟩, (zn_i64 _).1, (zn_i64 _).2, fun g hg => (by cases hg), fun _ _ _ _ k hk => lv_lshr hx hb hd rfl (k hk)⟩) K

theorem zm_lushr (hx : p.tables.exec = Jvm.exec) (hb : c.code = cc) (hS : q.2.2.2.1 = (0, fb) :: (1, fa) :: S) (hd : decode cc pc = .ok (.lushr, 1)) (K : zw D cA RT ro sz H0 Ga nL (zk_G p l e R s m args below meth c cells slots Q D RT ro ms) (pc + 1) (zx_fR 1 (-9223372036854775808) 9223372036854775807 q S [])) : zw D cA RT ro sz H0 Ga nL (zk_G p l e R s m args below meth c cells slots Q D RT ro ms) pc q :=
  zi_binF hS (fun _ _ g hg => (by cases hg)) (fun v vx vy H ls st h _ _ h1 h2 => by
    obtain ⟨x, rfl, ex⟩ := h1
    obtain ⟨y, rfl, ey⟩ := h2
    exact ⟨.long ((x.toUInt64 >>> (y.toInt64.toUInt64 &&& Int64.toUInt64 63)).toInt64), ((x.toUInt64 >>> (y.toInt64.toUInt64 &&& Int64.toUInt64 63)).toInt64).toInt, Or.inr ⟨rfl, _, rfl, rfl⟩, (zn_i64 _).1, (zn_i64 _).2, fun g hg => (by cases hg), fun _ _ _ _ k hk => lv_lushr hx hb hd rfl (k hk)⟩) K

theorem zm_idivF (hx : p.tables.exec = Jvm.exec) (hb : c.code = cc) (hS : q.2.2.2.1 = (0, fb) :: (0, fa) :: S) (hp : zl_le q.1 q.2.1 (zl_sub (zl_k 1) fb) = true) (hd : decode cc pc = .ok (.idiv, 1)) (K : zw D cA RT ro sz H0 Ga nL (zk_G p l e R s m args below meth c cells slots Q D RT ro ms) (pc + 1) (zx_fR 0 (-2147483648) 2147483647 q S [])) : zw D cA RT ro sz H0 Ga nL (zk_G p l e R s m args below meth c cells slots Q D RT ro ms) pc q :=
  zi_binF hS (fun _ _ g hg => (by cases hg)) (fun v vx vy H ls st h _ _ h1 h2 => by
    obtain ⟨x, rfl, ex⟩ := h1
    obtain ⟨y, rfl, ey⟩ := h2
    have h3 := zl_le_ok h.1 h.2.1 hp
    rw [zl_sub_at, zl_k_at] at h3
    dsimp only at ey
    have h4 : ¬ y = 0 := fun q => by
      rw [q] at ey
      have : (0 : Int32).toInt = 0 := rfl
      omega
    exact ⟨.int (x / y), (x / y).toInt, Or.inl ⟨rfl, _, rfl, rfl⟩, (zn_i32 _).1, (zn_i32 _).2, fun g hg => (by cases hg), fun _ _ _ _ k hk => lv_idiv hx hb hd h4 (k hk)⟩) K

theorem zm_iremF (hx : p.tables.exec = Jvm.exec) (hb : c.code = cc) (hS : q.2.2.2.1 = (0, fb) :: (0, fa) :: S) (hp : zl_le q.1 q.2.1 (zl_sub (zl_k 1) fb) = true) (hd : decode cc pc = .ok (.irem, 1)) (K : zw D cA RT ro sz H0 Ga nL (zk_G p l e R s m args below meth c cells slots Q D RT ro ms) (pc + 1) (zx_fR 0 (-2147483648) 2147483647 q S [])) : zw D cA RT ro sz H0 Ga nL (zk_G p l e R s m args below meth c cells slots Q D RT ro ms) pc q :=
  zi_binF hS (fun _ _ g hg => (by cases hg)) (fun v vx vy H ls st h _ _ h1 h2 => by
    obtain ⟨x, rfl, ex⟩ := h1
    obtain ⟨y, rfl, ey⟩ := h2
    have h3 := zl_le_ok h.1 h.2.1 hp
    rw [zl_sub_at, zl_k_at] at h3
    dsimp only at ey
    have h4 : ¬ y = 0 := fun q => by
      rw [q] at ey
      have : (0 : Int32).toInt = 0 := rfl
      omega
    exact ⟨.int (x - x / y * y), (x - x / y * y).toInt, Or.inl ⟨rfl, _, rfl, rfl⟩, (zn_i32 _).1, (zn_i32 _).2, fun g hg => (by cases hg), fun _ _ _ _ k hk => lv_irem hx hb hd h4 (k hk)⟩) K

theorem zm_ldivF (hx : p.tables.exec = Jvm.exec) (hb : c.code = cc) (hS : q.2.2.2.1 = (1, fb) :: (1, fa) :: S) (hp : zl_le q.1 q.2.1 (zl_sub (zl_k 1) fb) = true) (hd : decode cc pc = .ok (.ldiv, 1)) (K : zw D cA RT ro sz H0 Ga nL (zk_G p l e R s m args below meth c cells slots Q D RT ro ms) (pc + 1) (zx_fR 1 (-9223372036854775808) 9223372036854775807 q S [])) : zw D cA RT ro sz H0 Ga nL (zk_G p l e R s m args below meth c cells slots Q D RT ro ms) pc q :=
  zi_binF hS (fun _ _ g hg => (by cases hg)) (fun v vx vy H ls st h _ _ h1 h2 => by
    obtain ⟨x, rfl, ex⟩ := h1
    obtain ⟨y, rfl, ey⟩ := h2
    have h3 := zl_le_ok h.1 h.2.1 hp
    rw [zl_sub_at, zl_k_at] at h3
    dsimp only at ey
    have h4 : ¬ y = 0 := fun q => by
      rw [q] at ey
      have : (0 : Int64).toInt = 0 := rfl
      omega
    exact ⟨.long (x / y), (x / y).toInt, Or.inr ⟨rfl, _, rfl, rfl⟩, (zn_i64 _).1, (zn_i64 _).2, fun g hg => (by cases hg), fun _ _ _ _ k hk => lv_ldiv hx hb hd h4 (k hk)⟩) K

theorem zm_lremF (hx : p.tables.exec = Jvm.exec) (hb : c.code = cc) (hS : q.2.2.2.1 = (1, fb) :: (1, fa) :: S) (hp : zl_le q.1 q.2.1 (zl_sub (zl_k 1) fb) = true) (hd : decode cc pc = .ok (.lrem, 1)) (K : zw D cA RT ro sz H0 Ga nL (zk_G p l e R s m args below meth c cells slots Q D RT ro ms) (pc + 1) (zx_fR 1 (-9223372036854775808) 9223372036854775807 q S [])) : zw D cA RT ro sz H0 Ga nL (zk_G p l e R s m args below meth c cells slots Q D RT ro ms) pc q :=
  zi_binF hS (fun _ _ g hg => (by cases hg)) (fun v vx vy H ls st h _ _ h1 h2 => by
    obtain ⟨x, rfl, ex⟩ := h1
    obtain ⟨y, rfl, ey⟩ := h2
    have h3 := zl_le_ok h.1 h.2.1 hp
    rw [zl_sub_at, zl_k_at] at h3
    dsimp only at ey
    have h4 : ¬ y = 0 := fun q => by
      rw [q] at ey
      have : (0 : Int64).toInt = 0 := rfl
      omega
    exact ⟨.long (x - x / y * y), (x - x / y * y).toInt, Or.inr ⟨rfl, _, rfl, rfl⟩, (zn_i64 _).1, (zn_i64 _).2, fun g hg => (by cases hg), fun _ _ _ _ k hk => lv_lrem hx hb hd h4 (k hk)⟩) K

/-- the quotient's bounds: those of the dividend by n; and its relations to the dividend -/
def zx_dR (n : Int) (fa : zl_F) (i : Nat) (pos : Bool) : List zl_F := match pos with
  | true => [zl_sub (zl_sub fa (zl_mul n (zl_id i))) (zl_k (n - 1)), zl_sub (zl_mul n (zl_id i)) fa]
  | false => [zl_sub (zl_sub fa (zl_mul n (zl_id i))) (zl_k (n - 1)), zl_sub (zl_sub (zl_mul n (zl_id i)) fa) (zl_k (n - 1))]
def zx_ps (q : zs_S) (f : zl_F) : Bool := zl_le q.1 q.2.1 (zl_neg f)
theorem zx_dR_wf {n : Int} {fa : zl_F} {i : Nat} (pos : Bool) (h : zl_wf i fa) : ∀ g ∈ zx_dR n fa i pos, zl_wf (i + 1) g := by
  have h1 : zl_wf (i + 1) fa := h.mono (by omega)
  have h2 : zl_wf (i + 1) (zl_mul n (zl_id i)) := zl_mul_wf (zl_id_wf (by omega))
  intro g hg
  cases pos with
  | true =>
    simp only [zx_dR, List.mem_cons, List.not_mem_nil, or_false] at hg
    rcases hg with rfl | rfl
    · exact zl_sub_wf (zl_sub_wf h1 h2) zl_k_wf
    · exact zl_sub_wf h2 h1
  | false =>
    simp only [zx_dR, List.mem_cons, List.not_mem_nil, or_false] at hg
    rcases hg with rfl | rfl
    · exact zl_sub_wf (zl_sub_wf h1 h2) zl_k_wf
    · exact zl_sub_wf (zl_sub_wf h2 h1) zl_k_wf
theorem zx_dR_ok {n z : Int} {fa : zl_F} {i : Nat} {pos : Bool} {v : Nat → Int} (hn : 0 < n) (hw : zl_wf i fa) (hz : z = (zl_at v fa).tdiv n) (hp : pos = true → 0 ≤ zl_at v fa) : ∀ g ∈ zx_dR n fa i pos, zl_at (zl_up v i z) g ≤ 0 := by
  have e1 : zl_at (zl_up v i z) fa = zl_at v fa := zl_up_at hw
  have e2 : zl_at (zl_up v i z) (zl_mul n (zl_id i)) = n * z := by rw [zl_mul_at, zl_id_at]; simp [zl_up]
  have b := zn_tb (x := zl_at v fa) hn
  intro g hg
  cases pos with
  | true =>
    have b2 := zn_t0 hn (hp rfl)
    simp only [zx_dR, List.mem_cons, List.not_mem_nil, or_false] at hg
    rcases hg with rfl | rfl
    · rw [zl_sub_at, zl_sub_at, zl_k_at, e1, e2, hz]; omega
    · rw [zl_sub_at, e1, e2, hz]; omega
  | false =>
    simp only [zx_dR, List.mem_cons, List.not_mem_nil, or_false] at hg
    rcases hg with rfl | rfl
    · rw [zl_sub_at, zl_sub_at, zl_k_at, e1, e2, hz]; omega
    · rw [zl_sub_at, zl_sub_at, zl_k_at, e1, e2, hz]; omega

theorem zm_idivC (hx : p.tables.exec = Jvm.exec) (hb : c.code = cc) {n : Int} (hS : q.2.2.2.1 = (0, ([], n)) :: (0, fa) :: S) (hn : 0 < n) (hd : decode cc pc = .ok (.idiv, 1)) (K : zw D cA RT ro sz H0 Ga nL (zk_G p l e R s m args below meth c cells slots Q D RT ro ms) (pc + 1) (zx_fR 0 (-2147483648) 2147483647 q S (zx_dR n fa q.1.length (zx_ps q fa)))) : zw D cA RT ro sz H0 Ga nL (zk_G p l e R s m args below meth c cells slots Q D RT ro ms) pc q :=
  zi_binF hS (fun ha _ => zx_dR_wf _ ha) (fun v vx vy H ls st h wa _ h1 h2 => by
    obtain ⟨x, rfl, ex⟩ := h1
    obtain ⟨y, rfl, ey⟩ := h2
    dsimp only at ex ey wa
    have ey : y.toInt = n := ey.trans (zl_k_at v n)
    have h4 : ¬ y = 0 := fun q => by
      rw [q] at ey
      have : (0 : Int32).toInt = 0 := rfl
      omega
    refine ⟨.int (x / y), (x / y).toInt, Or.inl ⟨rfl, _, rfl, rfl⟩, (zn_i32 _).1, (zn_i32 _).2, zx_dR_ok hn wa (by rw [zn_div (by omega), ex, ey]) (fun hp => ?_), fun _ _ _ _ k hk => lv_idiv hx hb hd h4 (k hk)⟩
    have h5 := zl_le_ok h.1 h.2.1 hp
    rw [zl_neg_at] at h5
    show 0 ≤ zl_at v fa
    omega) K

theorem zm_ldivC (hx : p.tables.exec = Jvm.exec) (hb : c.code = cc) {n : Int} (hS : q.2.2.2.1 = (1, ([], n)) :: (1, fa) :: S) (hn : 0 < n) (hd : decode cc pc = .ok (.ldiv, 1)) (K : zw D cA RT ro sz H0 Ga nL (zk_G p l e R s m args below meth c cells slots Q D RT ro ms) (pc + 1) (zx_fR 1 (-9223372036854775808) 9223372036854775807 q S (zx_dR n fa q.1.length (zx_ps q fa)))) : zw D cA RT ro sz H0 Ga nL (zk_G p l e R s m args below meth c cells slots Q D RT ro ms) pc q :=
  zi_binF hS (fun ha _ => zx_dR_wf _ ha) (fun v vx vy H ls st h wa _ h1 h2 => by
    obtain ⟨x, rfl, ex⟩ := h1
    obtain ⟨y, rfl, ey⟩ := h2
    dsimp only at ex ey wa
    have ey : y.toInt = n := ey.trans (zl_k_at v n)
    have h4 : ¬ y = 0 := fun q => by
      rw [q] at ey
      have : (0 : Int64).toInt = 0 := rfl
      omega
    refine ⟨.long (x / y), (x / y).toInt, Or.inr ⟨rfl, _, rfl, rfl⟩, (zn_i64 _).1, (zn_i64 _).2, zx_dR_ok hn wa (by rw [zn_divL (by omega), ex, ey]) (fun hp => ?_), fun _ _ _ _ k hk => lv_ldiv hx hb hd h4 (k hk)⟩
    have h5 := zl_le_ok h.1 h.2.1 hp
    rw [zl_neg_at] at h5
    show 0 ≤ zl_at v fa
    omega) K

theorem zm_iremCp (hx : p.tables.exec = Jvm.exec) (hb : c.code = cc) {n : Int} (hS : q.2.2.2.1 = (0, ([], n)) :: (0, fa) :: S) (hn : 0 < n) (hp : zx_ps q fa = true) (hd : decode cc pc = .ok (.irem, 1)) (K : zw D cA RT ro sz H0 Ga nL (zk_G p l e R s m args below meth c cells slots Q D RT ro ms) (pc + 1) (zx_fR 0 0 (n - 1) q S [zl_sub (zl_id q.1.length) fa])) : zw D cA RT ro sz H0 Ga nL (zk_G p l e R s m args below meth c cells slots Q D RT ro ms) pc q :=
  zi_binF hS (fun ha _ g hg => (by rw [List.mem_singleton.mp hg]; exact zl_sub_wf (zl_id_wf (by omega)) (zl_wf.mono ha (by omega)))) (fun v vx vy H ls st h wa _ h1 h2 => by
    obtain ⟨x, rfl, ex⟩ := h1
    obtain ⟨y, rfl, ey⟩ := h2
    dsimp only at ex ey wa
    have ey : y.toInt = n := ey.trans (zl_k_at v n)
    have h4 : ¬ y = 0 := fun q => by
      rw [q] at ey
      have : (0 : Int32).toInt = 0 := rfl
      omega
    have h3 := zn_rem (x := x) (y := y) (by omega)
    rw [ey] at h3
    have h5 := zl_le_ok h.1 h.2.1 hp
    rw [zl_neg_at] at h5
    have h6 := zn_tm (x := x.toInt) (k := n) hn
    have h7 := h6.2.2 (by omega)
    refine ⟨.int (x - x / y * y), (x - x / y * y).toInt, Or.inl ⟨rfl, _, rfl, rfl⟩, by rw [h3]; omega, by rw [h3]; omega, fun g hg => ?_, fun _ _ _ _ k hk => lv_irem hx hb hd h4 (k hk)⟩
    rw [List.mem_singleton.mp hg, zl_sub_at, zl_id_at, zl_up_at wa, h3]
    simp only [zl_up, if_pos]
    omega) K

theorem zm_iremC (hx : p.tables.exec = Jvm.exec) (hb : c.code = cc) {n : Int} (hS : q.2.2.2.1 = (0, ([], n)) :: (0, fa) :: S) (hn : 0 < n) (hd : decode cc pc = .ok (.irem, 1)) (K : zw D cA RT ro sz H0 Ga nL (zk_G p l e R s m args below meth c cells slots Q D RT ro ms) (pc + 1) (zx_fR 0 (-(n - 1)) (n - 1) q S [])) : zw D cA RT ro sz H0 Ga nL (zk_G p l e R s m args below meth c cells slots Q D RT ro ms) pc q :=
  zi_binF hS (fun _ _ g hg => (by cases hg)) (fun v vx vy H ls st h wa _ h1 h2 => by
    obtain ⟨x, rfl, ex⟩ := h1
    obtain ⟨y, rfl, ey⟩ := h2
    dsimp only at ex ey wa
    have ey : y.toInt = n := ey.trans (zl_k_at v n)
    have h4 : ¬ y = 0 := fun q => by
      rw [q] at ey
      have : (0 : Int32).toInt = 0 := rfl
      omega
    have h3 := zn_rem (x := x) (y := y) (by omega)
    rw [ey] at h3
    have h6 := zn_tm (x := x.toInt) (k := n) hn
    exact ⟨.int (x - x / y * y), (x - x / y * y).toInt, Or.inl ⟨rfl, _, rfl, rfl⟩, by rw [h3]; omega, by rw [h3]; omega, fun g hg => (by cases hg), fun _ _ _ _ k hk => lv_irem hx hb hd h4 (k hk)⟩) K

theorem zm_lremCp (hx : p.tables.exec = Jvm.exec) (hb : c.code = cc) {n : Int} (hS : q.2.2.2.1 = (1, ([], n)) :: (1, fa) :: S) (hn : 0 < n) (hp : zx_ps q fa = true) (hd : decode cc pc = .ok (.lrem, 1)) (K : zw D cA RT ro sz H0 Ga nL (zk_G p l e R s m args below meth c cells slots Q D RT ro ms) (pc + 1) (zx_fR 1 0 (n - 1) q S [zl_sub (zl_id q.1.length) fa])) : zw D cA RT ro sz H0 Ga nL (zk_G p l e R s m args below meth c cells slots Q D RT ro ms) pc q :=
  zi_binF hS (fun ha _ g hg => (by rw [List.mem_singleton.mp hg]; exact zl_sub_wf (zl_id_wf (by omega)) (zl_wf.mono ha (by omega)))) (fun v vx vy H ls st h wa _ h1 h2 => by
    obtain ⟨x, rfl, ex⟩ := h1
    obtain ⟨y, rfl, ey⟩ := h2
    dsimp only at ex ey wa
    have ey : y.toInt = n := ey.trans (zl_k_at v n)
    have h4 : ¬ y = 0 := fun q => by
      rw [q] at ey
      have : (0 : Int64).toInt = 0 := rfl
      omega
    have h3 := zn_remL (x := x) (y := y) (by omega)
    rw [ey] at h3
    have h5 := zl_le_ok h.1 h.2.1 hp
    rw [zl_neg_at] at h5
    have h6 := zn_tm (x := x.toInt) (k := n) hn
    have h7 := h6.2.2 (by omega)
    refine ⟨.long (x - x / y * y), (x - x / y * y).toInt, Or.inr ⟨rfl, _, rfl, rfl⟩, by rw [h3]; omega, by rw [h3]; omega, fun g hg => ?_, fun _ _ _ _ k hk => lv_lrem hx hb hd h4 (k hk)⟩
    rw [List.mem_singleton.mp hg, zl_sub_at, zl_id_at, zl_up_at wa, h3]
    simp only [zl_up, if_pos]
    omega) K

theorem zm_lremC (hx : p.tables.exec = Jvm.exec) (hb : c.code = cc) {n : Int} (hS : q.2.2.2.1 = (1, ([], n)) :: (1, fa) :: S) (hn : 0 < n) (hd : decode cc pc = .ok (.lrem, 1)) (K : zw D cA RT ro sz H0 Ga nL (zk_G p l e R s m args below meth c cells slots Q D RT ro ms) (pc + 1) (zx_fR 1 (-(n - 1)) (n - 1) q S [])) : zw D cA RT ro sz H0 Ga nL (zk_G p l e R s m args below meth c cells slots Q D RT ro ms) pc q :=
  zi_binF hS (fun _ _ g hg => (by cases hg)) (fun v vx vy H ls st h wa _ h1 h2 => by
    obtain ⟨x, rfl, ex⟩ := h1
    obtain ⟨y, rfl, ey⟩ := h2
    dsimp only at ex ey wa
    have ey : y.toInt = n := ey.trans (zl_k_at v n)
    have h4 : ¬ y = 0 := fun q => by
      rw [q] at ey
      have : (0 : Int64).toInt = 0 := rfl
      omega
    have h3 := zn_remL (x := x) (y := y) (by omega)
    rw [ey] at h3
    have h6 := zn_tm (x := x.toInt) (k := n) hn
    exact ⟨.long (x - x / y * y), (x - x / y * y).toInt, Or.inr ⟨rfl, _, rfl, rfl⟩, by rw [h3]; omega, by rw [h3]; omega, fun g hg => (by cases hg), fun _ _ _ _ k hk => lv_lrem hx hb hd h4 (k hk)⟩) K

theorem zm_iandC (hx : p.tables.exec = Jvm.exec) (hb : c.code = cc) {n : Int} (hS : q.2.2.2.1 = (0, ([], n)) :: (0, fa) :: S) (hn : 0 ≤ n) (hd : decode cc pc = .ok (.iand, 1)) (K : zw D cA RT ro sz H0 Ga nL (zk_G p l e R s m args below meth c cells slots Q D RT ro ms) (pc + 1) (zx_fR 0 0 n q S [])) : zw D cA RT ro sz H0 Ga nL (zk_G p l e R s m args below meth c cells slots Q D RT ro ms) pc q :=
  zi_binF hS (fun _ _ g hg => (by cases hg)) (fun v vx vy H ls st h _ _ h1 h2 => by
    obtain ⟨x, rfl, ex⟩ := h1
    obtain ⟨y, rfl, ey⟩ := h2
    dsimp only at ex ey
    have ey : y.toInt = n := ey.trans (zl_k_at v n)
    have h3 := zn_and (x := x) (y := y) (by omega)
    exact ⟨.int (x &&& y), (x &&& y).toInt, Or.inl ⟨rfl, _, rfl, rfl⟩, h3.1, by omega, fun g hg => (by cases hg), fun _ _ _ _ k hk => lv_iand hx hb hd (k hk)⟩) K

theorem zm_ineg (hx : p.tables.exec = Jvm.exec) (hb : c.code = cc) (hS : q.2.2.2.1 = (0, fa) :: S) (hd : decode cc pc = .ok (.ineg, 1)) (K : zw D cA RT ro sz H0 Ga nL (zk_G p l e R s m args below meth c cells slots Q D RT ro ms) (pc + 1) (zx_pu 0 (-2147483648) 2147483647 q S (zl_neg fa))) : zw D cA RT ro sz H0 Ga nL (zk_G p l e R s m args below meth c cells slots Q D RT ro ms) pc q :=
  zi_un (f := (zl_neg fa)) hS (fun ha => zl_mul_wf ha) (fun v vx h1 => by
    obtain ⟨x, rfl, ex⟩ := h1
    dsimp only at ex
    refine ⟨.int (-x), (-x).toInt, Or.inl ⟨rfl, _, rfl, rfl⟩, (zn_i32 _).1, (zn_i32 _).2, fun g1 g2 => ?_, fun _ _ _ _ k hk => lv_ineg hx hb hd (k hk)⟩
    rw [zl_neg_at, ← ex] at g1 g2 ⊢; exact zn_neg g1 g2) K

theorem zm_lneg (hx : p.tables.exec = Jvm.exec) (hb : c.code = cc) (hS : q.2.2.2.1 = (1, fa) :: S) (hd : decode cc pc = .ok (.lneg, 1)) (K : zw D cA RT ro sz H0 Ga nL (zk_G p l e R s m args below meth c cells slots Q D RT ro ms) (pc + 1) (zx_pu 1 (-9223372036854775808) 9223372036854775807 q S (zl_neg fa))) : zw D cA RT ro sz H0 Ga nL (zk_G p l e R s m args below meth c cells slots Q D RT ro ms) pc q :=
  zi_un (f := (zl_neg fa)) hS (fun ha => zl_mul_wf ha) (fun v vx h1 => by
    obtain ⟨x, rfl, ex⟩ := h1
    dsimp only at ex
    refine ⟨.long (-x), (-x).toInt, Or.inr ⟨rfl, _, rfl, rfl⟩, (zn_i64 _).1, (zn_i64 _).2, fun g1 g2 => ?_, fun _ _ _ _ k hk => lv_lneg hx hb hd (k hk)⟩
    rw [zl_neg_at, ← ex] at g1 g2 ⊢; exact zn_negL g1 g2) K

theorem zm_i2l (hx : p.tables.exec = Jvm.exec) (hb : c.code = cc) (hS : q.2.2.2.1 = (0, fa) :: S) (hd : decode cc pc = .ok (.i2l, 1)) (K : zw D cA RT ro sz H0 Ga nL (zk_G p l e R s m args below meth c cells slots Q D RT ro ms) (pc + 1) (zx_pu 1 (-9223372036854775808) 9223372036854775807 q S fa)) : zw D cA RT ro sz H0 Ga nL (zk_G p l e R s m args below meth c cells slots Q D RT ro ms) pc q :=
  zi_un (f := fa) hS (fun ha => ha) (fun v vx h1 => by
    obtain ⟨x, rfl, ex⟩ := h1
    dsimp only at ex
    refine ⟨.long (x.toInt64), (x.toInt64).toInt, Or.inr ⟨rfl, _, rfl, rfl⟩, (zn_i64 _).1, (zn_i64 _).2, fun g1 g2 => ?_, fun _ _ _ _ k hk => lv_i2l hx hb hd rfl (k hk)⟩
    rw [← ex]; exact zn_i2l x) K

theorem zm_l2i (hx : p.tables.exec = Jvm.exec) (hb : c.code = cc) (hS : q.2.2.2.1 = (1, fa) :: S) (hd : decode cc pc = .ok (.l2i, 1)) (K : zw D cA RT ro sz H0 Ga nL (zk_G p l e R s m args below meth c cells slots Q D RT ro ms) (pc + 1) (zx_pu 0 (-2147483648) 2147483647 q S fa)) : zw D cA RT ro sz H0 Ga nL (zk_G p l e R s m args below meth c cells slots Q D RT ro ms) pc q :=
  zi_un (f := fa) hS (fun ha => ha) (fun v vx h1 => by
    obtain ⟨x, rfl, ex⟩ := h1
    dsimp only at ex
    refine ⟨.int (x.toInt32), (x.toInt32).toInt, Or.inl ⟨rfl, _, rfl, rfl⟩, (zn_i32 _).1, (zn_i32 _).2, fun g1 g2 => ?_, fun _ _ _ _ k hk => lv_l2i hx hb hd rfl (k hk)⟩
    rw [← ex] at g1 g2 ⊢; exact zn_l2i g1 g2) K

theorem zm_i2b (hx : p.tables.exec = Jvm.exec) (hb : c.code = cc) (hS : q.2.2.2.1 = (0, fa) :: S) (hd : decode cc pc = .ok (.i2b, 1)) (K : zw D cA RT ro sz H0 Ga nL (zk_G p l e R s m args below meth c cells slots Q D RT ro ms) (pc + 1) (zx_pu 0 (-128) 127 q S fa)) : zw D cA RT ro sz H0 Ga nL (zk_G p l e R s m args below meth c cells slots Q D RT ro ms) pc q :=
  zi_un (f := fa) hS (fun ha => ha) (fun v vx h1 => by
    obtain ⟨x, rfl, ex⟩ := h1
    dsimp only at ex
    refine ⟨.int (x.toInt8.toInt32), (x.toInt8.toInt32).toInt, Or.inl ⟨rfl, _, rfl, rfl⟩, (zn_i2b x).1, (zn_i2b x).2, fun g1 g2 => ?_, fun _ _ _ _ k hk => lv_i2b hx hb hd rfl (k hk)⟩
    rw [← ex] at g1 g2 ⊢; exact zn_ibx g1 g2) K

theorem zm_lcmp (hx : p.tables.exec = Jvm.exec) (hb : c.code = cc) (hS : q.2.2.2.1 = (1, fb) :: (1, fa) :: S) (hd : decode cc pc = .ok (.lcmp, 1)) (K : zw D cA RT ro sz H0 Ga nL (zk_G p l e R s m args below meth c cells slots Q D RT ro ms) (pc + 1) (zq_S q ((3, zl_sub fa fb) :: S))) : zw D cA RT ro sz H0 Ga nL (zk_G p l e R s m args below meth c cells slots Q D RT ro ms) pc q :=
  zi_stk (fun w z hz => by
    rw [hS] at w
    rcases List.mem_cons.mp hz with e | e
    · rw [e]; exact zl_sub_wf (w (1, fa) (List.mem_cons_of_mem _ List.mem_cons_self)) (w (1, fb) List.mem_cons_self)
    · exact w z (List.mem_cons_of_mem _ (List.mem_cons_of_mem _ e))) (fun v st h => by
    rw [hS] at h
    match st, h with
    | vy :: vx :: st, h =>
      obtain ⟨y, rfl, ey⟩ := h.1
      obtain ⟨x, rfl, ex⟩ := h.2.1
      dsimp only at ex ey
      exact ⟨.int (lg_cmp x y) :: st, ⟨⟨lg_cmp x y, rfl, by rw [zn_sg, zl_sub_at, ex, ey]⟩, h.2.2⟩, fun _ _ _ k hk => W.lcmp hx hb hd (k hk)⟩) K

theorem zm_dup (hx : p.tables.exec = Jvm.exec) (hb : c.code = cc) {z : zv_V} (hS : q.2.2.2.1 = z :: S) (hz : z.1 ≠ 1) (hd : decode cc pc = .ok (.dup, 1)) (K : zw D cA RT ro sz H0 Ga nL (zk_G p l e R s m args below meth c cells slots Q D RT ro ms) (pc + 1) (zq_S q (z :: z :: S))) : zw D cA RT ro sz H0 Ga nL (zk_G p l e R s m args below meth c cells slots Q D RT ro ms) pc q :=
  zi_stk (fun w y hy => by
    rw [hS] at w
    rcases List.mem_cons.mp hy with e | e
    · rw [e]; exact w z List.mem_cons_self
    · exact w y e) (fun v st h => by
    rw [hS] at h
    match st, h with
    | x :: st, h => exact ⟨x :: x :: st, ⟨h.1, h⟩, fun _ _ _ k hk => lv_dup hx hb hd (by rw [zv_cat h.1, if_neg hz]) (k hk)⟩) K

theorem zm_dup2 (hx : p.tables.exec = Jvm.exec) (hb : c.code = cc) {z y : zv_V} (hS : q.2.2.2.1 = z :: y :: S) (hz : z.1 ≠ 1) (hy : y.1 ≠ 1) (hd : decode cc pc = .ok (.dup2, 1)) (K : zw D cA RT ro sz H0 Ga nL (zk_G p l e R s m args below meth c cells slots Q D RT ro ms) (pc + 1) (zq_S q (z :: y :: z :: y :: S))) : zw D cA RT ro sz H0 Ga nL (zk_G p l e R s m args below meth c cells slots Q D RT ro ms) pc q :=
  zi_stk (fun w u hu => by
    rw [hS] at w
    rcases List.mem_cons.mp hu with e | e
    · rw [e]; exact w z List.mem_cons_self
    · rcases List.mem_cons.mp e with e | e
      · rw [e]; exact w y (List.mem_cons_of_mem _ List.mem_cons_self)
      · exact w u e) (fun v st h => by
    rw [hS] at h
    match st, h with
    | a :: b :: st, h => exact ⟨a :: b :: a :: b :: st, ⟨h.1, h.2.1, h⟩, fun _ _ _ k hk => lv_dup2_11 hx hb hd (by rw [zv_cat h.1, if_neg hz]) (by rw [zv_cat h.2.1, if_neg hy]) (k hk)⟩) K

theorem zm_pop (hx : p.tables.exec = Jvm.exec) (hb : c.code = cc) {z : zv_V} (hS : q.2.2.2.1 = z :: S) (hz : z.1 ≠ 1) (hd : decode cc pc = .ok (.pop, 1)) (K : zw D cA RT ro sz H0 Ga nL (zk_G p l e R s m args below meth c cells slots Q D RT ro ms) (pc + 1) (zq_S q S)) : zw D cA RT ro sz H0 Ga nL (zk_G p l e R s m args below meth c cells slots Q D RT ro ms) pc q :=
  zi_stk (fun w y hy => by rw [hS] at w; exact w y (List.mem_cons_of_mem _ hy)) (fun v st h => by
    rw [hS] at h
    match st, h with
    | x :: st, h => exact ⟨st, h.2, fun _ _ _ k hk => lv_pop hx hb hd (by rw [zv_cat h.1, if_neg hz]) (k hk)⟩) K

theorem zm_pop2 (hx : p.tables.exec = Jvm.exec) (hb : c.code = cc) {z : zv_V} (hS : q.2.2.2.1 = z :: S) (hz : z.1 = 1) (hd : decode cc pc = .ok (.pop2, 1)) (K : zw D cA RT ro sz H0 Ga nL (zk_G p l e R s m args below meth c cells slots Q D RT ro ms) (pc + 1) (zq_S q S)) : zw D cA RT ro sz H0 Ga nL (zk_G p l e R s m args below meth c cells slots Q D RT ro ms) pc q :=
  zi_stk (fun w y hy => by rw [hS] at w; exact w y (List.mem_cons_of_mem _ hy)) (fun v st h => by
    rw [hS] at h
    match st, h with
    | x :: st, h => exact ⟨st, h.2, fun _ _ _ k hk => lv_pop2_2 hx hb hd (by rw [zv_cat h.1, if_pos hz]) (k hk)⟩) K

theorem zm_goto (hx : p.tables.exec = Jvm.exec) (hb : c.code = cc) {off : Int} {tgt : Nat} (ht : (pc : Int) + off = (tgt : Int)) (hd : decode cc pc = .ok (.goto off, 3)) (K : zw D cA RT ro sz H0 Ga nL (zk_G p l e R s m args below meth c cells slots Q D RT ro ms) tgt q) : zw D cA RT ro sz H0 Ga nL (zk_G p l e R s m args below meth c cells slots Q D RT ro ms) pc q :=
  fun hw v H locs ls st h hh hk => lv_goto hx hb hd ht (K hw v H locs ls st h hh hk)

theorem zm_if (hx : p.tables.exec = Jvm.exec) (hb : c.code = cc) {cd : Jvm.ClassFile.Cond} {z : zv_V} {off : Int} {tgt : Nat} (hS : q.2.2.2.1 = z :: S) (hz : z.1 = 0 ∨ z.1 = 3) (ht : (pc : Int) + off = (tgt : Int)) (hd : decode cc pc = .ok (.ifCond cd off, 3)) (Kt : zw D cA RT ro sz H0 Ga nL (zk_G p l e R s m args below meth c cells slots Q D RT ro ms) tgt (zx_br cd true (zq_S q S) z.2)) (Kf : zw D cA RT ro sz H0 Ga nL (zk_G p l e R s m args below meth c cells slots Q D RT ro ms) (pc + 3) (zx_br cd false (zq_S q S) z.2)) : zw D cA RT ro sz H0 Ga nL (zk_G p l e R s m args below meth c cells slots Q D RT ro ms) pc q :=
  zi_if cd hS hz (fun x _ _ _ _ kt kf hk => by
    have z0 : (0 : Int32).toInt = 0 := rfl
    cases cd with
    | eq => exact lv_if_eq hx hb hd ht (fun g => kt (by rw [g]; exact z0) hk) (fun g => kf (fun g2 => g (Int32.toInt_inj.mp (by rw [z0]; exact g2))) hk)
    | ne => exact lv_if_ne hx hb hd ht (fun g => kt (fun g2 => g (Int32.toInt_inj.mp (by rw [z0]; exact g2))) hk) (fun g => kf (fun g2 => g2 (by rw [g]; exact z0)) hk)
    | lt => exact lv_if_lt hx hb hd ht (fun g => kt (by have := Int32.lt_iff_toInt_lt.mp g; rw [z0] at this; exact this) hk) (fun g => kf (fun g2 => g (Int32.lt_iff_toInt_lt.mpr (by rw [z0]; exact g2))) hk)
    | ge => exact lv_if_ge hx hb hd ht (fun g => kt (by have := Int32.le_iff_toInt_le.mp g; rw [z0] at this; exact this) hk) (fun g => kf (fun g2 => g (Int32.le_iff_toInt_le.mpr (by rw [z0]; exact g2))) hk)
    | gt => exact lv_if_gt hx hb hd ht (fun g => kt (by have := Int32.lt_iff_toInt_lt.mp g; rw [z0] at this; exact this) hk) (fun g => kf (fun g2 => g (Int32.lt_iff_toInt_lt.mpr (by rw [z0]; exact g2))) hk)
    | le => exact lv_if_le hx hb hd ht (fun g => kt (by have := Int32.le_iff_toInt_le.mp g; rw [z0] at this; exact this) hk) (fun g => kf (fun g2 => g (Int32.le_iff_toInt_le.mpr (by rw [z0]; exact g2))) hk)) Kt Kf

theorem zm_icmp (hx : p.tables.exec = Jvm.exec) (hb : c.code = cc) {cd : Jvm.ClassFile.Cond} {off : Int} {tgt : Nat} (hS : q.2.2.2.1 = (0, fb) :: (0, fa) :: S) (ht : (pc : Int) + off = (tgt : Int)) (hd : decode cc pc = .ok (.if_icmp cd off, 3)) (Kt : zw D cA RT ro sz H0 Ga nL (zk_G p l e R s m args below meth c cells slots Q D RT ro ms) tgt (zx_br cd true (zq_S q S) (zl_sub fa fb))) (Kf : zw D cA RT ro sz H0 Ga nL (zk_G p l e R s m args below meth c cells slots Q D RT ro ms) (pc + 3) (zx_br cd false (zq_S q S) (zl_sub fa fb))) : zw D cA RT ro sz H0 Ga nL (zk_G p l e R s m args below meth c cells slots Q D RT ro ms) pc q :=
  zi_icmp cd hS rfl rfl (fun x y _ _ _ _ kt kf hk => by
    cases cd with
    | eq => exact lv_icmp_eq hx hb hd ht (fun g => kt (by rw [g]; exact Int.sub_self _) hk) (fun g => kf (fun g2 => g (Int32.toInt_inj.mp (by have : x.toInt - y.toInt = 0 := g2; omega))) hk)
    | ne => exact lv_icmp_ne hx hb hd ht (fun g => kt (fun g2 => g (Int32.toInt_inj.mp (by have : x.toInt - y.toInt = 0 := g2; omega))) hk) (fun g => kf (fun g2 => g2 (by rw [g]; exact Int.sub_self _)) hk)
    | lt => exact lv_icmp_lt hx hb hd ht (fun g => kt (by have := Int32.lt_iff_toInt_lt.mp g; show x.toInt - y.toInt < 0; omega) hk) (fun g => kf (fun g2 => g (Int32.lt_iff_toInt_lt.mpr (by have : x.toInt - y.toInt < 0 := g2; omega))) hk)
    | ge => exact lv_icmp_ge hx hb hd ht (fun g => kt (by have := Int32.le_iff_toInt_le.mp g; show 0 ≤ x.toInt - y.toInt; omega) hk) (fun g => kf (fun g2 => g (Int32.le_iff_toInt_le.mpr (by have : 0 ≤ x.toInt - y.toInt := g2; omega))) hk)
    | gt => exact lv_icmp_gt hx hb hd ht (fun g => kt (by have := Int32.lt_iff_toInt_lt.mp g; show 0 < x.toInt - y.toInt; omega) hk) (fun g => kf (fun g2 => g (Int32.lt_iff_toInt_lt.mpr (by have : 0 < x.toInt - y.toInt := g2; omega))) hk)
    | le => exact lv_icmp_le hx hb hd ht (fun g => kt (by have := Int32.le_iff_toInt_le.mp g; show x.toInt - y.toInt ≤ 0; omega) hk) (fun g => kf (fun g2 => g (Int32.le_iff_toInt_le.mpr (by have : x.toInt - y.toInt ≤ 0 := g2; omega))) hk)) Kt Kf
end ZN
end
section
/-! the machine's instructions: locals that count, null tests, switches, fields, arrays, constants -/
def zx_ii (i : Nat) (n : Int) (f : zl_F) (q : zs_S) : zs_S := match zx_in q (-2147483648) 2147483647 (zl_add f (zl_k n)) with
  | true => zq_LS q (zx_put q.2.2.1 i (0, zl_add f (zl_k n))) q.2.2.2.1
  | false => zq_LS (zs_new q (-2147483648) 2147483647) (zx_put q.2.2.1 i (0, zl_id q.1.length)) q.2.2.2.1
theorem zx_put_wf {n i : Nat} {z : zv_V} {L : List (Nat × zv_V)} (hz : zv_wf n z) (hL : ∀ e ∈ L, zv_wf n e.2) : ∀ e ∈ zx_put L i z, zv_wf n e.2 := by
  intro e he
  rcases List.mem_cons.mp he with e' | e'
  · rw [e']; exact hz
  · exact hL e (List.mem_filter.mp e').1
theorem zx_put_ok {ro : Nat → Option Nat} {v : Nat → Int} {i : Nat} {x : Value} {z : zv_V} {L : List (Nat × zv_V)} {lv lv' : List (Nat × Value)} (hL : ∀ e ∈ L, ∃ x : Value, (e.1, x) ∈ lv ∧ zv_ok ro v x e.2) (hz : zv_ok ro v x z) (h2 : (i, x) ∈ lv') (h3 : ∀ j y, (j, y) ∈ lv → ¬ j = i → ¬ (j = i + 1 ∧ z.1 = 1) → ¬ (j + 1 = i ∧ y.category = 2) → (j, y) ∈ lv') :
    ∀ e ∈ zx_put L i z, ∃ x : Value, (e.1, x) ∈ lv' ∧ zv_ok ro v x e.2 := by
  intro e he
  rcases List.mem_cons.mp he with e' | e'
  · rw [e']; exact ⟨x, h2, hz⟩
  · obtain ⟨m1, m2⟩ := List.mem_filter.mp e'
    obtain ⟨y, y1, y2⟩ := hL e m1
    simp only [Bool.and_eq_true, Bool.not_eq_true', Bool.and_eq_false_iff] at m2
    obtain ⟨⟨m3, m4⟩, m5⟩ := m2
    refine ⟨y, h3 _ _ y1 (fun g => ?_) (fun g => ?_) (fun g => ?_), y2⟩
    · rw [g, Nat.beq_refl] at m3; cases m3
    · rw [g.1, g.2, Nat.beq_refl, Nat.beq_refl] at m4; rcases m4 with m | m <;> cases m
    · rw [g.1, Nat.beq_refl] at m5
      have c := zv_cat y2
      rw [g.2] at c
      by_cases k : e.2.1 = 1
      · rw [k, Nat.beq_refl] at m5; rcases m5 with m | m <;> cases m
      · rw [if_neg k] at c; cases c
theorem zk_kept_put {D : va_G} {RT : List zr_R} {ro : Nat → Option Nat} {ms : List (Nat × Nat)} {Hi H H' : Heap} {a r k ci n : Nat} {fs : List zt_T} {cell : Cell} {x : Value} (hD : zD_ok D RT) (hr : RT[r]? = some (0, ci, n, fs)) (hk : k < fs.length) (hm : (r, k) ∈ ms) (ha : ro a = some r) (hc : H[a]? = some cell) (e1 : H'[a]? = some (cell.setSlot (D.2 ci k) x)) (e3 : ∀ q, q ≠ a → H'[q]? = H[q]?) (h : zc_kept D RT ro ms Hi H) : zc_kept D RT ro ms Hi H' := by
  intro a' r' k' ci' n' fs' h1 h2 h3 h4
  rw [← h a' r' k' ci' n' fs' h1 h2 h3 h4]
  by_cases ea : a' = a
  · subst ea
    cases h1.symm.trans ha
    cases h2.symm.trans hr
    have hne : D.2 ci k ≠ D.2 ci k' := fun q => h4 (by rw [← hD r ci n fs hr k k' hk h3 q]; exact hm)
    simp only [zh_f, e1, hc, slot_ne _ _ hne]
  · simp only [zh_f, e3 a' ea]
theorem zk_kept_arr {D : va_G} {RT : List zr_R} {ro : Nat → Option Nat} {ms : List (Nat × Nat)} {Hi H H' : Heap} {a r kd ti n : Nat} {fs : List zt_T} (hr : RT[r]? = some (kd + 1, ti, n, fs)) (ha : ro a = some r) (e3 : ∀ q, q ≠ a → H'[q]? = H[q]?) (h : zc_kept D RT ro ms Hi H) : zc_kept D RT ro ms Hi H' := by
  intro a' r' k' ci' n' fs' h1 h2 h3 h4
  rw [← h a' r' k' ci' n' fs' h1 h2 h3 h4]
  have ea : a' ≠ a := fun q => by
    subst q
    cases h1.symm.trans ha
    cases h2.symm.trans hr
  simp only [zh_f, e3 a' ea]
/-- the field of a pool number: its slot -/
def zk_get (s : State) (m : MethodId) (args : Array Value) (D : va_G) (idx ci k : Nat) : Prop := ∃ (own ref name desc : String) (f : Field), Fd s m args own ref name desc idx f ∧ f.slot = D.2 ci k
def zk_put (s : State) (m : MethodId) (args : Array Value) (D : va_G) (ro : Nat → Option Nat) (idx ci k : Nat) (t : zt_T) : Prop := ∃ (own ref name desc : String) (f : Field), Fd s m args own ref name desc idx f ∧ f.slot = D.2 ci k ∧ ∀ x : Value, zt_ok ro x t → k2_Sd s f (D.1 ci) x
section ZO
variable {p : Program} {l : Launch} {e : Env} {R : Room} {s : State} {m : MethodId} {args : Array Value} {below : List Frame} {meth : Method} {c : Code} {cells slots : Nat} {Q : State → Prop} {cc : ByteArray}
variable {D : va_G} {cA : Nat → ClassId} {RT : List zr_R} {ro : Nat → Option Nat} {sz : Nat} {H0 : Heap} {Ga : List Int} {nL : Nat} {ms : List (Nat × Nat)} {pc : Nat} {q : zs_S} {S : List zv_V} {fa fb : zl_F}
theorem zm_iinc (hx : p.tables.exec = Jvm.exec) (hb : c.code = cc) {i : Nat} {n : Int} {f : zl_F} (hz : zx_get q.2.2.1 i = some (0, f)) (h1 : -128 ≤ n) (h2 : n ≤ 127) (hn : i < nL) (hd : decode cc pc = .ok (.iinc i n, 3)) (K : zw D cA RT ro sz H0 Ga nL (zk_G p l e R s m args below meth c cells slots Q D RT ro ms) (pc + 3) (zx_ii i n f q)) : zw D cA RT ro sz H0 Ga nL (zk_G p l e R s m args below meth c cells slots Q D RT ro ms) pc q :=
  by
  intro hw v H locs ls st h hh hk
  have hm := zx_get_mem hz
  obtain ⟨hB, hC, ⟨lv, hlv, hL⟩, hst, hF⟩ := id h
  obtain ⟨x0, hx0, hok⟩ := hL _ hm
  obtain ⟨x, rfl, ex⟩ := hok
  have wf := hw.2.1 _ hm
  dsimp only at ex wf
  obtain ⟨j, hj⟩ := List.mem_iff_getElem?.mp hx0
  refine lv_iinc (k := j) hx hb hd hlv hj rfl hn rfl (fun ls' h' => ?_)
  have hin : (i, Value.int (x + Int32.ofInt n)) ∈ (i, Value.int (x + Int32.ofInt n)) :: lv.filter (fun q => !(q.1 == i) && !(q.1 + 1 == i && q.2.category == 2)) := List.mem_cons_self
  unfold zx_ii at K
  split at K
  · rename_i hi
    have g := zx_in_ok h hi
    rw [zl_add_at, zl_k_at] at g
    have e1 : (x + Int32.ofInt n).toInt = zl_at v (zl_add f (zl_k n)) := by
      rw [zl_add_at, zl_k_at, zn_add (by rw [zn_ib h1 h2]; omega) (by rw [zn_ib h1 h2]; omega), zn_ib h1 h2, ex]
    exact K ⟨hw.1, zx_put_wf (zl_add_wf wf zl_k_wf) hw.2.1, hw.2.2.1, hw.2.2.2⟩ v H locs ls' st ⟨hB, hC, ⟨_, h', zx_put_ok (z := (0, zl_add f (zl_k n))) hL ⟨_, rfl, e1⟩ hin (zm_keep1 (show (0 : Nat) ≠ 1 by decide))⟩, hst, hF⟩ hh hk
  · have hnw := zs_new_wf (lo := -2147483648) (hi := 2147483647) hw
    have hno := zs_new_ok hw h (Or.inr (zn_i32 (x + Int32.ofInt n)))
    obtain ⟨kB, kC, ⟨lv2, hlv2, kL⟩, kst, kF⟩ := hno
    have el : (zs_new q (-2147483648) 2147483647).1.length = q.1.length + 1 := by simp [zs_new]
    have hL2 : ∀ e ∈ q.2.2.1, ∃ y : Value, (e.1, y) ∈ lv ∧ zv_ok ro (zl_up v q.1.length (x + Int32.ofInt n).toInt) y e.2 := fun e he => by
      obtain ⟨y, y1, y2⟩ := hL e he
      exact ⟨y, y1, zv_ok.up (hw.2.1 e he) y2⟩
    refine K ⟨hnw.1, zx_put_wf ?_ hnw.2.1, hnw.2.2.1, hnw.2.2.2⟩ (zl_up v q.1.length (x + Int32.ofInt n).toInt) H locs ls' st ⟨kB, kC, ⟨_, h', zx_put_ok (z := (0, zl_id q.1.length)) hL2 ⟨_, rfl, ?_⟩ hin (zm_keep1 (show (0 : Nat) ≠ 1 by decide))⟩, kst, kF⟩ hh hk
    · show zl_wf (zs_new q (-2147483648) 2147483647).1.length (zl_id q.1.length)
      exact zl_id_wf (by omega)
    · rw [zl_id_at]; simp [zl_up]

theorem zm_ifnull (hx : p.tables.exec = Jvm.exec) (hb : c.code = cc) {off : Int} {tgt r : Nat} {f : zl_F} (hS : q.2.2.2.1 = (5 + 2 * r, f) :: S) (ht : (pc : Int) + off = (tgt : Int)) (hd : decode cc pc = .ok (.ifnull off, 3)) (Kn : zw D cA RT ro sz H0 Ga nL (zk_G p l e R s m args below meth c cells slots Q D RT ro ms) tgt (zq_S q S)) (Kr : zw D cA RT ro sz H0 Ga nL (zk_G p l e R s m args below meth c cells slots Q D RT ro ms) (pc + 3) (zx_nN r f q S)) : zw D cA RT ro sz H0 Ga nL (zk_G p l e R s m args below meth c cells slots Q D RT ro ms) pc q :=
  zi_nul hS (fun _ _ _ _ k hk => lv_ifnullN hx hb hd ht (k hk)) (fun _ _ _ _ _ k hk => lv_ifnull hx hb hd (k hk)) Kn Kr

theorem zm_ifnonnull (hx : p.tables.exec = Jvm.exec) (hb : c.code = cc) {off : Int} {tgt r : Nat} {f : zl_F} (hS : q.2.2.2.1 = (5 + 2 * r, f) :: S) (ht : (pc : Int) + off = (tgt : Int)) (hd : decode cc pc = .ok (.ifnonnull off, 3)) (Kn : zw D cA RT ro sz H0 Ga nL (zk_G p l e R s m args below meth c cells slots Q D RT ro ms) (pc + 3) (zq_S q S)) (Kr : zw D cA RT ro sz H0 Ga nL (zk_G p l e R s m args below meth c cells slots Q D RT ro ms) tgt (zx_nN r f q S)) : zw D cA RT ro sz H0 Ga nL (zk_G p l e R s m args below meth c cells slots Q D RT ro ms) pc q :=
  zi_nul hS (fun _ _ _ _ k hk => lv_ifnonnullN hx hb hd (k hk)) (fun _ _ _ _ _ k hk => lv_ifnonnull hx hb hd ht (k hk)) Kn Kr

theorem zm_tsw (hx : p.tables.exec = Jvm.exec) (hb : c.code = cc) {dflt lo hi : Int} {offs : Array Int} {len tg : Nat} {f : zl_F} (hS : q.2.2.2.1 = (0, f) :: S) (ho : (offs.size : Int) = hi - lo + 1) (ht : (pc : Int) + dflt = (tg : Int)) (hd : decode cc pc = .ok (.tableswitch dflt lo hi offs, len)) (Kl : zw D cA RT ro sz H0 Ga nL (zk_G p l e R s m args below meth c cells slots Q D RT ro ms) tg (zx_as (zq_S q S) (zl_sub f (zl_k (lo - 1))))) (Kh : zw D cA RT ro sz H0 Ga nL (zk_G p l e R s m args below meth c cells slots Q D RT ro ms) tg (zx_as (zq_S q S) (zl_sub (zl_k (hi + 1)) f))) (K : ∀ j : Nat, j < offs.size → ∃ tj : Nat, ∀ o, offs[j]? = some o → (pc : Int) + o = (tj : Int) ∧ zw D cA RT ro sz H0 Ga nL (zk_G p l e R s m args below meth c cells slots Q D RT ro ms) tj (zx_br .eq true (zq_S q S) (zl_sub f (zl_k (lo + j))))) : zw D cA RT ro sz H0 Ga nL (zk_G p l e R s m args below meth c cells slots Q D RT ro ms) pc q :=
  by
  intro hw v H locs ls st h hh hk
  have hst := h.2.2.2.1
  rw [hS] at hst
  match st, hst with
  | x :: st, hst =>
    have wS : ∀ z ∈ S, zv_wf q.1.length z := fun z hz => hw.2.2.1 z (by rw [hS]; exact List.mem_cons_of_mem _ hz)
    have wz : zl_wf q.1.length f := hw.2.2.1 (0, f) (by rw [hS]; exact List.mem_cons_self)
    have hq := zq_S_ok h hst.2
    have hqw := zq_S_wf hw wS
    obtain ⟨y, rfl, ey⟩ := hst.1
    dsimp only at ey
    by_cases h1 : y.toInt < lo
    · exact lv_tableOut hx hb hd (Or.inl h1) ht (Kl (zx_as_wf hqw (zl_sub_wf wz zl_k_wf)) v H locs ls st (zx_as_ok hq (by rw [zl_sub_at, zl_k_at]; omega)) hh hk)
    · by_cases h2 : hi < y.toInt
      · exact lv_tableOut hx hb hd (Or.inr h2) ht (Kh (zx_as_wf hqw (zl_sub_wf zl_k_wf wz)) v H locs ls st (zx_as_ok hq (by rw [zl_sub_at, zl_k_at]; omega)) hh hk)
      · have hj : (y.toInt - lo).toNat < offs.size := by omega
        obtain ⟨tj, htj⟩ := K _ hj
        obtain ⟨g1, g2⟩ := htj offs[(y.toInt - lo).toNat] (Array.getElem?_eq_getElem hj)
        refine lv_tableIn hx hb hd h1 h2 (Array.getElem?_eq_getElem hj) g1 (g2 (zx_br_wf _ _ hqw (zl_sub_wf wz zl_k_wf)) v H locs ls st (zx_br_ok _ _ hq ⟨fun _ => ?_, fun _ => rfl⟩) hh hk)
        show zl_at v (zl_sub f (zl_k (lo + ((y.toInt - lo).toNat : Nat)))) = 0
        rw [zl_sub_at, zl_k_at]; omega

theorem zm_getf (hx : p.tables.exec = Jvm.exec) (hb : c.code = cc) {idx r k ci n i : Nat} {fs : List zt_T} {t : zt_T} {f : zl_F} (hS : q.2.2.2.1 = (4 + 2 * r, f) :: S) (hi : zx_un f = some i) (hr : RT[r]? = some (0, ci, n, fs)) (hk0 : fs[k]? = some t) (h2 : t.1 ≠ 2) (h3 : t.1 ≠ 3) (hg : zk_get s m args D idx ci k) (hd : decode cc pc = .ok (.getfield idx, 3)) (K : zw D cA RT ro sz H0 Ga nL (zk_G p l e R s m args below meth c cells slots Q D RT ro ms) (pc + 3) (zx_gf r k t q i S)) : zw D cA RT ro sz H0 Ga nL (zk_G p l e R s m args below meth c cells slots Q D RT ro ms) pc q :=
  zi_getf hS hi hr hk0 h2 h3 (fun H locs ls st a x cell c1 c2 c3 c4 k hk => by
    obtain ⟨own, ref, name, desc, f, ⟨f1, f2, ⟨cf, kf, i, f3⟩, f4⟩, f5⟩ := hg
    exact W.getf hx hb f1 f2 f3 f4 c1 (by rw [c3]; exact fun h => by cases h) (by rw [f5]; exact c4) rfl rfl hd (k hk)) K

theorem zm_putf (hx : p.tables.exec = Jvm.exec) (hb : c.code = cc) {idx r k ci n i : Nat} {fs : List zt_T} {t : zt_T} {f : zl_F} {z : zv_V} (hS : q.2.2.2.1 = z :: (4 + 2 * r, f) :: S) (hi : zx_un f = some i) (hr : RT[r]? = some (0, ci, n, fs)) (hk0 : fs[k]? = some t) (hD : zD_ok D RT) (ht : zx_ty q z t = true) (hm : (r, k) ∈ ms) (hg : zk_put s m args D ro idx ci k t) (hd : decode cc pc = .ok (.putfield idx, 3)) (K : zw D cA RT ro sz H0 Ga nL (zk_G p l e R s m args below meth c cells slots Q D RT ro ms) (pc + 3) (zx_pf r k q i z S)) : zw D cA RT ro sz H0 Ga nL (zk_G p l e R s m args below meth c cells slots Q D RT ro ms) pc q :=
  zi_putf hS hi hr hk0 hD ht (fun H locs ls st a x cell y ha hx0 c1 c2 c3 c4 kk hk => by
    obtain ⟨own, ref, name, desc, f, f1, f5, f6⟩ := hg
    refine W.putK hx hb f1 (by rw [c2]; exact f6 x hx0) c1 c3 (by rw [f5]; exact (Array.getElem?_eq_some_iff.mp c4).1) rfl rfl hd (fun H' e1 e2 e3 => ?_)
    rw [f5] at e1 ⊢
    exact kk H' e1 e2 e3 (zk_kept_put hD hr (List.getElem?_eq_some_iff.mp hk0).1 hm ha c1 e1 e3 hk)) K

theorem zm_alen (hx : p.tables.exec = Jvm.exec) (hb : c.code = cc) {r kd ti n : Nat} {t : zt_T} {f : zl_F} {ty : FieldType} (hA : ArrOfT s (cA ti) ty) (hS : q.2.2.2.1 = (4 + 2 * r, f) :: S) (hr : RT[r]? = some (kd + 1, ti, n, [t])) (hn : n < 2147483648) (hd : decode cc pc = .ok (.arraylength, 1)) (K : zw D cA RT ro sz H0 Ga nL (zk_G p l e R s m args below meth c cells slots Q D RT ro ms) (pc + 1) (zq_S q ((0, zl_k n) :: S))) : zw D cA RT ro sz H0 Ga nL (zk_G p l e R s m args below meth c cells slots Q D RT ro ms) pc q :=
  zi_alen hS hr hn (fun H locs ls st a z c1 k hk => W.alen (n := nI n) hx hb c1 (hA n z) (by rw [arrV_size]; rfl) rfl rfl hd (k hk)) K

theorem zm_iald (hx : p.tables.exec = Jvm.exec) (hb : c.code = cc) {r kd ti n : Nat} {t : zt_T} {f g : zl_F} (hA : ArrOfT s (cA ti) .int) (hS : q.2.2.2.1 = (0, g) :: (4 + 2 * r, f) :: S) (hr : RT[r]? = some (kd + 1, ti, n, [t])) (hin : zx_in q 0 ((n : Int) - 1) g = true) (h2 : t.1 ≠ 2) (h3 : t.1 ≠ 3) (hd : decode cc pc = .ok (.iaload, 1)) (K : zw D cA RT ro sz H0 Ga nL (zk_G p l e R s m args below meth c cells slots Q D RT ro ms) (pc + 1) (zx_ft t q S)) : zw D cA RT ro sz H0 Ga nL (zk_G p l e R s m args below meth c cells slots Q D RT ro ms) pc q :=
  zi_ald hS hr hin h2 h3 (fun H locs ls st a z j hv _ c1 k hk => W.iald hx hb c1 (hA n z) (fun h => by cases h) (by rw [arrV_size]; exact hv) (arrV_read _ _ (Nat.not_le.mp fun q => hv (Or.inr q))) rfl rfl hd (k hk)) K

theorem zm_lald (hx : p.tables.exec = Jvm.exec) (hb : c.code = cc) {r kd ti n : Nat} {t : zt_T} {f g : zl_F} (hA : ArrOfT s (cA ti) .long) (hS : q.2.2.2.1 = (0, g) :: (4 + 2 * r, f) :: S) (hr : RT[r]? = some (kd + 1, ti, n, [t])) (hin : zx_in q 0 ((n : Int) - 1) g = true) (h2 : t.1 ≠ 2) (h3 : t.1 ≠ 3) (hd : decode cc pc = .ok (.laload, 1)) (K : zw D cA RT ro sz H0 Ga nL (zk_G p l e R s m args below meth c cells slots Q D RT ro ms) (pc + 1) (zx_ft t q S)) : zw D cA RT ro sz H0 Ga nL (zk_G p l e R s m args below meth c cells slots Q D RT ro ms) pc q :=
  zi_ald hS hr hin h2 h3 (fun H locs ls st a z j hv _ c1 k hk => W.lald hx hb c1 (hA n z) (fun h => by cases h) (by rw [arrV_size]; exact hv) (arrV_read _ _ (Nat.not_le.mp fun q => hv (Or.inr q))) rfl rfl hd (k hk)) K

theorem zm_bald (hx : p.tables.exec = Jvm.exec) (hb : c.code = cc) {r kd ti n : Nat} {t : zt_T} {f g : zl_F} (hA : ArrOfT s (cA ti) .byte) (hS : q.2.2.2.1 = (0, g) :: (4 + 2 * r, f) :: S) (hr : RT[r]? = some (kd + 1, ti, n, [t])) (hin : zx_in q 0 ((n : Int) - 1) g = true) (h2 : t.1 ≠ 2) (h3 : t.1 ≠ 3) (hd : decode cc pc = .ok (.baload, 1)) (K : zw D cA RT ro sz H0 Ga nL (zk_G p l e R s m args below meth c cells slots Q D RT ro ms) (pc + 1) (zx_ft t q S)) : zw D cA RT ro sz H0 Ga nL (zk_G p l e R s m args below meth c cells slots Q D RT ro ms) pc q :=
  zi_ald hS hr hin h2 h3 (fun H locs ls st a z j hv _ c1 k hk => W.bald hx hb c1 (hA n z) (fun h => by cases h) (by rw [arrV_size]; exact hv) (arrV_read _ _ (Nat.not_le.mp fun q => hv (Or.inr q))) rfl rfl hd (k hk)) K

theorem zm_cald (hx : p.tables.exec = Jvm.exec) (hb : c.code = cc) {r kd ti n : Nat} {t : zt_T} {f g : zl_F} (hA : ArrOfT s (cA ti) .char) (hS : q.2.2.2.1 = (0, g) :: (4 + 2 * r, f) :: S) (hr : RT[r]? = some (kd + 1, ti, n, [t])) (hin : zx_in q 0 ((n : Int) - 1) g = true) (h2 : t.1 ≠ 2) (h3 : t.1 ≠ 3) (hd : decode cc pc = .ok (.caload, 1)) (K : zw D cA RT ro sz H0 Ga nL (zk_G p l e R s m args below meth c cells slots Q D RT ro ms) (pc + 1) (zx_ft t q S)) : zw D cA RT ro sz H0 Ga nL (zk_G p l e R s m args below meth c cells slots Q D RT ro ms) pc q :=
  zi_ald hS hr hin h2 h3 (fun H locs ls st a z j hv _ c1 k hk => W.cald hx hb c1 (hA n z) (fun h => by cases h) (by rw [arrV_size]; exact hv) (arrV_read _ _ (Nat.not_le.mp fun q => hv (Or.inr q))) rfl rfl hd (k hk)) K

theorem zm_aald (hx : p.tables.exec = Jvm.exec) (hb : c.code = cc) {r kd ti n : Nat} {t : zt_T} {f g : zl_F} {ty : FieldType} (hA : ArrOfT s (cA ti) ty) (hty : ty.isReference = true) (hS : q.2.2.2.1 = (0, g) :: (4 + 2 * r, f) :: S) (hr : RT[r]? = some (kd + 1, ti, n, [t])) (hin : zx_in q 0 ((n : Int) - 1) g = true) (h2 : t.1 ≠ 2) (h3 : t.1 ≠ 3) (hd : decode cc pc = .ok (.aaload, 1)) (K : zw D cA RT ro sz H0 Ga nL (zk_G p l e R s m args below meth c cells slots Q D RT ro ms) (pc + 1) (zx_ft t q S)) : zw D cA RT ro sz H0 Ga nL (zk_G p l e R s m args below meth c cells slots Q D RT ro ms) pc q :=
  zi_ald hS hr hin h2 h3 (fun H locs ls st a z j hv _ c1 k hk => W.aald hx hb c1 (hA n z) hty (fun h => by cases h) (by rw [arrV_size]; exact hv) (arrV_read _ _ (Nat.not_le.mp fun q => hv (Or.inr q))) rfl rfl hd (k hk)) K

theorem zm_iast (hx : p.tables.exec = Jvm.exec) (hb : c.code = cc) {r ti n : Nat} {lo hi : Int} {f g : zl_F} {zx : zv_V} (hA : ArrOfT s (cA ti) .int) (hS : q.2.2.2.1 = zx :: (0, g) :: (4 + 2 * r, f) :: S) (hr : RT[r]? = some (1, ti, n, [(0, lo, hi)])) (hin : zx_in q 0 ((n : Int) - 1) g = true) (ht : zx_ty q zx (0, lo, hi) = true) (hd : decode cc pc = .ok (.iastore, 1)) (K : zw D cA RT ro sz H0 Ga nL (zk_G p l e R s m args below meth c cells slots Q D RT ro ms) (pc + 1) (zq_S q S)) : zw D cA RT ro sz H0 Ga nL (zk_G p l e R s m args below meth c cells slots Q D RT ro ms) pc q :=
  zi_ast hS hr hin ht (fun H locs ls st a z j x ha hv hx0 c1 kk hk => by
    obtain ⟨y, rfl, -, -⟩ := hx0
    refine W.iast hx hb c1 (hA n z) (fun h => by cases h) (by rw [arrV_size]; exact hv) rfl rfl hd (fun H' e1 e2 e3 => ?_)
    rw [arrV_store] at e1
    exact kk H' e1 e2 e3 (zk_kept_arr hr ha e3 hk)) K

theorem zm_last (hx : p.tables.exec = Jvm.exec) (hb : c.code = cc) {r ti n : Nat} {lo hi : Int} {f g : zl_F} {zx : zv_V} (hA : ArrOfT s (cA ti) .long) (hS : q.2.2.2.1 = zx :: (0, g) :: (4 + 2 * r, f) :: S) (hr : RT[r]? = some (1, ti, n, [(1, lo, hi)])) (hin : zx_in q 0 ((n : Int) - 1) g = true) (ht : zx_ty q zx (1, lo, hi) = true) (hd : decode cc pc = .ok (.lastore, 1)) (K : zw D cA RT ro sz H0 Ga nL (zk_G p l e R s m args below meth c cells slots Q D RT ro ms) (pc + 1) (zq_S q S)) : zw D cA RT ro sz H0 Ga nL (zk_G p l e R s m args below meth c cells slots Q D RT ro ms) pc q :=
  zi_ast hS hr hin ht (fun H locs ls st a z j x ha hv hx0 c1 kk hk => by
    obtain ⟨y, rfl, -, -⟩ := hx0
    refine W.last hx hb c1 (hA n z) (fun h => by cases h) (by rw [arrV_size]; exact hv) rfl rfl hd (fun H' e1 e2 e3 => ?_)
    rw [arrV_store] at e1
    exact kk H' e1 e2 e3 (zk_kept_arr hr ha e3 hk)) K

theorem zm_bast (hx : p.tables.exec = Jvm.exec) (hb : c.code = cc) {r ti n : Nat} {lo hi : Int} {f g : zl_F} {zx : zv_V} (hA : ArrOfT s (cA ti) .byte) (hlo : -128 ≤ lo) (hhi : hi ≤ 127) (hS : q.2.2.2.1 = zx :: (0, g) :: (4 + 2 * r, f) :: S) (hr : RT[r]? = some (1, ti, n, [(0, lo, hi)])) (hin : zx_in q 0 ((n : Int) - 1) g = true) (ht : zx_ty q zx (0, lo, hi) = true) (hd : decode cc pc = .ok (.bastore, 1)) (K : zw D cA RT ro sz H0 Ga nL (zk_G p l e R s m args below meth c cells slots Q D RT ro ms) (pc + 1) (zq_S q S)) : zw D cA RT ro sz H0 Ga nL (zk_G p l e R s m args below meth c cells slots Q D RT ro ms) pc q :=
  zi_ast hS hr hin ht (fun H locs ls st a z j x ha hv hx0 c1 kk hk => by
    obtain ⟨y, rfl, y1, y2⟩ := hx0
    dsimp only at y1 y2
    have hnar : narrow .byte (.int y) = .int y := by
      rw [narrow_byte]
      exact congrArg Value.int (Int32.toInt_inj.mp (zn_ibx (by omega) (by omega)))
    refine W.bast hx hb c1 (hA n z) (fun h => by cases h) (by rw [arrV_size]; exact hv) rfl rfl hd (fun H' e1 e2 e3 => ?_)
    rw [hnar, arrV_store] at e1
    exact kk H' e1 e2 e3 (zk_kept_arr hr ha e3 hk)) K

theorem zm_ldc (hx : p.tables.exec = Jvm.exec) (hb : c.code = cc) {own : String} {idx : Nat} {x : Int32} {n : Int} (hown : s.vm.findClass own = some m.cls) (hc : (Jvm.Cond.constant own idx x).before args s = true) (hn : x.toInt = n) (hd : decode cc pc = .ok (.ldc idx, 2)) (K : zw D cA RT ro sz H0 Ga nL (zk_G p l e R s m args below meth c cells slots Q D RT ro ms) (pc + 2) (zq_S q ((0, zl_k n) :: q.2.2.2.1))) : zw D cA RT ro sz H0 Ga nL (zk_G p l e R s m args below meth c cells slots Q D RT ro ms) pc q :=
  zi_const (Or.inl ⟨rfl, x, rfl, hn⟩) (fun _ _ _ _ k hk => lv_ldc hx hb hown hc hd (k hk)) K

theorem zm_ldcw (hx : p.tables.exec = Jvm.exec) (hb : c.code = cc) {own : String} {idx : Nat} {x : Int32} {n : Int} (hown : s.vm.findClass own = some m.cls) (hc : (Jvm.Cond.constant own idx x).before args s = true) (hn : x.toInt = n) (hd : decode cc pc = .ok (.ldc_w idx, 3)) (K : zw D cA RT ro sz H0 Ga nL (zk_G p l e R s m args below meth c cells slots Q D RT ro ms) (pc + 3) (zq_S q ((0, zl_k n) :: q.2.2.2.1))) : zw D cA RT ro sz H0 Ga nL (zk_G p l e R s m args below meth c cells slots Q D RT ro ms) pc q :=
  zi_const (Or.inl ⟨rfl, x, rfl, hn⟩) (fun _ _ _ _ k hk => lv_ldcw hx hb hown hc hd (k hk)) K

theorem zm_ldc2 (hx : p.tables.exec = Jvm.exec) (hb : c.code = cc) {own : String} {idx : Nat} {x : Int64} {n : Int} (hown : s.vm.findClass own = some m.cls) (hc : (Jvm.Cond.constantLong own idx x).before args s = true) (hn : x.toInt = n) (hd : decode cc pc = .ok (.ldc2_w idx, 3)) (K : zw D cA RT ro sz H0 Ga nL (zk_G p l e R s m args below meth c cells slots Q D RT ro ms) (pc + 3) (zq_S q ((1, zl_k n) :: q.2.2.2.1))) : zw D cA RT ro sz H0 Ga nL (zk_G p l e R s m args below meth c cells slots Q D RT ro ms) pc q :=
  zi_const (Or.inr ⟨rfl, x, rfl, hn⟩) (fun _ _ _ _ k hk => lv_ldc2 hx hb hown hc hd (k hk)) K

/-- a value of type t is pushed -/
theorem zm_push {pc' : Nat} {t : zt_T} (h2 : t.1 ≠ 2) (h3 : t.1 ≠ 3) (row : ∀ H locs ls st, zh_ok D cA RT ro sz H0 H locs → ∃ x, zt_ok ro x t ∧ (W p l e R s m args below meth c H locs cells slots Q (F0 m pc' ls (x :: st)) → W p l e R s m args below meth c H locs cells slots Q (F0 m pc ls st))) (K : zw D cA RT ro sz H0 Ga nL (zk_G p l e R s m args below meth c cells slots Q D RT ro ms) pc' (zx_ft t q q.2.2.2.1)) : zw D cA RT ro sz H0 Ga nL (zk_G p l e R s m args below meth c cells slots Q D RT ro ms) pc q := by
  intro hw v H locs ls st h hh hk
  obtain ⟨x, h4, h5⟩ := row H locs ls st hh
  obtain ⟨z, h6⟩ := zx_ft_ok (t := t) hw hw.2.2.1 h h.2.2.2.1 h4 h2 h3
  exact h5 (K (zx_ft_wf hw hw.2.2.1) _ H locs ls _ h6 hh hk)
end ZO
end
section
/-! the checker. Its tables: locals, roles, fields by pool number (role, field), ints and longs of the pool, statics, calls (4 times the pool number, 1 more of invokevirtual, 2 of invokespecial), fields that may change, places where the method leaves otherwise -/
abbrev zk_K : Type := Nat × List zr_R × List (Nat × Nat × Nat) × List (Nat × Int) × List (Nat × Int) × List (Nat × zt_T) × List (Nat × zc_C) × List (Nat × Nat) × List Nat
def zk_a {α : Type} : List (Nat × α) → Nat → Option α
  | [], _ => none
  | e :: t, i => match Nat.beq e.1 i with
    | true => some e.2
    | false => zk_a t i
theorem zk_a_mem {α : Type} {L : List (Nat × α)} {i : Nat} {x : α} (h : zk_a L i = some x) : (i, x) ∈ L := by
  induction L with
  | nil => cases h
  | cons e t ih =>
    unfold zk_a at h
    split at h
    · rename_i he
      have he := Nat.eq_of_beq_eq_true he
      obtain ⟨a, b⟩ := e
      cases h
      subst he
      exact List.mem_cons_self
    · exact List.mem_cons_of_mem _ (ih h)
def zk_t (pc : Nat) (off : Int) : Option Nat := match (pc : Int) + off with
  | .ofNat t => some t
  | .negSucc _ => none
theorem zk_t_ok {pc t : Nat} {off : Int} (h : zk_t pc off = some t) : (pc : Int) + off = (t : Int) := by
  unfold zk_t at h
  split at h
  · rename_i k hk
    cases h
    exact hk
  · cases h
def zk_tc (pc : Nat) (lo : Int) (q : zs_S) (f : zl_F) : Nat → List Int → Option (List (Nat × zs_S))
  | _, [] => some []
  | j, o :: t => match zk_t pc o, zk_tc pc lo q f (j + 1) t with
    | some tj, some r => some ((tj, zx_br .eq true q (zl_sub f (zl_k (lo + j)))) :: r)
    | _, _ => none
def zk_al (c : zc_C) (q : zs_S) (w : List zv_V × List zv_V × List zv_V) (pc : Nat) : List zc_A → Option (List (Nat × zs_S))
  | [] => some []
  | al :: t => match zx_ca c al q w, zk_al c q w pc t with
    | some q', some r => some ((pc, q') :: r)
    | _, _ => none
def zk_cl (K : zk_K) (idx pc : Nat) (q : zs_S) : Option (List (Nat × zs_S)) := match zk_a K.2.2.2.2.2.2.1 idx with
  | some c => (match zx_cp c q, zx_pk K.2.1 c.2.2.2.2.1 && c.2.2.2.1.all (fun x => K.2.2.2.2.2.2.2.1.any (fun y => Nat.beq x.1 y.1 && Nat.beq x.2 y.2)) with
    | some w, true => zk_al c q w (pc + 3) c.2.2.2.2.2
    | _, _ => none)
  | none => none
def zk_gf (K : zk_K) (idx pc : Nat) (q : zs_S) : Option (List (Nat × zs_S)) := match q.2.2.2.1, zk_a K.2.2.1 idx with
  | (kz, f) :: S, some (r, k) => (match K.2.1[r]?, zx_un f, Nat.beq kz (4 + 2 * r) with
    | some (0, _, _, fs), some i, true => (match fs[k]? with
      | some t => (match Nat.beq t.1 2 || Nat.beq t.1 3 with
        | false => some [(pc + 3, zx_gf r k t q i S)]
        | true => none)
      | none => none)
    | _, _, _ => none)
  | _, _ => none
def zk_pf (K : zk_K) (idx pc : Nat) (q : zs_S) : Option (List (Nat × zs_S)) := match q.2.2.2.1, zk_a K.2.2.1 idx with
  | z :: (kz, f) :: S, some (r, k) => (match K.2.1[r]?, zx_un f, Nat.beq kz (4 + 2 * r) && K.2.2.2.2.2.2.2.1.any (fun y => Nat.beq r y.1 && Nat.beq k y.2) with
    | some (0, _, _, fs), some i, true => (match fs[k]? with
      | some t => (match zx_ty q z t with
        | true => some [(pc + 3, zx_pf r k q i z S)]
        | false => none)
      | none => none)
    | _, _, _ => none)
  | _, _ => none
/-- the classes of the arrays: 0 int, 1 long, 2 byte, 3 char, else of references -/
def zk_ald (K : zk_K) (ty : Nat) (pc : Nat) (q : zs_S) : Option (List (Nat × zs_S)) := match q.2.2.2.1 with
  | (0, g) :: (kz, _) :: S => (match K.2.1[(kz - 4) / 2]?, Nat.beq kz (4 + 2 * ((kz - 4) / 2)) with
    | some (_ + 1, ti, n, [t]), true => (match Nat.beq ti ty && zx_in q 0 ((n : Int) - 1) g && !(Nat.beq t.1 2 || Nat.beq t.1 3) with
      | true => some [(pc + 1, zx_ft t q S)]
      | false => none)
    | _, _ => none)
  | _ => none
def zk_ast (K : zk_K) (ty kd : Nat) (pc : Nat) (q : zs_S) : Option (List (Nat × zs_S)) := match q.2.2.2.1 with
  | zx :: (0, g) :: (kz, _) :: S => (match K.2.1[(kz - 4) / 2]?, Nat.beq kz (4 + 2 * ((kz - 4) / 2)) with
    | some (1, ti, n, [(kt, lo, hi)]), true => (match Nat.beq ti ty && Nat.beq kt kd && zx_in q 0 ((n : Int) - 1) g && zx_ty q zx (kt, lo, hi) && (Nat.blt ty 2 || (decide (-128 ≤ lo) && decide (hi ≤ 127))) with
      | true => some [(pc + 1, zq_S q S)]
      | false => none)
    | _, _ => none)
  | _ => none
def zk_al0 (K : zk_K) (pc : Nat) (q : zs_S) : Option (List (Nat × zs_S)) := match q.2.2.2.1 with
  | (kz, _) :: S => (match K.2.1[(kz - 4) / 2]?, Nat.beq kz (4 + 2 * ((kz - 4) / 2)) with
    | some (_ + 1, ti, n, [_]), true => (match Nat.blt n 2147483648 && Nat.blt ti 5 with
      | true => some [(pc + 1, zq_S q ((0, zl_k n) :: S))]
      | false => none)
    | _, _ => none)
  | _ => none
def zk_ref (z : zv_V) : Bool := Nat.beq z.1 2 || Nat.ble 4 z.1
def zk_ldr (q : zs_S) (i pc : Nat) : Option (List (Nat × zs_S)) := match zx_get q.2.2.1 i with
  | some z => (match zk_ref z with
    | true => some [(pc, zq_S q (z :: q.2.2.2.1))]
    | false => none)
  | none => none
def zk_ldn (q : zs_S) (k i pc : Nat) : Option (List (Nat × zs_S)) := match zx_get q.2.2.1 i with
  | some z => (match Nat.beq z.1 k with
    | true => some [(pc, zq_S q ((k, z.2) :: q.2.2.2.1))]
    | false => none)
  | none => none
def zk_str (K : zk_K) (q : zs_S) (i pc : Nat) : Option (List (Nat × zs_S)) := match q.2.2.2.1 with
  | z :: S => (match zk_ref z && Nat.blt i K.1 with
    | true => some [(pc, zq_LS q (zx_put q.2.2.1 i z) S)]
    | false => none)
  | [] => none
def zk_stn (K : zk_K) (q : zs_S) (k i pc : Nat) : Option (List (Nat × zs_S)) := match q.2.2.2.1 with
  | z :: S => (match Nat.beq z.1 k && Nat.blt (i + k) K.1 with
    | true => some [(pc, zq_LS q (zx_put q.2.2.1 i (k, z.2)) S)]
    | false => none)
  | [] => none
def zk_b1 (n : Int) (lo hi : Int) : Bool := decide (lo ≤ n) && decide (n ≤ hi)
/-- one step: where the machine goes, and with what -/
def zk_s (K : zk_K) (i : Instr) (len pc : Nat) (q : zs_S) : Option (List (Nat × zs_S)) := match i with
  | .iconst n => (match zk_b1 n (-128) 127 with
    | true => some [(pc + 1, zq_S q ((0, zl_k n) :: q.2.2.2.1))]
    | false => none)
  | .bipush n => (match zk_b1 n (-128) 127 with
    | true => some [(pc + 2, zq_S q ((0, zl_k n) :: q.2.2.2.1))]
    | false => none)
  | .sipush n => (match zk_b1 n (-32768) 32767 with
    | true => some [(pc + 3, zq_S q ((0, zl_k n) :: q.2.2.2.1))]
    | false => none)
  | .lconst n => some [(pc + 1, zq_S q ((1, zl_k (n.val : Int)) :: q.2.2.2.1))]
  | .aconst_null => some [(pc + 1, zq_S q ((2, zl_k (-1)) :: q.2.2.2.1))]
  | .iload i => zk_ldn q 0 i (pc + 2)
  | .iload_n i => zk_ldn q 0 i.val (pc + 1)
  | .lload i => zk_ldn q 1 i (pc + 2)
  | .lload_n i => zk_ldn q 1 i.val (pc + 1)
  | .aload i => zk_ldr q i (pc + 2)
  | .aload_n i => zk_ldr q i.val (pc + 1)
  | .istore i => zk_stn K q 0 i (pc + 2)
  | .istore_n i => zk_stn K q 0 i.val (pc + 1)
  | .lstore i => zk_stn K q 1 i (pc + 2)
  | .lstore_n i => zk_stn K q 1 i.val (pc + 1)
  | .astore i => zk_str K q i (pc + 2)
  | .astore_n i => zk_str K q i.val (pc + 1)
  | .iadd => (match q.2.2.2.1 with
    | (0, fb) :: (0, fa) :: S => some [(pc + 1, zx_pu 0 (-2147483648) 2147483647 q S (zl_add fa fb))]
    | _ => none)
  | .isub => (match q.2.2.2.1 with
    | (0, fb) :: (0, fa) :: S => some [(pc + 1, zx_pu 0 (-2147483648) 2147483647 q S (zl_sub fa fb))]
    | _ => none)
  | .ladd => (match q.2.2.2.1 with
    | (1, fb) :: (1, fa) :: S => some [(pc + 1, zx_pu 1 (-9223372036854775808) 9223372036854775807 q S (zl_add fa fb))]
    | _ => none)
  | .lsub => (match q.2.2.2.1 with
    | (1, fb) :: (1, fa) :: S => some [(pc + 1, zx_pu 1 (-9223372036854775808) 9223372036854775807 q S (zl_sub fa fb))]
    | _ => none)
  | .imul => (match q.2.2.2.1 with
    | (0, fb) :: (0, ([], n)) :: S => some [(pc + 1, zx_pu 0 (-2147483648) 2147483647 q S (zl_mul n fb))]
    | (0, ([], n)) :: (0, fa) :: S => some [(pc + 1, zx_pu 0 (-2147483648) 2147483647 q S (zl_mul n fa))]
    | (0, _) :: (0, _) :: S => some [(pc + 1, zx_fR 0 (-2147483648) 2147483647 q S [])]
    | _ => none)
  | .lmul => (match q.2.2.2.1 with
    | (1, fb) :: (1, ([], n)) :: S => some [(pc + 1, zx_pu 1 (-9223372036854775808) 9223372036854775807 q S (zl_mul n fb))]
    | (1, ([], n)) :: (1, fa) :: S => some [(pc + 1, zx_pu 1 (-9223372036854775808) 9223372036854775807 q S (zl_mul n fa))]
    | (1, _) :: (1, _) :: S => some [(pc + 1, zx_fR 1 (-9223372036854775808) 9223372036854775807 q S [])]
    | _ => none)
  | .idiv => (match q.2.2.2.1 with
    | (0, ([], n)) :: (0, fa) :: S => (match decide (0 < n) with
      | true => some [(pc + 1, zx_fR 0 (-2147483648) 2147483647 q S (zx_dR n fa q.1.length (zx_ps q fa)))]
      | false => none)
    | (0, fb) :: (0, _) :: S => (match zl_le q.1 q.2.1 (zl_sub (zl_k 1) fb) with
      | true => some [(pc + 1, zx_fR 0 (-2147483648) 2147483647 q S [])]
      | false => none)
    | _ => none)
  | .ldiv => (match q.2.2.2.1 with
    | (1, ([], n)) :: (1, fa) :: S => (match decide (0 < n) with
      | true => some [(pc + 1, zx_fR 1 (-9223372036854775808) 9223372036854775807 q S (zx_dR n fa q.1.length (zx_ps q fa)))]
      | false => none)
    | (1, fb) :: (1, _) :: S => (match zl_le q.1 q.2.1 (zl_sub (zl_k 1) fb) with
      | true => some [(pc + 1, zx_fR 1 (-9223372036854775808) 9223372036854775807 q S [])]
      | false => none)
    | _ => none)
  | .irem => (match q.2.2.2.1 with
    | (0, ([], n)) :: (0, fa) :: S => (match decide (0 < n), zx_ps q fa with
      | true, true => some [(pc + 1, zx_fR 0 0 (n - 1) q S [zl_sub (zl_id q.1.length) fa])]
      | true, false => some [(pc + 1, zx_fR 0 (-(n - 1)) (n - 1) q S [])]
      | false, _ => none)
    | (0, fb) :: (0, _) :: S => (match zl_le q.1 q.2.1 (zl_sub (zl_k 1) fb) with
      | true => some [(pc + 1, zx_fR 0 (-2147483648) 2147483647 q S [])]
      | false => none)
    | _ => none)
  | .lrem => (match q.2.2.2.1 with
    | (1, ([], n)) :: (1, fa) :: S => (match decide (0 < n), zx_ps q fa with
      | true, true => some [(pc + 1, zx_fR 1 0 (n - 1) q S [zl_sub (zl_id q.1.length) fa])]
      | true, false => some [(pc + 1, zx_fR 1 (-(n - 1)) (n - 1) q S [])]
      | false, _ => none)
    | (1, fb) :: (1, _) :: S => (match zl_le q.1 q.2.1 (zl_sub (zl_k 1) fb) with
      | true => some [(pc + 1, zx_fR 1 (-9223372036854775808) 9223372036854775807 q S [])]
      | false => none)
    | _ => none)
  | .iand => (match q.2.2.2.1 with
    | (0, ([], n)) :: (0, _) :: S => (match decide (0 ≤ n) with
      | true => some [(pc + 1, zx_fR 0 0 n q S [])]
      | false => none)
    | (0, _) :: (0, _) :: S => some [(pc + 1, zx_fR 0 (-2147483648) 2147483647 q S [])]
    | _ => none)
  | .land => (match q.2.2.2.1 with
    | (1, _) :: (1, _) :: S => some [(pc + 1, zx_fR 1 (-9223372036854775808) 9223372036854775807 q S [])]
    | _ => none)
  | .lor => (match q.2.2.2.1 with
    | (1, _) :: (1, _) :: S => some [(pc + 1, zx_fR 1 (-9223372036854775808) 9223372036854775807 q S [])]
    | _ => none)
  | .lxor => (match q.2.2.2.1 with
    | (1, _) :: (1, _) :: S => some [(pc + 1, zx_fR 1 (-9223372036854775808) 9223372036854775807 q S [])]
    | _ => none)
  | .lshl => (match q.2.2.2.1 with
    | (0, _) :: (1, _) :: S => some [(pc + 1, zx_fR 1 (-9223372036854775808) 9223372036854775807 q S [])]
    | _ => none)
  | .lshr => (match q.2.2.2.1 with
    | (0, _) :: (1, _) :: S => some [(pc + 1, zx_fR 1 (-9223372036854775808) 9223372036854775807 q S [])]
    | _ => none)
  | .lushr => (match q.2.2.2.1 with
    | (0, _) :: (1, _) :: S => some [(pc + 1, zx_fR 1 (-9223372036854775808) 9223372036854775807 q S [])]
    | _ => none)
  | .ineg => (match q.2.2.2.1 with
    | (0, fa) :: S => some [(pc + 1, zx_pu 0 (-2147483648) 2147483647 q S (zl_neg fa))]
    | _ => none)
  | .lneg => (match q.2.2.2.1 with
    | (1, fa) :: S => some [(pc + 1, zx_pu 1 (-9223372036854775808) 9223372036854775807 q S (zl_neg fa))]
    | _ => none)
  | .i2l => (match q.2.2.2.1 with
    | (0, fa) :: S => some [(pc + 1, zx_pu 1 (-9223372036854775808) 9223372036854775807 q S fa)]
    | _ => none)
  | .l2i => (match q.2.2.2.1 with
    | (1, fa) :: S => some [(pc + 1, zx_pu 0 (-2147483648) 2147483647 q S fa)]
    | _ => none)
  | .i2b => (match q.2.2.2.1 with
    | (0, fa) :: S => some [(pc + 1, zx_pu 0 (-128) 127 q S fa)]
    | _ => none)
  | .lcmp => (match q.2.2.2.1 with
    | (1, fb) :: (1, fa) :: S => some [(pc + 1, zq_S q ((3, zl_sub fa fb) :: S))]
    | _ => none)
  | .dup => (match q.2.2.2.1 with
    | z :: S => (match Nat.beq z.1 1 with
      | false => some [(pc + 1, zq_S q (z :: z :: S))]
      | true => none)
    | _ => none)
  | .dup2 => (match q.2.2.2.1 with
    | z :: y :: S => (match Nat.beq z.1 1 || Nat.beq y.1 1 with
      | false => some [(pc + 1, zq_S q (z :: y :: z :: y :: S))]
      | true => none)
    | _ => none)
  | .pop => (match q.2.2.2.1 with
    | z :: S => (match Nat.beq z.1 1 with
      | false => some [(pc + 1, zq_S q S)]
      | true => none)
    | _ => none)
  | .pop2 => (match q.2.2.2.1 with
    | z :: S => (match Nat.beq z.1 1 with
      | true => some [(pc + 1, zq_S q S)]
      | false => none)
    | _ => none)
  | .iinc i n => (match zx_get q.2.2.1 i, zk_b1 n (-128) 127 && Nat.blt i K.1 && Nat.beq len 3 with
    | some (0, f), true => some [(pc + 3, zx_ii i n f q)]
    | _, _ => none)
  | .goto off => (match zk_t pc off with
    | some t => some [(t, q)]
    | none => none)
  | .ifCond cd off => (match q.2.2.2.1, zk_t pc off with
    | z :: S, some t => (match Nat.beq z.1 0 || Nat.beq z.1 3 with
      | true => some [(t, zx_br cd true (zq_S q S) z.2), (pc + 3, zx_br cd false (zq_S q S) z.2)]
      | false => none)
    | _, _ => none)
  | .if_icmp cd off => (match q.2.2.2.1, zk_t pc off with
    | (0, fb) :: (0, fa) :: S, some t => some [(t, zx_br cd true (zq_S q S) (zl_sub fa fb)), (pc + 3, zx_br cd false (zq_S q S) (zl_sub fa fb))]
    | _, _ => none)
  | .ifnull off => (match q.2.2.2.1, zk_t pc off with
    | (k, f) :: S, some t => (match Nat.beq k (5 + 2 * ((k - 5) / 2)) with
      | true => some [(t, zq_S q S), (pc + 3, zx_nN ((k - 5) / 2) f q S)]
      | false => none)
    | _, _ => none)
  | .ifnonnull off => (match q.2.2.2.1, zk_t pc off with
    | (k, f) :: S, some t => (match Nat.beq k (5 + 2 * ((k - 5) / 2)) with
      | true => some [(pc + 3, zq_S q S), (t, zx_nN ((k - 5) / 2) f q S)]
      | false => none)
    | _, _ => none)
  | .tableswitch d lo hi os => (match q.2.2.2.1, zk_t pc d with
    | (0, f) :: S, some t => (match zk_tc pc lo (zq_S q S) f 0 os.toList, decide ((os.toList.length : Int) = hi - lo + 1) with
      | some r, true => some ((t, zx_as (zq_S q S) (zl_sub f (zl_k (lo - 1)))) :: (t, zx_as (zq_S q S) (zl_sub (zl_k (hi + 1)) f)) :: r)
      | _, _ => none)
    | _, _ => none)
  | .getfield idx => zk_gf K idx pc q
  | .putfield idx => zk_pf K idx pc q
  | .arraylength => zk_al0 K pc q
  | .iaload => zk_ald K 0 pc q
  | .laload => zk_ald K 1 pc q
  | .baload => zk_ald K 2 pc q
  | .caload => zk_ald K 3 pc q
  | .aaload => zk_ald K 4 pc q
  | .iastore => zk_ast K 0 0 pc q
  | .lastore => zk_ast K 1 1 pc q
  | .bastore => zk_ast K 2 0 pc q
  | .ldc idx => (match zk_a K.2.2.2.1 idx with
    | some n => some [(pc + 2, zq_S q ((0, zl_k n) :: q.2.2.2.1))]
    | none => none)
  | .ldc_w idx => (match zk_a K.2.2.2.1 idx with
    | some n => some [(pc + 3, zq_S q ((0, zl_k n) :: q.2.2.2.1))]
    | none => none)
  | .ldc2_w idx => (match zk_a K.2.2.2.2.1 idx with
    | some n => some [(pc + 3, zq_S q ((1, zl_k n) :: q.2.2.2.1))]
    | none => none)
  | .getstatic idx => (match zk_a K.2.2.2.2.2.1 idx with
    | some t => (match Nat.beq t.1 2 || Nat.beq t.1 3 with
      | false => some [(pc + 3, zx_ft t q q.2.2.2.1)]
      | true => none)
    | none => none)
  | .invokestatic idx => zk_cl K (4 * idx) pc q
  | .invokevirtual idx => zk_cl K (4 * idx + 1) pc q
  | .invokespecial idx => zk_cl K (4 * idx + 2) pc q
  | _ => none
/-- how many bytes an instruction has -/
def zk_ln : Instr → Nat
  | .iload _ | .lload _ | .aload _ | .istore _ | .lstore _ | .astore _ | .bipush _ | .ldc _ => 2
  | .sipush _ | .iinc _ _ | .goto _ | .ifCond _ _ | .if_icmp _ _ | .ifnull _ | .ifnonnull _ | .getfield _ | .putfield _ | .getstatic _ | .ldc_w _ | .ldc2_w _ | .invokestatic _ | .invokevirtual _ | .invokespecial _ => 3
  | _ => 1
def zk_ty (z : String) : Nat → FieldType
  | 0 => .int
  | 1 => .long
  | 2 => .byte
  | 3 => .char
  | _ => .object z
end
section
/-! a step of the checker is a step of the machine -/
theorem zc_row_kept {p : Program} {l : Launch} {e : Env} {R : Room} {s : State} {m : MethodId} {args : Array Value} {below : List Frame} {meth : Method} {c : Code} {cells slots : Nat} {Q : State → Prop} {D : va_G} {cA : Nat → ClassId} {RT : List zr_R} {ro : Nat → Option Nat} {sz : Nat} {H0 : Heap} {ms : List (Nat × Nat)} {nL pc pc' : Nat} {k : zc_C}
    (h : zc_row D cA RT ro sz H0 nL (fun pc H locs ls st => W p l e R s m args below meth c H locs cells slots Q (F0 m pc ls st)) pc pc' k) (hm : ∀ x ∈ k.2.2.2.1, x ∈ ms) : zc_row D cA RT ro sz H0 nL (zk_G p l e R s m args below meth c cells slots Q D RT ro ms) pc pc' k := by
  intro H locs ls st vs hz hwt hh hp kk hk
  refine h H locs ls st vs hz hwt hh hp (fun H' locs' x h1 h2 h3 => kk H' locs' x h1 h2 h3 ?_)
  intro a r j ci n fs g1 g2 g3 g4
  rw [h2 a r j ci n fs g1 g2 g3 (fun q => g4 (hm _ q)), hk a r j ci n fs g1 g2 g3 g4]
section ZP
variable {p : Program} {l : Launch} {e : Env} {R : Room} {s : State} {m : MethodId} {args : Array Value} {below : List Frame} {meth : Method} {c : Code} {cells slots : Nat} {Q : State → Prop} {cc : ByteArray}
variable {D : va_G} {cA : Nat → ClassId} {ro : Nat → Option Nat} {sz : Nat} {H0 : Heap} {Ga : List Int} {zn : String} {K : zk_K}
/-- what the machine must give to a checker's tables -/
def zk_M (p : Program) (l : Launch) (e : Env) (R : Room) (s : State) (m : MethodId) (args : Array Value) (below : List Frame) (meth : Method) (c : Code) (cells slots : Nat) (Q : State → Prop) (cc : ByteArray) (D : va_G) (cA : Nat → ClassId) (ro : Nat → Option Nat) (sz : Nat) (H0 : Heap) (zn : String) (K : zk_K) : Prop :=
  p.tables.exec = Jvm.exec ∧ c.code = cc ∧ zD_ok D K.2.1 ∧ (∀ ti, ti < 5 → ArrOfT s (cA ti) (zk_ty zn ti)) ∧
  (∀ (idx r k ci n : Nat) (fs : List zt_T) (t : zt_T), (idx, r, k) ∈ K.2.2.1 → K.2.1[r]? = some (0, ci, n, fs) → fs[k]? = some t → zk_get s m args D idx ci k ∧ ((r, k) ∈ K.2.2.2.2.2.2.2.1 → zk_put s m args D ro idx ci k t)) ∧
  (∀ (idx : Nat) (n : Int), (idx, n) ∈ K.2.2.2.1 → ∃ (own : String) (x : Int32), s.vm.findClass own = some m.cls ∧ (Jvm.Cond.constant own idx x).before args s = true ∧ x.toInt = n) ∧
  (∀ (idx : Nat) (n : Int), (idx, n) ∈ K.2.2.2.2.1 → ∃ (own : String) (x : Int64), s.vm.findClass own = some m.cls ∧ (Jvm.Cond.constantLong own idx x).before args s = true ∧ x.toInt = n) ∧
  (∀ (idx : Nat) (t : zt_T), (idx, t) ∈ K.2.2.2.2.2.1 → ∀ pc, decode cc pc = .ok (.getstatic idx, 3) → ∀ H locs ls st, zh_ok D cA K.2.1 ro sz H0 H locs → ∃ x, zt_ok ro x t ∧ (W p l e R s m args below meth c H locs cells slots Q (F0 m (pc + 3) ls (x :: st)) → W p l e R s m args below meth c H locs cells slots Q (F0 m pc ls st))) ∧
  (∀ (idx : Nat) (k : zc_C), (idx, k) ∈ K.2.2.2.2.2.2.1 → ∀ (pc j : Nat) (i : Instr), (i = .invokestatic j ∧ idx = 4 * j) ∨ (i = .invokevirtual j ∧ idx = 4 * j + 1) ∨ (i = .invokespecial j ∧ idx = 4 * j + 2) → decode cc pc = .ok (i, 3) → zc_row D cA K.2.1 ro sz H0 K.1 (fun pc H locs ls st => W p l e R s m args below meth c H locs cells slots Q (F0 m pc ls st)) pc (pc + 3) k)
theorem zk_tc_ok {pc : Nat} {lo : Int} {q : zs_S} {f : zl_F} {G : Nat → zs_S → Prop} : ∀ {os : List Int} {j0 : Nat} {r : List (Nat × zs_S)}, zk_tc pc lo q f j0 os = some r → (∀ x ∈ r, G x.1 x.2) → ∀ (j : Nat) (o : Int), os[j]? = some o → ∃ tj : Nat, (pc : Int) + o = (tj : Int) ∧ G tj (zx_br .eq true q (zl_sub f (zl_k (lo + ((j0 + j : Nat) : Int)))))
  | [], _, _, _, _, j, o, hj => by simp at hj
  | o0 :: os, j0, r, h, hr, j, o, hj => by
    unfold zk_tc at h
    split at h
    · rename_i tj r' h1 h2
      cases h
      cases j with
      | zero =>
        simp at hj
        subst hj
        exact ⟨tj, zk_t_ok h1, hr _ List.mem_cons_self⟩
      | succ j =>
        obtain ⟨t, g1, g2⟩ := zk_tc_ok h2 (fun x hx => hr x (List.mem_cons_of_mem _ hx)) j o (by simpa using hj)
        exact ⟨t, g1, by rw [show j0 + (j + 1) = j0 + 1 + j by omega]; exact g2⟩
    · cases h
theorem zk_al_ok {k : zc_C} {q : zs_S} {w : List zv_V × List zv_V × List zv_V} {pc : Nat} {G : Nat → zs_S → Prop} : ∀ {als : List zc_A} {r : List (Nat × zs_S)}, zk_al k q w pc als = some r → (∀ x ∈ r, G x.1 x.2) → ∀ al ∈ als, ∃ q', zx_ca k al q w = some q' ∧ G pc q'
  | [], _, _, _, al, hal => by cases hal
  | a :: als, r, h, hr, al, hal => by
    unfold zk_al at h
    split at h
    · rename_i q' r' h1 h2
      cases h
      rcases List.mem_cons.mp hal with e | e
      · rw [e]; exact ⟨q', h1, hr _ List.mem_cons_self⟩
      · exact zk_al_ok h2 (fun x hx => hr x (List.mem_cons_of_mem _ hx)) al e
    · cases h
theorem zk_any {r k : Nat} {ms : List (Nat × Nat)} (h : ms.any (fun y => Nat.beq r y.1 && Nat.beq k y.2) = true) : (r, k) ∈ ms := by
  obtain ⟨y, h1, h2⟩ := List.any_eq_true.mp h
  rw [Bool.and_eq_true] at h2
  have e1 := Nat.eq_of_beq_eq_true h2.1
  have e2 := Nat.eq_of_beq_eq_true h2.2
  subst e1 e2
  exact h1
theorem zk_cl_ok {idx j pc : Nat} {q : zs_S} {L : List (Nat × zs_S)} {i : Instr} (hM : zk_M p l e R s m args below meth c cells slots Q cc D cA ro sz H0 zn K) (hi : (i = .invokestatic j ∧ idx = 4 * j) ∨ (i = .invokevirtual j ∧ idx = 4 * j + 1) ∨ (i = .invokespecial j ∧ idx = 4 * j + 2)) (hd : decode cc pc = .ok (i, 3)) (h : zk_cl K idx pc q = some L) (KK : ∀ x ∈ L, zw D cA K.2.1 ro sz H0 Ga K.1 (zk_G p l e R s m args below meth c cells slots Q D K.2.1 ro K.2.2.2.2.2.2.2.1) x.1 x.2) : zw D cA K.2.1 ro sz H0 Ga K.1 (zk_G p l e R s m args below meth c cells slots Q D K.2.1 ro K.2.2.2.2.2.2.2.1) pc q := by
  unfold zk_cl at h
  split at h
  · rename_i k hk
    split at h
    · rename_i w hw hp
      rw [Bool.and_eq_true] at hp
      refine zi_call (c := k) (zc_row_kept (hM.2.2.2.2.2.2.2.2 idx k (zk_a_mem hk) pc j i hi hd) (fun x hx => ?_)) hw hp.1 (zk_al_ok (G := zw D cA K.2.1 ro sz H0 Ga K.1 (zk_G p l e R s m args below meth c cells slots Q D K.2.1 ro K.2.2.2.2.2.2.2.1)) h KK)
      exact zk_any (List.all_eq_true.mp hp.2 x hx)
    · cases h
  · cases h
theorem zk_gf_ok {idx pc : Nat} {q : zs_S} {L : List (Nat × zs_S)} (hM : zk_M p l e R s m args below meth c cells slots Q cc D cA ro sz H0 zn K) (hd : decode cc pc = .ok (.getfield idx, 3)) (h : zk_gf K idx pc q = some L) (KK : ∀ x ∈ L, zw D cA K.2.1 ro sz H0 Ga K.1 (zk_G p l e R s m args below meth c cells slots Q D K.2.1 ro K.2.2.2.2.2.2.2.1) x.1 x.2) : zw D cA K.2.1 ro sz H0 Ga K.1 (zk_G p l e R s m args below meth c cells slots Q D K.2.1 ro K.2.2.2.2.2.2.2.1) pc q := by
  unfold zk_gf at h
  split at h
  · rename_i kz f S r k hS hg
    split at h
    · rename_i ci n fs i hr hi hk
      split at h
      · rename_i t ht
        split at h
        · rename_i h23
          cases h
          have hk := Nat.eq_of_beq_eq_true hk
          subst hk
          simp only [Bool.or_eq_false_iff] at h23
          exact zm_getf hM.1 hM.2.1 hS hi hr ht (fun q => by rw [q] at h23; exact absurd h23.1 (by decide)) (fun q => by rw [q] at h23; exact absurd h23.2 (by decide)) (hM.2.2.2.2.1 idx r k ci n fs t (zk_a_mem hg) hr ht).1 hd (KK _ List.mem_cons_self)
        · cases h
      · cases h
    · cases h
  · cases h
theorem zk_pf_ok {idx pc : Nat} {q : zs_S} {L : List (Nat × zs_S)} (hM : zk_M p l e R s m args below meth c cells slots Q cc D cA ro sz H0 zn K) (hd : decode cc pc = .ok (.putfield idx, 3)) (h : zk_pf K idx pc q = some L) (KK : ∀ x ∈ L, zw D cA K.2.1 ro sz H0 Ga K.1 (zk_G p l e R s m args below meth c cells slots Q D K.2.1 ro K.2.2.2.2.2.2.2.1) x.1 x.2) : zw D cA K.2.1 ro sz H0 Ga K.1 (zk_G p l e R s m args below meth c cells slots Q D K.2.1 ro K.2.2.2.2.2.2.2.1) pc q := by
  unfold zk_pf at h
  split at h
  · rename_i z kz f S r k hS hg
    split at h
    · rename_i ci n fs i hr hi hk
      split at h
      · rename_i t ht
        split at h
        · rename_i hty
          cases h
          rw [Bool.and_eq_true] at hk
          have hk1 := Nat.eq_of_beq_eq_true hk.1
          have hk2 := zk_any hk.2
          subst hk1
          exact zm_putf hM.1 hM.2.1 hS hi hr ht hM.2.2.1 hty hk2 ((hM.2.2.2.2.1 idx r k ci n fs t (zk_a_mem hg) hr ht).2 hk2) hd (KK _ List.mem_cons_self)
        · cases h
      · cases h
    · cases h
  · cases h
end ZP
end
section
/-! a step of the checker is a step of the machine, continued -/
section ZQ7
variable {p : Program} {l : Launch} {e : Env} {R : Room} {s : State} {m : MethodId} {args : Array Value} {below : List Frame} {meth : Method} {c : Code} {cells slots : Nat} {Q : State → Prop} {cc : ByteArray}
variable {D : va_G} {cA : Nat → ClassId} {ro : Nat → Option Nat} {sz : Nat} {H0 : Heap} {Ga : List Int} {zn : String} {K : zk_K} {pc : Nat} {q : zs_S} {L : List (Nat × zs_S)}
theorem zk_ald_ok {ty : Nat} {i : Instr} (hM : zk_M p l e R s m args below meth c cells slots Q cc D cA ro sz H0 zn K) (hi : (ty = 0 ∧ i = .iaload) ∨ (ty = 1 ∧ i = .laload) ∨ (ty = 2 ∧ i = .baload) ∨ (ty = 3 ∧ i = .caload) ∨ (ty = 4 ∧ i = .aaload)) (hd : decode cc pc = .ok (i, 1)) (h : zk_ald K ty pc q = some L) (KK : ∀ x ∈ L, zw D cA K.2.1 ro sz H0 Ga K.1 (zk_G p l e R s m args below meth c cells slots Q D K.2.1 ro K.2.2.2.2.2.2.2.1) x.1 x.2) : zw D cA K.2.1 ro sz H0 Ga K.1 (zk_G p l e R s m args below meth c cells slots Q D K.2.1 ro K.2.2.2.2.2.2.2.1) pc q := by
  unfold zk_ald at h
  split at h
  · rename_i g kz f S hS
    split at h
    · rename_i kd ti n t hr hk
      split at h
      · rename_i hc
        cases h
        have hk := Nat.eq_of_beq_eq_true hk
        simp only [Bool.and_eq_true, Bool.not_eq_true', Bool.or_eq_false_iff] at hc
        obtain ⟨⟨h1, h2⟩, h3⟩ := hc
        have h1 := Nat.eq_of_beq_eq_true h1
        have t2 : t.1 ≠ 2 := fun q => by rw [q] at h3; exact absurd h3.1 (by decide)
        have t3 : t.1 ≠ 3 := fun q => by rw [q] at h3; exact absurd h3.2 (by decide)
        generalize (kz - 4) / 2 = r at hr hk
        subst hk
        subst h1
        have KK := KK _ List.mem_cons_self
        rcases hi with ⟨rfl, rfl⟩ | ⟨rfl, rfl⟩ | ⟨rfl, rfl⟩ | ⟨rfl, rfl⟩ | ⟨rfl, rfl⟩
        · exact zm_iald hM.1 hM.2.1 (hM.2.2.2.1 0 (by decide)) hS hr h2 t2 t3 hd KK
        · exact zm_lald hM.1 hM.2.1 (hM.2.2.2.1 1 (by decide)) hS hr h2 t2 t3 hd KK
        · exact zm_bald hM.1 hM.2.1 (hM.2.2.2.1 2 (by decide)) hS hr h2 t2 t3 hd KK
        · exact zm_cald hM.1 hM.2.1 (hM.2.2.2.1 3 (by decide)) hS hr h2 t2 t3 hd KK
        · exact zm_aald hM.1 hM.2.1 (hM.2.2.2.1 4 (by decide)) rfl hS hr h2 t2 t3 hd KK
      · cases h
    · cases h
  · cases h
theorem zk_ast_ok {ty kd : Nat} {i : Instr} (hM : zk_M p l e R s m args below meth c cells slots Q cc D cA ro sz H0 zn K) (hi : (ty = 0 ∧ kd = 0 ∧ i = .iastore) ∨ (ty = 1 ∧ kd = 1 ∧ i = .lastore) ∨ (ty = 2 ∧ kd = 0 ∧ i = .bastore)) (hd : decode cc pc = .ok (i, 1)) (h : zk_ast K ty kd pc q = some L) (KK : ∀ x ∈ L, zw D cA K.2.1 ro sz H0 Ga K.1 (zk_G p l e R s m args below meth c cells slots Q D K.2.1 ro K.2.2.2.2.2.2.2.1) x.1 x.2) : zw D cA K.2.1 ro sz H0 Ga K.1 (zk_G p l e R s m args below meth c cells slots Q D K.2.1 ro K.2.2.2.2.2.2.2.1) pc q := by
  unfold zk_ast at h
  split at h
  · rename_i zx g kz f S hS
    split at h
    · rename_i ti n kt lo hi' hr hk
      split at h
      · rename_i hc
        cases h
        have hk := Nat.eq_of_beq_eq_true hk
        simp only [Bool.and_eq_true, Bool.or_eq_true] at hc
        obtain ⟨⟨⟨⟨h1, h0⟩, h2⟩, h3⟩, h4⟩ := hc
        have h1 := Nat.eq_of_beq_eq_true h1
        have h0 := Nat.eq_of_beq_eq_true h0
        generalize (kz - 4) / 2 = r at hr hk
        subst hk
        subst h1
        subst h0
        have KK := KK _ List.mem_cons_self
        rcases hi with ⟨rfl, rfl, rfl⟩ | ⟨rfl, rfl, rfl⟩ | ⟨rfl, rfl, rfl⟩
        · exact zm_iast hM.1 hM.2.1 (hM.2.2.2.1 0 (by decide)) hS hr h2 h3 hd KK
        · exact zm_last hM.1 hM.2.1 (hM.2.2.2.1 1 (by decide)) hS hr h2 h3 hd KK
        · have h4 := h4.resolve_left (by decide)
          exact zm_bast hM.1 hM.2.1 (hM.2.2.2.1 2 (by decide)) (of_decide_eq_true h4.1) (of_decide_eq_true h4.2) hS hr h2 h3 hd KK
      · cases h
    · cases h
  · cases h
theorem zk_al0_ok (hM : zk_M p l e R s m args below meth c cells slots Q cc D cA ro sz H0 zn K) (hd : decode cc pc = .ok (.arraylength, 1)) (h : zk_al0 K pc q = some L) (KK : ∀ x ∈ L, zw D cA K.2.1 ro sz H0 Ga K.1 (zk_G p l e R s m args below meth c cells slots Q D K.2.1 ro K.2.2.2.2.2.2.2.1) x.1 x.2) : zw D cA K.2.1 ro sz H0 Ga K.1 (zk_G p l e R s m args below meth c cells slots Q D K.2.1 ro K.2.2.2.2.2.2.2.1) pc q := by
  unfold zk_al0 at h
  split at h
  · rename_i kz f S hS
    split at h
    · rename_i kd ti n t hr hk
      split at h
      · rename_i hc
        cases h
        have hk := Nat.eq_of_beq_eq_true hk
        rw [Bool.and_eq_true] at hc
        generalize (kz - 4) / 2 = r at hr hk
        subst hk
        exact zm_alen hM.1 hM.2.1 (hM.2.2.2.1 ti (Nat.le_of_ble_eq_true hc.2)) hS hr (Nat.le_of_ble_eq_true hc.1) hd (KK _ List.mem_cons_self)
      · cases h
    · cases h
  · cases h
theorem zk_rf {z : zv_V} (h : zk_ref z = true) : z.1 = 2 ∨ 4 ≤ z.1 := by
  unfold zk_ref at h
  rw [Bool.or_eq_true] at h
  rcases h with h | h
  · exact Or.inl (Nat.eq_of_beq_eq_true h)
  · exact Or.inr (Nat.le_of_ble_eq_true h)
theorem zk_b1_ok {n lo hi : Int} (h : zk_b1 n lo hi = true) : lo ≤ n ∧ n ≤ hi := by
  unfold zk_b1 at h
  rw [Bool.and_eq_true] at h
  exact ⟨of_decide_eq_true h.1, of_decide_eq_true h.2⟩
theorem zk_s_ok {i : Instr} {len : Nat} (hM : zk_M p l e R s m args below meth c cells slots Q cc D cA ro sz H0 zn K) (hd : decode cc pc = .ok (i, len)) (hl : len = zk_ln i ∨ ∃ a b d os, i = .tableswitch a b d os) (h : zk_s K i len pc q = some L) (KK : ∀ x ∈ L, zw D cA K.2.1 ro sz H0 Ga K.1 (zk_G p l e R s m args below meth c cells slots Q D K.2.1 ro K.2.2.2.2.2.2.2.1) x.1 x.2) : zw D cA K.2.1 ro sz H0 Ga K.1 (zk_G p l e R s m args below meth c cells slots Q D K.2.1 ro K.2.2.2.2.2.2.2.1) pc q := by
  have hx := hM.1
  have hb := hM.2.1
  have hl2 : (∀ a b d os, i ≠ .tableswitch a b d os) → len = zk_ln i := fun hn => hl.resolve_right (fun ⟨a, b, d, os, g⟩ => hn a b d os g)
  cases i with
  | iconst n =>
    have hl := hl2 (fun _ _ _ _ g => by cases g)
    subst hl
    simp only [zk_s] at h
    split at h
    · rename_i hc
      cases h
      exact zm_iconst hx hb (zk_b1_ok hc).1 (zk_b1_ok hc).2 hd (KK _ List.mem_cons_self)
    · cases h
  | bipush n =>
    have hl := hl2 (fun _ _ _ _ g => by cases g)
    subst hl
    simp only [zk_s] at h
    split at h
    · rename_i hc
      cases h
      exact zm_bipush hx hb (zk_b1_ok hc).1 (zk_b1_ok hc).2 hd (KK _ List.mem_cons_self)
    · cases h
  | sipush n =>
    have hl := hl2 (fun _ _ _ _ g => by cases g)
    subst hl
    simp only [zk_s] at h
    split at h
    · rename_i hc
      cases h
      exact zm_sipush hx hb (zk_b1_ok hc).1 (zk_b1_ok hc).2 hd (KK _ List.mem_cons_self)
    · cases h
  | lconst n =>
    have hl := hl2 (fun _ _ _ _ g => by cases g)
    subst hl
    cases h
    exact zm_lconst hx hb hd (KK _ List.mem_cons_self)
  | aconst_null =>
    have hl := hl2 (fun _ _ _ _ g => by cases g)
    subst hl
    cases h
    exact zm_null hx hb hd (KK _ List.mem_cons_self)
  | iload j =>
    have hl := hl2 (fun _ _ _ _ g => by cases g)
    subst hl
    simp only [zk_s, zk_ldn] at h
    split at h
    · rename_i z hz
      split at h
      · rename_i hk
        cases h
        obtain ⟨k0, f⟩ := z
        have hk := Nat.eq_of_beq_eq_true hk
        dsimp only at hk
        subst hk
        exact zm_iload hx hb hz hd (KK _ List.mem_cons_self)
      · cases h
    · cases h
  | iload_n j =>
    have hl := hl2 (fun _ _ _ _ g => by cases g)
    subst hl
    simp only [zk_s, zk_ldn] at h
    split at h
    · rename_i z hz
      split at h
      · rename_i hk
        cases h
        obtain ⟨k0, f⟩ := z
        have hk := Nat.eq_of_beq_eq_true hk
        dsimp only at hk
        subst hk
        exact zm_iload_n hx hb hz hd (KK _ List.mem_cons_self)
      · cases h
    · cases h
  | lload j =>
    have hl := hl2 (fun _ _ _ _ g => by cases g)
    subst hl
    simp only [zk_s, zk_ldn] at h
    split at h
    · rename_i z hz
      split at h
      · rename_i hk
        cases h
        obtain ⟨k0, f⟩ := z
        have hk := Nat.eq_of_beq_eq_true hk
        dsimp only at hk
        subst hk
        exact zm_lload hx hb hz hd (KK _ List.mem_cons_self)
      · cases h
    · cases h
  | lload_n j =>
    have hl := hl2 (fun _ _ _ _ g => by cases g)
    subst hl
    simp only [zk_s, zk_ldn] at h
    split at h
    · rename_i z hz
      split at h
      · rename_i hk
        cases h
        obtain ⟨k0, f⟩ := z
        have hk := Nat.eq_of_beq_eq_true hk
        dsimp only at hk
        subst hk
        exact zm_lload_n hx hb hz hd (KK _ List.mem_cons_self)
      · cases h
    · cases h
  | aload j =>
    have hl := hl2 (fun _ _ _ _ g => by cases g)
    subst hl
    simp only [zk_s, zk_ldr] at h
    split at h
    · rename_i z hz
      split at h
      · rename_i hk
        cases h
        exact zm_aload hx hb (zk_rf hk) hz hd (KK _ List.mem_cons_self)
      · cases h
    · cases h
  | aload_n j =>
    have hl := hl2 (fun _ _ _ _ g => by cases g)
    subst hl
    simp only [zk_s, zk_ldr] at h
    split at h
    · rename_i z hz
      split at h
      · rename_i hk
        cases h
        exact zm_aload_n hx hb (zk_rf hk) hz hd (KK _ List.mem_cons_self)
      · cases h
    · cases h
  | istore j =>
    have hl := hl2 (fun _ _ _ _ g => by cases g)
    subst hl
    simp only [zk_s, zk_stn] at h
    split at h
    · rename_i z S hS
      split at h
      · rename_i hk
        cases h
        rw [Bool.and_eq_true] at hk
        obtain ⟨k0, f⟩ := z
        have hk1 := Nat.eq_of_beq_eq_true hk.1
        dsimp only at hk1
        subst hk1
        exact zm_istore hx hb hS (Nat.le_of_ble_eq_true hk.2) hd (KK _ List.mem_cons_self)
      · cases h
    · cases h
  | istore_n j =>
    have hl := hl2 (fun _ _ _ _ g => by cases g)
    subst hl
    simp only [zk_s, zk_stn] at h
    split at h
    · rename_i z S hS
      split at h
      · rename_i hk
        cases h
        rw [Bool.and_eq_true] at hk
        obtain ⟨k0, f⟩ := z
        have hk1 := Nat.eq_of_beq_eq_true hk.1
        dsimp only at hk1
        subst hk1
        exact zm_istore_n hx hb hS (Nat.le_of_ble_eq_true hk.2) hd (KK _ List.mem_cons_self)
      · cases h
    · cases h
  | lstore j =>
    have hl := hl2 (fun _ _ _ _ g => by cases g)
    subst hl
    simp only [zk_s, zk_stn] at h
    split at h
    · rename_i z S hS
      split at h
      · rename_i hk
        cases h
        rw [Bool.and_eq_true] at hk
        obtain ⟨k0, f⟩ := z
        have hk1 := Nat.eq_of_beq_eq_true hk.1
        dsimp only at hk1
        subst hk1
        exact zm_lstore hx hb hS (Nat.le_of_ble_eq_true hk.2) hd (KK _ List.mem_cons_self)
      · cases h
    · cases h
  | lstore_n j =>
    have hl := hl2 (fun _ _ _ _ g => by cases g)
    subst hl
    simp only [zk_s, zk_stn] at h
    split at h
    · rename_i z S hS
      split at h
      · rename_i hk
        cases h
        rw [Bool.and_eq_true] at hk
        obtain ⟨k0, f⟩ := z
        have hk1 := Nat.eq_of_beq_eq_true hk.1
        dsimp only at hk1
        subst hk1
        exact zm_lstore_n hx hb hS (Nat.le_of_ble_eq_true hk.2) hd (KK _ List.mem_cons_self)
      · cases h
    · cases h
  | astore j =>
    have hl := hl2 (fun _ _ _ _ g => by cases g)
    subst hl
    simp only [zk_s, zk_str] at h
    split at h
    · rename_i z S hS
      split at h
      · rename_i hk
        cases h
        rw [Bool.and_eq_true] at hk
        exact zm_astore hx hb (zk_rf hk.1) hS (Nat.le_of_ble_eq_true hk.2) hd (KK _ List.mem_cons_self)
      · cases h
    · cases h
  | astore_n j =>
    have hl := hl2 (fun _ _ _ _ g => by cases g)
    subst hl
    simp only [zk_s, zk_str] at h
    split at h
    · rename_i z S hS
      split at h
      · rename_i hk
        cases h
        rw [Bool.and_eq_true] at hk
        exact zm_astore_n hx hb (zk_rf hk.1) hS (Nat.le_of_ble_eq_true hk.2) hd (KK _ List.mem_cons_self)
      · cases h
    · cases h
  | iadd =>
    have hl := hl2 (fun _ _ _ _ g => by cases g)
    subst hl
    simp only [zk_s] at h
    split at h
    · rename_i hS
      cases h
      exact zm_iadd hx hb hS hd (KK _ List.mem_cons_self)
    · cases h
  | isub =>
    have hl := hl2 (fun _ _ _ _ g => by cases g)
    subst hl
    simp only [zk_s] at h
    split at h
    · rename_i hS
      cases h
      exact zm_isub hx hb hS hd (KK _ List.mem_cons_self)
    · cases h
  | ladd =>
    have hl := hl2 (fun _ _ _ _ g => by cases g)
    subst hl
    simp only [zk_s] at h
    split at h
    · rename_i hS
      cases h
      exact zm_ladd hx hb hS hd (KK _ List.mem_cons_self)
    · cases h
  | lsub =>
    have hl := hl2 (fun _ _ _ _ g => by cases g)
    subst hl
    simp only [zk_s] at h
    split at h
    · rename_i hS
      cases h
      exact zm_lsub hx hb hS hd (KK _ List.mem_cons_self)
    · cases h
  | land =>
    have hl := hl2 (fun _ _ _ _ g => by cases g)
    subst hl
    simp only [zk_s] at h
    split at h
    · rename_i hS
      cases h
      exact zm_land hx hb hS hd (KK _ List.mem_cons_self)
    · cases h
  | lor =>
    have hl := hl2 (fun _ _ _ _ g => by cases g)
    subst hl
    simp only [zk_s] at h
    split at h
    · rename_i hS
      cases h
      exact zm_lor hx hb hS hd (KK _ List.mem_cons_self)
    · cases h
  | lxor =>
    have hl := hl2 (fun _ _ _ _ g => by cases g)
    subst hl
    simp only [zk_s] at h
    split at h
    · rename_i hS
      cases h
      exact zm_lxor hx hb hS hd (KK _ List.mem_cons_self)
    · cases h
  | lshl =>
    have hl := hl2 (fun _ _ _ _ g => by cases g)
    subst hl
    simp only [zk_s] at h
    split at h
    · rename_i hS
      cases h
      exact zm_lshl hx hb hS hd (KK _ List.mem_cons_self)
    · cases h
  | lshr =>
    have hl := hl2 (fun _ _ _ _ g => by cases g)
    subst hl
    simp only [zk_s] at h
    split at h
    · rename_i hS
      cases h
      exact zm_lshr hx hb hS hd (KK _ List.mem_cons_self)
    · cases h
  | lushr =>
    have hl := hl2 (fun _ _ _ _ g => by cases g)
    subst hl
    simp only [zk_s] at h
    split at h
    · rename_i hS
      cases h
      exact zm_lushr hx hb hS hd (KK _ List.mem_cons_self)
    · cases h
  | ineg =>
    have hl := hl2 (fun _ _ _ _ g => by cases g)
    subst hl
    simp only [zk_s] at h
    split at h
    · rename_i hS
      cases h
      exact zm_ineg hx hb hS hd (KK _ List.mem_cons_self)
    · cases h
  | lneg =>
    have hl := hl2 (fun _ _ _ _ g => by cases g)
    subst hl
    simp only [zk_s] at h
    split at h
    · rename_i hS
      cases h
      exact zm_lneg hx hb hS hd (KK _ List.mem_cons_self)
    · cases h
  | i2l =>
    have hl := hl2 (fun _ _ _ _ g => by cases g)
    subst hl
    simp only [zk_s] at h
    split at h
    · rename_i hS
      cases h
      exact zm_i2l hx hb hS hd (KK _ List.mem_cons_self)
    · cases h
  | l2i =>
    have hl := hl2 (fun _ _ _ _ g => by cases g)
    subst hl
    simp only [zk_s] at h
    split at h
    · rename_i hS
      cases h
      exact zm_l2i hx hb hS hd (KK _ List.mem_cons_self)
    · cases h
  | i2b =>
    have hl := hl2 (fun _ _ _ _ g => by cases g)
    subst hl
    simp only [zk_s] at h
    split at h
    · rename_i hS
      cases h
      exact zm_i2b hx hb hS hd (KK _ List.mem_cons_self)
    · cases h
  | lcmp =>
    have hl := hl2 (fun _ _ _ _ g => by cases g)
    subst hl
    simp only [zk_s] at h
    split at h
    · rename_i hS
      cases h
      exact zm_lcmp hx hb hS hd (KK _ List.mem_cons_self)
    · cases h
  | imul =>
    have hl := hl2 (fun _ _ _ _ g => by cases g)
    subst hl
    simp only [zk_s] at h
    split at h
    · rename_i hS
      cases h
      exact zm_imulL hx hb hS hd (KK _ List.mem_cons_self)
    · rename_i hS
      cases h
      exact zm_imulR hx hb hS hd (KK _ List.mem_cons_self)
    · rename_i hS
      cases h
      exact zm_imulF hx hb hS hd (KK _ List.mem_cons_self)
    · cases h
  | lmul =>
    have hl := hl2 (fun _ _ _ _ g => by cases g)
    subst hl
    simp only [zk_s] at h
    split at h
    · rename_i hS
      cases h
      exact zm_lmulL hx hb hS hd (KK _ List.mem_cons_self)
    · rename_i hS
      cases h
      exact zm_lmulR hx hb hS hd (KK _ List.mem_cons_self)
    · rename_i hS
      cases h
      exact zm_lmulF hx hb hS hd (KK _ List.mem_cons_self)
    · cases h
  | idiv =>
    have hl := hl2 (fun _ _ _ _ g => by cases g)
    subst hl
    simp only [zk_s] at h
    split at h
    · rename_i hS
      split at h
      · rename_i hn
        cases h
        exact zm_idivC hx hb hS (of_decide_eq_true hn) hd (KK _ List.mem_cons_self)
      · cases h
    · rename_i hS
      split at h
      · rename_i hn
        cases h
        exact zm_idivF hx hb hS hn hd (KK _ List.mem_cons_self)
      · cases h
    · cases h
  | ldiv =>
    have hl := hl2 (fun _ _ _ _ g => by cases g)
    subst hl
    simp only [zk_s] at h
    split at h
    · rename_i hS
      split at h
      · rename_i hn
        cases h
        exact zm_ldivC hx hb hS (of_decide_eq_true hn) hd (KK _ List.mem_cons_self)
      · cases h
    · rename_i hS
      split at h
      · rename_i hn
        cases h
        exact zm_ldivF hx hb hS hn hd (KK _ List.mem_cons_self)
      · cases h
    · cases h
  | irem =>
    have hl := hl2 (fun _ _ _ _ g => by cases g)
    subst hl
    simp only [zk_s] at h
    split at h
    · rename_i hS
      split at h
      · rename_i hn hp
        cases h
        exact zm_iremCp hx hb hS (of_decide_eq_true hn) hp hd (KK _ List.mem_cons_self)
      · rename_i hn hp
        cases h
        exact zm_iremC hx hb hS (of_decide_eq_true hn) hd (KK _ List.mem_cons_self)
      · cases h
    · rename_i hS
      split at h
      · rename_i hn
        cases h
        exact zm_iremF hx hb hS hn hd (KK _ List.mem_cons_self)
      · cases h
    · cases h
  | lrem =>
    have hl := hl2 (fun _ _ _ _ g => by cases g)
    subst hl
    simp only [zk_s] at h
    split at h
    · rename_i hS
      split at h
      · rename_i hn hp
        cases h
        exact zm_lremCp hx hb hS (of_decide_eq_true hn) hp hd (KK _ List.mem_cons_self)
      · rename_i hn hp
        cases h
        exact zm_lremC hx hb hS (of_decide_eq_true hn) hd (KK _ List.mem_cons_self)
      · cases h
    · rename_i hS
      split at h
      · rename_i hn
        cases h
        exact zm_lremF hx hb hS hn hd (KK _ List.mem_cons_self)
      · cases h
    · cases h
  | iand =>
    have hl := hl2 (fun _ _ _ _ g => by cases g)
    subst hl
    simp only [zk_s] at h
    split at h
    · rename_i hS
      split at h
      · rename_i hn
        cases h
        exact zm_iandC hx hb hS (of_decide_eq_true hn) hd (KK _ List.mem_cons_self)
      · cases h
    · rename_i hS
      cases h
      exact zm_iandF hx hb hS hd (KK _ List.mem_cons_self)
    · cases h
  | dup =>
    have hl := hl2 (fun _ _ _ _ g => by cases g)
    subst hl
    simp only [zk_s] at h
    split at h
    · rename_i z S hS
      split at h
      · rename_i hk
        cases h
        exact zm_dup hx hb hS (fun g => by rw [g] at hk; exact absurd hk (by decide)) hd (KK _ List.mem_cons_self)
      · cases h
    · cases h
  | pop =>
    have hl := hl2 (fun _ _ _ _ g => by cases g)
    subst hl
    simp only [zk_s] at h
    split at h
    · rename_i z S hS
      split at h
      · rename_i hk
        cases h
        exact zm_pop hx hb hS (fun g => by rw [g] at hk; exact absurd hk (by decide)) hd (KK _ List.mem_cons_self)
      · cases h
    · cases h
  | pop2 =>
    have hl := hl2 (fun _ _ _ _ g => by cases g)
    subst hl
    simp only [zk_s] at h
    split at h
    · rename_i z S hS
      split at h
      · rename_i hk
        cases h
        exact zm_pop2 hx hb hS (Nat.eq_of_beq_eq_true hk) hd (KK _ List.mem_cons_self)
      · cases h
    · cases h
  | dup2 =>
    have hl := hl2 (fun _ _ _ _ g => by cases g)
    subst hl
    simp only [zk_s] at h
    split at h
    · rename_i z y S hS
      split at h
      · rename_i hk
        cases h
        simp only [Bool.or_eq_false_iff] at hk
        exact zm_dup2 hx hb hS (fun g => by rw [g] at hk; exact absurd hk.1 (by decide)) (fun g => by rw [g] at hk; exact absurd hk.2 (by decide)) hd (KK _ List.mem_cons_self)
      · cases h
    · cases h
  | iinc j n =>
    simp only [zk_s] at h
    split at h
    · rename_i f hz hc
      cases h
      simp only [Bool.and_eq_true] at hc
      have h3 := Nat.eq_of_beq_eq_true hc.2
      subst h3
      exact zm_iinc hx hb hz (zk_b1_ok hc.1.1).1 (zk_b1_ok hc.1.1).2 (Nat.le_of_ble_eq_true hc.1.2) hd (KK _ List.mem_cons_self)
    · cases h
  | goto off =>
    have hl := hl2 (fun _ _ _ _ g => by cases g)
    subst hl
    simp only [zk_s] at h
    split at h
    · rename_i t ht
      cases h
      exact zm_goto hx hb (zk_t_ok ht) hd (KK _ List.mem_cons_self)
    · cases h
  | ifCond cd off =>
    have hl := hl2 (fun _ _ _ _ g => by cases g)
    subst hl
    simp only [zk_s] at h
    split at h
    · rename_i z S t hS ht
      split at h
      · rename_i hk
        cases h
        rw [Bool.or_eq_true] at hk
        exact zm_if hx hb hS (hk.imp Nat.eq_of_beq_eq_true Nat.eq_of_beq_eq_true) (zk_t_ok ht) hd (KK _ List.mem_cons_self) (KK _ (List.mem_cons_of_mem _ List.mem_cons_self))
      · cases h
    · cases h
  | if_icmp cd off =>
    have hl := hl2 (fun _ _ _ _ g => by cases g)
    subst hl
    simp only [zk_s] at h
    split at h
    · rename_i fb fa S t hS ht
      cases h
      exact zm_icmp hx hb hS (zk_t_ok ht) hd (KK _ List.mem_cons_self) (KK _ (List.mem_cons_of_mem _ List.mem_cons_self))
    · cases h
  | ifnull off =>
    have hl := hl2 (fun _ _ _ _ g => by cases g)
    subst hl
    simp only [zk_s] at h
    split at h
    · rename_i k f S t hS ht
      split at h
      · rename_i hk
        cases h
        have hk := Nat.eq_of_beq_eq_true hk
        generalize (k - 5) / 2 = r at hk KK
        subst hk
        exact zm_ifnull hx hb hS (zk_t_ok ht) hd (KK _ List.mem_cons_self) (KK _ (List.mem_cons_of_mem _ List.mem_cons_self))
      · cases h
    · cases h
  | ifnonnull off =>
    have hl := hl2 (fun _ _ _ _ g => by cases g)
    subst hl
    simp only [zk_s] at h
    split at h
    · rename_i k f S t hS ht
      split at h
      · rename_i hk
        cases h
        have hk := Nat.eq_of_beq_eq_true hk
        generalize (k - 5) / 2 = r at hk KK
        subst hk
        exact zm_ifnonnull hx hb hS (zk_t_ok ht) hd (KK _ List.mem_cons_self) (KK _ (List.mem_cons_of_mem _ List.mem_cons_self))
      · cases h
    · cases h
  | tableswitch d lo hi os =>
    simp only [zk_s] at h
    split at h
    · rename_i f S t hS ht
      split at h
      · rename_i r hr hc
        have h := Option.some.inj h
        subst h
        have hc := of_decide_eq_true hc
        rw [Array.length_toList] at hc
        refine zm_tsw hx hb hS hc (zk_t_ok ht) hd (KK _ List.mem_cons_self) (KK _ (List.mem_cons_of_mem _ List.mem_cons_self)) (fun j hj => ?_)
        obtain ⟨tj, g1, g2⟩ := zk_tc_ok (G := zw D cA K.2.1 ro sz H0 Ga K.1 (zk_G p l e R s m args below meth c cells slots Q D K.2.1 ro K.2.2.2.2.2.2.2.1)) hr (fun x hx => KK x (List.mem_cons_of_mem _ (List.mem_cons_of_mem _ hx))) j os[j] (by rw [Array.getElem?_toList]; exact Array.getElem?_eq_getElem hj)
        refine ⟨tj, fun o ho => ?_⟩
        rw [Array.getElem?_eq_getElem hj] at ho
        cases ho
        rw [Nat.zero_add] at g2
        exact ⟨g1, g2⟩
      · cases h
    · cases h
  | getfield idx =>
    have hl := hl2 (fun _ _ _ _ g => by cases g)
    subst hl
    exact zk_gf_ok hM hd h KK
  | putfield idx =>
    have hl := hl2 (fun _ _ _ _ g => by cases g)
    subst hl
    exact zk_pf_ok hM hd h KK
  | arraylength =>
    have hl := hl2 (fun _ _ _ _ g => by cases g)
    subst hl
    exact zk_al0_ok hM hd h KK
  | iaload =>
    have hl := hl2 (fun _ _ _ _ g => by cases g)
    subst hl
    exact zk_ald_ok hM (Or.inl ⟨rfl, rfl⟩) hd h KK
  | laload =>
    have hl := hl2 (fun _ _ _ _ g => by cases g)
    subst hl
    exact zk_ald_ok hM (Or.inr (Or.inl ⟨rfl, rfl⟩)) hd h KK
  | baload =>
    have hl := hl2 (fun _ _ _ _ g => by cases g)
    subst hl
    exact zk_ald_ok hM (Or.inr (Or.inr (Or.inl ⟨rfl, rfl⟩))) hd h KK
  | caload =>
    have hl := hl2 (fun _ _ _ _ g => by cases g)
    subst hl
    exact zk_ald_ok hM (Or.inr (Or.inr (Or.inr (Or.inl ⟨rfl, rfl⟩)))) hd h KK
  | aaload =>
    have hl := hl2 (fun _ _ _ _ g => by cases g)
    subst hl
    exact zk_ald_ok hM (Or.inr (Or.inr (Or.inr (Or.inr ⟨rfl, rfl⟩)))) hd h KK
  | iastore =>
    have hl := hl2 (fun _ _ _ _ g => by cases g)
    subst hl
    exact zk_ast_ok hM (Or.inl ⟨rfl, rfl, rfl⟩) hd h KK
  | lastore =>
    have hl := hl2 (fun _ _ _ _ g => by cases g)
    subst hl
    exact zk_ast_ok hM (Or.inr (Or.inl ⟨rfl, rfl, rfl⟩)) hd h KK
  | bastore =>
    have hl := hl2 (fun _ _ _ _ g => by cases g)
    subst hl
    exact zk_ast_ok hM (Or.inr (Or.inr ⟨rfl, rfl, rfl⟩)) hd h KK
  | ldc idx =>
    have hl := hl2 (fun _ _ _ _ g => by cases g)
    subst hl
    simp only [zk_s] at h
    split at h
    · rename_i n hn
      cases h
      obtain ⟨own, x, h1, h2, h3⟩ := hM.2.2.2.2.2.1 idx n (zk_a_mem hn)
      exact zm_ldc hx hb h1 h2 h3 hd (KK _ List.mem_cons_self)
    · cases h
  | ldc_w idx =>
    have hl := hl2 (fun _ _ _ _ g => by cases g)
    subst hl
    simp only [zk_s] at h
    split at h
    · rename_i n hn
      cases h
      obtain ⟨own, x, h1, h2, h3⟩ := hM.2.2.2.2.2.1 idx n (zk_a_mem hn)
      exact zm_ldcw hx hb h1 h2 h3 hd (KK _ List.mem_cons_self)
    · cases h
  | ldc2_w idx =>
    have hl := hl2 (fun _ _ _ _ g => by cases g)
    subst hl
    simp only [zk_s] at h
    split at h
    · rename_i n hn
      cases h
      obtain ⟨own, x, h1, h2, h3⟩ := hM.2.2.2.2.2.2.1 idx n (zk_a_mem hn)
      exact zm_ldc2 hx hb h1 h2 h3 hd (KK _ List.mem_cons_self)
    · cases h
  | getstatic idx =>
    have hl := hl2 (fun _ _ _ _ g => by cases g)
    subst hl
    simp only [zk_s] at h
    split at h
    · rename_i t ht
      split at h
      · rename_i h23
        cases h
        simp only [Bool.or_eq_false_iff] at h23
        exact zm_push (fun g => by rw [g] at h23; exact absurd h23.1 (by decide)) (fun g => by rw [g] at h23; exact absurd h23.2 (by decide)) (hM.2.2.2.2.2.2.2.1 idx t (zk_a_mem ht) pc hd) (KK _ List.mem_cons_self)
      · cases h
    · cases h
  | invokestatic idx =>
    have hl := hl2 (fun _ _ _ _ g => by cases g)
    subst hl
    exact zk_cl_ok hM (Or.inl ⟨rfl, rfl⟩) hd h KK
  | invokevirtual idx =>
    have hl := hl2 (fun _ _ _ _ g => by cases g)
    subst hl
    exact zk_cl_ok hM (Or.inr (Or.inl ⟨rfl, rfl⟩)) hd h KK
  | invokespecial idx =>
    have hl := hl2 (fun _ _ _ _ g => by cases g)
    subst hl
    exact zk_cl_ok hM (Or.inr (Or.inr ⟨rfl, rfl⟩)) hd h KK
  | _ => exact absurd h (by simp [zk_s])
end ZQ7
end
section
/-! the whole checker: from the entry and from each point, till a point, an end, or a place where the method leaves otherwise -/
def zk_pt : List zp_P → Nat → Option zp_P
  | [], _ => none
  | P :: t, pc => match Nat.beq P.1 pc with
    | true => some P
    | false => zk_pt t pc
theorem zk_pt_mem {pts : List zp_P} {pc : Nat} {P : zp_P} (h : zk_pt pts pc = some P) : P ∈ pts ∧ P.1 = pc := by
  induction pts with
  | nil => cases h
  | cons e t ih =>
    unfold zk_pt at h
    split at h
    · rename_i he
      cases h
      exact ⟨List.mem_cons_self, Nat.eq_of_beq_eq_true he⟩
    · obtain ⟨h1, h2⟩ := ih h
      exact ⟨List.mem_cons_of_mem _ h1, h2⟩
def zk_lx (q : zs_S) : List zl_F → List zl_F → Bool
  | a :: A, b :: B => (zl_le q.1 q.2.1 (zl_add (zl_k 1) (zl_sub b a)) && zl_le q.1 q.2.1 (zl_sub (zl_k 1) a)) || (zl_le q.1 q.2.1 (zl_sub b a) && zk_lx q A B)
  | _, _ => false
def zk_lt : List Nat → List Nat → Prop
  | b :: B, a :: A => b < a ∨ (b = a ∧ zk_lt B A)
  | _, _ => False
theorem zk_ind (P : List Nat → Prop) : ∀ n : Nat, (∀ l, l.length = n → (∀ l', l'.length = n → zk_lt l' l → P l') → P l) → ∀ l, l.length = n → P l := by
  intro n
  induction n generalizing P with
  | zero =>
    intro h l hl
    refine h l hl (fun l' hl' hlt => ?_)
    match l', hl', hlt with
    | [], _, hlt => exact hlt.elim
  | succ n ih =>
    intro h l hl
    match l, hl with
    | a :: A, hl =>
      induction a using Nat.strongRecOn generalizing A with
      | ind a iha =>
        refine ih (fun A => P (a :: A)) (fun A hA hAll => ?_) A (by simpa using hl)
        refine h (a :: A) (by simp [hA]) (fun l' hl' hlt => ?_)
        match l', hl', hlt with
        | b :: B, hl', hlt =>
          rcases hlt with h1 | ⟨h1, h2⟩
          · exact iha b h1 B hl'
          · subst h1
            exact hAll B (by simpa using hl') h2
theorem zk_lx_ok {q : zs_S} {v : Nat → Int} (hB : zl_bd v q.1) (hC : ∀ f ∈ q.2.1, zl_at v f ≤ 0) : ∀ {A B : List zl_F}, zk_lx q A B = true → zk_lt (B.map (fun f => (zl_at v f).toNat)) (A.map (fun f => (zl_at v f).toNat))
  | a :: A, b :: B, h => by
    simp only [zk_lx, Bool.or_eq_true, Bool.and_eq_true] at h
    rcases h with ⟨h1, h2⟩ | ⟨h1, h2⟩
    · have h1 := zl_le_ok hB hC h1
      have h2 := zl_le_ok hB hC h2
      rw [zl_add_at, zl_sub_at, zl_k_at] at h1
      rw [zl_sub_at, zl_k_at] at h2
      refine Or.inl ?_
      show (zl_at v b).toNat < (zl_at v a).toNat
      omega
    · have h1 := zl_le_ok hB hC h1
      rw [zl_sub_at] at h1
      rcases Nat.lt_or_ge (zl_at v b).toNat (zl_at v a).toNat with g | g
      · exact Or.inl g
      · refine Or.inr ⟨?_, zk_lx_ok hB hC h2⟩
        show (zl_at v b).toNat = (zl_at v a).toNat
        omega
  | [], _, h => by simp [zk_lx] at h
  | _ :: _, [], h => by simp [zk_lx] at h
def zq_G (q : zs_S) (Gh : List zl_F) : zs_S := (q.1, q.2.1, q.2.2.1, q.2.2.2.1, q.2.2.2.2.1, Gh)
/-- at a point: is the state one of it, and has the measure fallen (mb)? n: how many numbers stay -/
def zk_ar (mb : Bool) (n : Nat) (q : zs_S) (P : zp_P) : Bool := match zp_sg (zq_G q (q.2.2.2.2.2.take n)) P with
  | some σ => zp_in (zq_G q (q.2.2.2.2.2.take n)) P σ && (!mb || zk_lx q (q.2.2.2.2.2.drop n) (P.2.2.2.2.2.2.2.map (zl_sB σ)))
  | none => false
/-- the answer and the fields behind, by an alternative of the method's own contract -/
def zk_po (q : zs_S) : List (Nat × Nat × Nat) → List zt_T → Option (List zl_F)
  | [], [] => some []
  | p :: ps, t :: ts => match zx_un (q.2.2.2.2.2.getD p.1 (zl_k 0)), zk_po q ps ts with
    | some i, some r => (match zf_get q.2.2.2.2.1 i p.2.1 p.2.2 with
      | some z => (match zx_ty q z t with
        | true => some (z.2 :: r)
        | false => none)
      | none => none)
    | _, _ => none
  | _, _ => none
def zk_rs (q : zs_S) : Option zt_T → Option zl_F
  | none => (match q.2.2.2.1 with
    | [] => some (zl_k 0)
    | _ => none)
  | some t => (match q.2.2.2.1 with
    | [z] => (match zx_ty q z t with
      | true => some z.2
      | false => none)
    | _ => none)
def zk_ra (k : zc_C) (n : Nat) (q : zs_S) (al : zc_A) : Bool := match zk_rs q al.1, zk_po q k.2.2.2.2.1 al.2.1 with
  | some f, some fs => al.2.2.all (fun R => zl_le q.1 q.2.1 (zl_sB (q.2.2.2.2.2.take n ++ f :: fs) R))
  | _, _ => false
def zk_rt (k : zc_C) (n : Nat) (q : zs_S) : Bool := k.2.2.2.2.2.any (zk_ra k n q)
def zk_ir : Instr → Nat
  | .ireturn => 1
  | .lreturn => 2
  | .areturn => 3
  | .return_ => 4
  | _ => 0
def zk_ts : Instr → Bool
  | .tableswitch _ _ _ _ => true
  | _ => false
/-- n: how many numbers stay; mb: are measures compared; k: the method's own contract; rc: how it returns (1 int, 2 long, 3 a reference, 4 nothing); fuel; first: the point's own place -/
def zk (K : zk_K) (tb : List (Nat × Instr × Nat)) (pts : List zp_P) (k : zc_C) (rc n : Nat) (mb : Bool) : Nat → Bool → Nat → zs_S → Bool
  | 0, _, _, _ => false
  | fuel + 1, first, pc, q => match zx_no q with
    | true => true
    | false => (match zk_pt pts pc, first with
      | some P, false => zk_ar mb n q P
      | _, _ => (match K.2.2.2.2.2.2.2.2.any (Nat.beq pc) with
        | true => true
        | false => (match zk_a tb pc with
          | some (i, len) => (match Nat.beq (zk_ir i) 0 with
            | false => Nat.beq (zk_ir i) rc && (Nat.beq len 1 && zk_rt k n q)
            | true => (match Nat.beq len (zk_ln i) || zk_ts i, zk_s K i len pc q with
              | true, some L => L.all (fun x => zk K tb pts k rc n mb fuel false x.1 x.2)
              | _, _ => false))
          | none => false)))
section ZQ8
variable {p : Program} {l : Launch} {e : Env} {R : Room} {s : State} {m : MethodId} {args : Array Value} {below : List Frame} {meth : Method} {c : Code} {cells slots : Nat} {Q : State → Prop} {cc : ByteArray}
variable {D : va_G} {cA : Nat → ClassId} {ro : Nat → Option Nat} {sz : Nat} {H0 : Heap} {Ga : List Int} {zn : String} {K : zk_K}
/-- what the ends give -/
def zk_E (p : Program) (l : Launch) (e : Env) (R : Room) (s : State) (m : MethodId) (args : Array Value) (below : List Frame) (meth : Method) (c : Code) (cells slots : Nat) (Q : State → Prop) (cc : ByteArray) (D : va_G) (cA : Nat → ClassId) (ro : Nat → Option Nat) (sz : Nat) (H0 : Heap) (K : zk_K) (k : zc_C) (rc : Nat) (vs : List Value) : Prop :=
  (∀ (pc : Nat) (i : Instr) H locs ls (x : Option Value), decode cc pc = .ok (i, 1) → zk_ir i = rc → ¬ rc = 0 → zh_ok D cA K.2.1 ro sz H0 H locs → zc_kept D K.2.1 ro K.2.2.2.2.2.2.2.1 s.heap H → (∃ al ∈ k.2.2.2.2.2, zc_post D K.2.1 ro k al s.heap H vs x) → W p l e R s m args below meth c H locs cells slots Q (F0 m pc ls x.toList)) ∧
  (∀ (pc : Nat) H locs (ls : Array Slot) st, pc ∈ K.2.2.2.2.2.2.2.2 → ls.size = K.1 → zh_ok D cA K.2.1 ro sz H0 H locs → zc_kept D K.2.1 ro K.2.2.2.2.2.2.2.1 s.heap H → W p l e R s m args below meth c H locs cells slots Q (F0 m pc ls st))
theorem zk_po_ok {RT : List zr_R} {nL : Nat} {q : zs_S} {v : Nat → Int} {H : Heap} {ls : Array Slot} {st vs : List Value} {G0 : List Int} (h : zs_ok D RT ro G0 nL q v H ls st) (hG : ∀ (j : Nat) (x : Value), vs[j]? = some x → G0[j]? = some (zi_of x)) : ∀ {ps : List (Nat × Nat × Nat)} {ts : List zt_T} {fs : List zl_F}, zk_po q ps ts = some fs → (∀ p ∈ ps, ∃ (a : Nat), vs[p.1]? = some (.ref a)) → zt_all ro (ps.map (zc_fv D RT H vs)) ts ∧ fs.map (zl_at v) = ps.map (fun p => zi_of (zc_fv D RT H vs p))
  | [], [], fs, hf, _ => by
    simp only [zk_po, Option.some.injEq] at hf
    subst hf
    exact ⟨trivial, rfl⟩
  | p :: ps, t :: ts, fs, hf, ho => by
    unfold zk_po at hf
    split at hf
    · rename_i i r h1 h2
      split at hf
      · rename_i z h3
        split at hf
        · rename_i h4
          cases hf
          obtain ⟨g1, g2⟩ := zk_po_ok h hG h2 (fun p' hp' => ho p' (List.mem_cons_of_mem _ hp'))
          obtain ⟨a, ha⟩ := ho p List.mem_cons_self
          obtain ⟨a', ci, n, gs, k1, k2, k3, k4, k5⟩ := h.2.2.2.2.1 _ (zf_get_mem h3)
          dsimp only at k1 k2 k3 k4 k5
          have e1 := hG _ _ ha
          rw [← h.2.2.2.2.2, List.getElem?_map] at e1
          have ea : a' = a := by
            rw [List.getD_eq_getElem?_getD] at h1
            cases hg : q.2.2.2.2.2[p.1]? with
            | none => rw [hg] at e1; cases e1
            | some g =>
              rw [hg] at e1 h1
              have e1 : zl_at v g = (a : Int) := Option.some.inj e1
              have h5 := zx_un_at h1 v
              simp only [Option.getD_some] at h5
              have : (a' : Int) = a := by rw [k1, ← h5, e1]
              omega
          subst ea
          have hfv : zc_fv D RT H vs p = zh_f D H a' ci p.2.2 := by
            unfold zc_fv
            rw [ha]
            dsimp only
            rw [show zr_ci RT p.2.1 = ci by simp [zr_ci, k3]]
          rw [← hfv] at k5
          exact ⟨⟨zx_ty_ok h k5 h4, g1⟩, by rw [List.map_cons, List.map_cons, g2, zi_of_ok k5 (zx_ty_3 h4)]⟩
        · cases hf
      · cases hf
    · cases hf
  | [], _ :: _, _, hf, _ => by simp [zk_po] at hf
  | _ :: _, [], _, hf, _ => by simp [zk_po] at hf
theorem zk_rt_ok {k : zc_C} {q : zs_S} {v : Nat → Int} {H : Heap} {ls : Array Slot} {st vs : List Value} {m0 : List Int} (hg : Ga = vs.map zi_of ++ k.2.1.map (fun e => zi_of (zc_fv D K.2.1 s.heap vs e.1))) (ho : ∀ p ∈ k.2.2.2.2.1, ∃ (a : Nat), vs[p.1]? = some (.ref a)) (h : zs_ok D K.2.1 ro (Ga ++ m0) K.1 q v H ls st) (hr : zk_rt k Ga.length q = true) :
    ∃ x : Option Value, st = x.toList ∧ ∃ al ∈ k.2.2.2.2.2, zc_post D K.2.1 ro k al s.heap H vs x := by
  obtain ⟨al, hal, ha⟩ := List.any_eq_true.mp hr
  unfold zk_ra at ha
  split at ha
  · rename_i f fs h1 h2
    have hG0 : ∀ (j : Nat) (x : Value), vs[j]? = some x → (Ga ++ m0)[j]? = some (zi_of x) := by
      intro j x hj
      have hl : j < vs.length := (List.getElem?_eq_some_iff.mp hj).1
      rw [hg, List.append_assoc, List.getElem?_append_left (by simpa using hl), List.getElem?_map, hj]; rfl
    obtain ⟨g1, g2⟩ := zk_po_ok h hG0 h2 ho
    have hst := h.2.2.2.1
    obtain ⟨x, e1, e2, e3⟩ : ∃ x : Option Value, st = x.toList ∧ zc_res ro al.1 x ∧ zl_at v f = zc_rv x := by
      unfold zk_rs at h1
      split at h1
      · rename_i hal1
        split at h1
        · rename_i hS
          cases h1
          rw [hS] at hst
          match st, hst with
          | [], _ => exact ⟨none, rfl, by rw [hal1]; trivial, zl_k_at v 0⟩
        · cases h1
      · rename_i t hal1
        split at h1
        · rename_i z hS
          split at h1
          · rename_i hty
            cases h1
            rw [hS] at hst
            match st, hst with
            | [y], hst => exact ⟨some y, rfl, by rw [hal1]; exact zx_ty_ok h hst.1 hty, (zi_of_ok hst.1 (zx_ty_3 hty)).symm⟩
          · cases h1
        · cases h1
    refine ⟨x, e1, al, hal, e2, g1, fun r hr => ?_⟩
    have h3 := List.all_eq_true.mp ha r hr
    have h4 := zl_le_ok h.1 h.2.1 h3
    rw [zl_sB_at] at h4
    have henv : (q.2.2.2.2.2.take Ga.length ++ f :: fs).map (zl_at v) = zc_env D K.2.1 k s.heap H vs x := by
      unfold zc_env
      rw [List.map_append, List.map_take, h.2.2.2.2.2, List.take_left, List.map_cons, g2, e3, hg]
    rw [henv] at h4
    exact h4
  · cases ha
theorem zk_sound {tb : List (Nat × Instr × Nat)} {pts : List zp_P} {k : zc_C} {rc : Nat} {mb : Bool} {vs : List Value} {m0 : List Int} (hM : zk_M p l e R s m args below meth c cells slots Q cc D cA ro sz H0 zn K) (hE : zk_E p l e R s m args below meth c cells slots Q cc D cA ro sz H0 K k rc vs) (hdec : ∀ x ∈ tb, decode cc x.1 = .ok x.2) (hg : Ga = vs.map zi_of ++ k.2.1.map (fun e => zi_of (zc_fv D K.2.1 s.heap vs e.1))) (ho : ∀ p ∈ k.2.2.2.2.1, ∃ (a : Nat), vs[p.1]? = some (.ref a))
    (hP : ∀ P ∈ pts, ∀ (v : Nat → Int) H locs ls st, zs_ok D K.2.1 ro Ga K.1 (zp_mk P) v H ls st → zh_ok D cA K.2.1 ro sz H0 H locs → (mb = true → zk_lt (P.2.2.2.2.2.2.2.map (fun f => (zl_at v f).toNat)) (m0.map Int.toNat)) → (zk_G p l e R s m args below meth c cells slots Q D K.2.1 ro K.2.2.2.2.2.2.2.1) P.1 H locs ls st) :
    ∀ (fuel : Nat) (first : Bool) (pc : Nat) (q : zs_S), zk K tb pts k rc Ga.length mb fuel first pc q = true → zw D cA K.2.1 ro sz H0 (Ga ++ m0) K.1 (zk_G p l e R s m args below meth c cells slots Q D K.2.1 ro K.2.2.2.2.2.2.2.1) pc q := by
  intro fuel
  induction fuel with
  | zero => intro first pc q h; simp [zk] at h
  | succ fuel ih =>
    intro first pc q h
    unfold zk at h
    split at h
    · rename_i hno
      intro hw v H locs ls st hs hh
      exact (zx_no_ok hs hno).elim
    · split at h
      · rename_i P hpt
        obtain ⟨hPm, hPpc⟩ := zk_pt_mem hpt
        subst hPpc
        unfold zk_ar at h
        split at h
        · rename_i σ hσ
          intro hw v H locs ls st hs hh
          rw [Bool.and_eq_true] at h
          have hs' : zs_ok D K.2.1 ro Ga K.1 (zq_G q (q.2.2.2.2.2.take Ga.length)) v H ls st := by
            refine ⟨hs.1, hs.2.1, hs.2.2.1, hs.2.2.2.1, hs.2.2.2.2.1, ?_⟩
            show (q.2.2.2.2.2.take Ga.length).map (zl_at v) = Ga
            rw [List.map_take, hs.2.2.2.2.2, List.take_left]
          have hin : zp_in (zq_G q (q.2.2.2.2.2.take Ga.length)) P σ = true := h.1
          refine hP P hPm _ H locs ls st (zp_in_ok hs' hσ hin) hh (fun hmb => ?_)
          have h2 := h.2
          rw [hmb] at h2
          simp only [Bool.not_true, Bool.false_or] at h2
          have h3 := zk_lx_ok hs.1 hs.2.1 h2
          rw [List.map_map] at h3
          have e1 : (q.2.2.2.2.2.drop Ga.length).map (fun f => (zl_at v f).toNat) = m0.map Int.toNat := by
            have : (q.2.2.2.2.2.drop Ga.length).map (zl_at v) = m0 := by rw [List.map_drop, hs.2.2.2.2.2, List.drop_left]
            rw [← this, List.map_map]; rfl
          rw [e1] at h3
          have e2 : (P.2.2.2.2.2.2.2.map ((fun f => (zl_at v f).toNat) ∘ zl_sB σ)) = P.2.2.2.2.2.2.2.map (fun f => (zl_at (fun u => (σ.map (zl_at v)).getD u 0) f).toNat) := List.map_congr_left (fun f _ => by
            show (zl_at v (zl_sB σ f)).toNat = _
            rw [zl_sB_at])
          rw [e2] at h3
          exact h3
        · cases h
      · split at h
        · rename_i hlf
          intro hw v H locs ls st hs hh hk
          obtain ⟨x, hx1, hx2⟩ := List.any_eq_true.mp hlf
          have hx2 := Nat.eq_of_beq_eq_true hx2
          subst hx2
          obtain ⟨lv, hlv, -⟩ := hs.2.2.1
          exact hE.2 pc H locs ls st hx1 hlv.1 hh hk
        · split at h
          · rename_i i len hi
            have hd := hdec (pc, i, len) (zk_a_mem hi)
            dsimp only at hd
            split at h
            · rename_i hir
              intro hw v H locs ls st hs hh hk
              rw [Bool.and_eq_true] at h
              have hrc := Nat.eq_of_beq_eq_true h.1
              have h2 := h.2
              rw [Bool.and_eq_true] at h2
              have hl1 := Nat.eq_of_beq_eq_true h2.1
              subst hl1
              obtain ⟨x, e1, hx⟩ := zk_rt_ok hg ho hs h2.2
              rw [e1]
              exact hE.1 pc i H locs ls x hd hrc (fun g => by rw [hrc, g] at hir; exact absurd hir (by decide)) hh hk hx
            · split at h
              · rename_i L hlen hstep
                refine zk_s_ok hM hd ?_ hstep (fun x hx => ih false x.1 x.2 (List.all_eq_true.mp h x hx))
                rw [Bool.or_eq_true] at hlen
                rcases hlen with g | g
                · exact Or.inl (Nat.eq_of_beq_eq_true g)
                · refine Or.inr ?_
                  unfold zk_ts at g
                  split at g
                  · exact ⟨_, _, _, _, rfl⟩
                  · cases g
              · cases h
          · cases h
end ZQ8
end
section
/-! the points close each other by their measures; the entry -/
def zb_f (n : Nat) (f : zl_F) : Bool := f.1.all (fun t => Nat.blt t.1 n)
theorem zb_f_ok {n : Nat} {f : zl_F} (h : zb_f n f = true) : zl_wf n f := fun t ht => Nat.le_of_ble_eq_true (List.all_eq_true.mp h t ht)
def zb_wf (q : zs_S) : Bool := q.2.1.all (zb_f q.1.length) && q.2.2.1.all (fun x => zb_f q.1.length x.2.2) && q.2.2.2.1.all (fun x => zb_f q.1.length x.2) && q.2.2.2.2.1.all (fun x => Nat.blt x.1.1 q.1.length && zb_f q.1.length x.2.2) && q.2.2.2.2.2.all (zb_f q.1.length)
theorem zb_wf_ok {q : zs_S} (h : zb_wf q = true) : zs_wf q := by
  unfold zb_wf at h
  simp only [Bool.and_eq_true] at h
  obtain ⟨⟨⟨⟨h1, h2⟩, h3⟩, h4⟩, h5⟩ := h
  refine ⟨fun f hf => zb_f_ok (List.all_eq_true.mp h1 f hf), fun x hx => zb_f_ok (List.all_eq_true.mp h2 x hx), fun x hx => zb_f_ok (List.all_eq_true.mp h3 x hx), fun x hx => ?_, fun g hg => zb_f_ok (List.all_eq_true.mp h5 g hg)⟩
  have h6 := List.all_eq_true.mp h4 x hx
  rw [Bool.and_eq_true] at h6
  exact ⟨Nat.le_of_ble_eq_true h6.1, zb_f_ok h6.2⟩
/-- the state with which a point is begun: its measures stay as numbers -/
def zp_st (P : zp_P) : zs_S := zq_G (zp_mk P) ((zp_mk P).2.2.2.2.2 ++ P.2.2.2.2.2.2.2)
def zk_ps (K : zk_K) (tb : List (Nat × Instr × Nat)) (pts : List zp_P) (k : zc_C) (rc n N fuel : Nat) : Bool := pts.all (fun P => Nat.beq P.2.2.2.2.2.2.2.length N && zb_wf (zp_st P) && zk K tb pts k rc n true fuel true P.1 (zp_st P))
section ZQ9
variable {p : Program} {l : Launch} {e : Env} {R : Room} {s : State} {m : MethodId} {args : Array Value} {below : List Frame} {meth : Method} {c : Code} {cells slots : Nat} {Q : State → Prop} {cc : ByteArray}
variable {D : va_G} {cA : Nat → ClassId} {ro : Nat → Option Nat} {sz : Nat} {H0 : Heap} {Ga : List Int} {zn : String} {K : zk_K}
theorem zk_points {tb : List (Nat × Instr × Nat)} {pts : List zp_P} {k : zc_C} {rc : Nat} {vs : List Value} {N fuel : Nat} (hM : zk_M p l e R s m args below meth c cells slots Q cc D cA ro sz H0 zn K) (hE : zk_E p l e R s m args below meth c cells slots Q cc D cA ro sz H0 K k rc vs) (hdec : ∀ x ∈ tb, decode cc x.1 = .ok x.2) (hg : Ga = vs.map zi_of ++ k.2.1.map (fun e => zi_of (zc_fv D K.2.1 s.heap vs e.1))) (ho : ∀ p ∈ k.2.2.2.2.1, ∃ (a : Nat), vs[p.1]? = some (.ref a)) (hc : zk_ps K tb pts k rc Ga.length N fuel = true) :
    ∀ P ∈ pts, ∀ (v : Nat → Int) H locs ls st, zs_ok D K.2.1 ro Ga K.1 (zp_mk P) v H ls st → zh_ok D cA K.2.1 ro sz H0 H locs → (zk_G p l e R s m args below meth c cells slots Q D K.2.1 ro K.2.2.2.2.2.2.2.1) P.1 H locs ls st := by
  have key : ∀ lst : List Nat, lst.length = N → ∀ P ∈ pts, ∀ (v : Nat → Int) H locs ls st, zs_ok D K.2.1 ro Ga K.1 (zp_mk P) v H ls st → zh_ok D cA K.2.1 ro sz H0 H locs → P.2.2.2.2.2.2.2.map (fun f => (zl_at v f).toNat) = lst → (zk_G p l e R s m args below meth c cells slots Q D K.2.1 ro K.2.2.2.2.2.2.2.1) P.1 H locs ls st := by
    refine zk_ind _ N (fun lst hlst ih => ?_)
    intro P hP v H locs ls st hs hh hm
    have h1 := List.all_eq_true.mp hc P hP
    simp only [Bool.and_eq_true] at h1
    obtain ⟨⟨h2, h3⟩, h4⟩ := h1
    have e1 : (P.2.2.2.2.2.2.2.map (zl_at v)).map Int.toNat = lst := by rw [List.map_map]; exact hm
    refine zk_sound (m0 := P.2.2.2.2.2.2.2.map (zl_at v)) hM hE hdec hg ho (fun P2 hP2 v2 H2 locs2 ls2 st2 hs2 hh2 hlt => ?_) fuel true P.1 (zp_st P) h4 (zb_wf_ok h3) v H locs ls st ?_ hh
    · have hlt := hlt rfl
      rw [e1] at hlt
      have h5 := List.all_eq_true.mp hc P2 hP2
      simp only [Bool.and_eq_true] at h5
      exact ih _ (by rw [List.length_map]; exact Nat.eq_of_beq_eq_true h5.1.1) hlt P2 hP2 v2 H2 locs2 ls2 st2 hs2 hh2 rfl
    · refine ⟨hs.1, hs.2.1, hs.2.2.1, hs.2.2.2.1, hs.2.2.2.2.1, ?_⟩
      show ((zp_mk P).2.2.2.2.2 ++ P.2.2.2.2.2.2.2).map (zl_at v) = Ga ++ P.2.2.2.2.2.2.2.map (zl_at v)
      rw [List.map_append, hs.2.2.2.2.2]
  intro P hP v H locs ls st hs hh
  have h1 := List.all_eq_true.mp hc P hP
  simp only [Bool.and_eq_true] at h1
  exact key _ (by rw [List.length_map]; exact Nat.eq_of_beq_eq_true h1.1.1) P hP v H locs ls st hs hh rfl
end ZQ9
/-- the entry by the method's own contract -/
def ze_L : Nat → Nat → List zt_T → List (Nat × zv_V)
  | _, _, [] => []
  | i, u, t :: ts => (i, (t.1, zl_id u)) :: ze_L (i + (match Nat.beq t.1 1 with
    | true => 2
    | false => 1)) (u + 1) ts
def ze_F : Nat → List ((Nat × Nat × Nat) × zt_T) → List ((Nat × Nat × Nat) × zv_V)
  | _, [] => []
  | u, x :: t => (x.1, (x.2.1, zl_id u)) :: ze_F (u + 1) t
def ze_mk (k : zc_C) : zs_S := (k.1.map zt_b ++ k.2.1.map (fun x => zt_b x.2), k.2.2.1, ze_L 0 0 k.1, [], ze_F k.1.length k.2.1, zp_G 0 (k.1.length + k.2.1.length))
def ze_ok (RT : List zr_R) (k : zc_C) : Bool := k.1.all (fun t => !(Nat.beq t.1 2 || Nat.beq t.1 3)) && k.2.1.all (fun x => !(Nat.beq x.2.1 2 || Nat.beq x.2.1 3) && (match k.1[x.1.1]?, RT[x.1.2.1]? with
    | some t, some (0, _, _, fs) => Nat.beq t.1 (4 + 2 * x.1.2.1) && Nat.blt x.1.2.2 fs.length
    | _, _ => false)) && k.2.2.2.2.1.all (fun p => match k.1[p.1]? with
    | some t => Nat.beq t.1 (4 + 2 * p.2.1)
    | none => false)
theorem zt_zv {ro : Nat → Option Nat} {v : Nat → Int} {x : Value} {t : zt_T} {f : zl_F} (h : zt_ok ro x t) (h2 : t.1 ≠ 2) (h3 : t.1 ≠ 3) (e : zl_at v f = zi_of x) : zv_ok ro v x (t.1, f) ∧ ((zt_b t).2 < (zt_b t).1 ∨ ((zt_b t).1 ≤ zi_of x ∧ zi_of x ≤ (zt_b t).2)) := by
  obtain ⟨k, lo, hi⟩ := t
  match k with
  | 0 =>
    obtain ⟨y, rfl, h5, h6⟩ := h
    exact ⟨⟨y, rfl, e.symm⟩, Or.inr ⟨h5, h6⟩⟩
  | 1 =>
    obtain ⟨y, rfl, h5, h6⟩ := h
    exact ⟨⟨y, rfl, e.symm⟩, Or.inr ⟨h5, h6⟩⟩
  | 2 => exact absurd rfl h2
  | 3 => exact absurd rfl h3
  | k + 4 =>
    rcases h with ⟨h4, rfl⟩ | ⟨a, rfl, h5⟩
    · exact ⟨Or.inl ⟨h4, rfl, e⟩, Or.inl (show (-1 : Int) < 0 by decide)⟩
    · exact ⟨Or.inr ⟨a, rfl, h5, e.symm⟩, Or.inl (show (-1 : Int) < 0 by decide)⟩
theorem zt_all_get {ro : Nat → Option Nat} : ∀ {vs : List Value} {ts : List zt_T} {j : Nat} {t : zt_T}, zt_all ro vs ts → ts[j]? = some t → ∃ x, vs[j]? = some x ∧ zt_ok ro x t
  | x :: vs, t :: ts, 0, _, h, e => by cases e; exact ⟨x, rfl, h.1⟩
  | x :: vs, t :: ts, j + 1, _, h, e => by
    obtain ⟨y, h1, h2⟩ := zt_all_get (j := j) h.2 (by simpa using e)
    exact ⟨y, by simpa using h1, h2⟩
  | [], [], _, _, _, e => by simp at e
  | [], _ :: _, _, _, h, _ => h.elim
  | _ :: _, [], _, _, h, _ => h.elim
theorem zt_all_len {ro : Nat → Option Nat} : ∀ {vs : List Value} {ts : List zt_T}, zt_all ro vs ts → vs.length = ts.length
  | [], [], _ => rfl
  | x :: vs, t :: ts, h => by simp [zt_all_len h.2]
  | [], _ :: _, h => h.elim
  | _ :: _, [], h => h.elim
theorem ze_L_ok {ro : Nat → Option Nat} {v : Nat → Int} : ∀ {vs : List Value} {ts : List zt_T} {i u : Nat}, zt_all ro vs ts → (∀ t ∈ ts, t.1 ≠ 2 ∧ t.1 ≠ 3) → (∀ (j : Nat) (x : Value), vs[j]? = some x → v (u + j) = zi_of x) → ∀ e ∈ ze_L i u ts, ∃ x : Value, (e.1, x) ∈ lv_args i vs ∧ zv_ok ro v x e.2
  | [], [], _, _, _, _, _, e, he => by cases he
  | x :: vs, t :: ts, i, u, h, hn, hv, e, he => by
    have h0 := zt_zv (v := v) (f := zl_id u) h.1 (hn t List.mem_cons_self).1 (hn t List.mem_cons_self).2 (by rw [zl_id_at]; exact hv 0 x rfl)
    have hcat : x.category = match Nat.beq t.1 1 with
      | true => 2
      | false => 1 := by
      rw [zv_cat h0.1]
      by_cases g : t.1 = 1
      · simp only [g]; rfl
      · rw [if_neg g, show Nat.beq t.1 1 = false by
          cases g2 : Nat.beq t.1 1 with
          | true => exact absurd (Nat.eq_of_beq_eq_true g2) g
          | false => rfl]
    rcases List.mem_cons.mp he with g | g
    · rw [g]
      exact ⟨x, List.mem_cons_self, h0.1⟩
    · obtain ⟨y, h1, h2⟩ := ze_L_ok (i := i + (match Nat.beq t.1 1 with
        | true => 2
        | false => 1)) (u := u + 1) h.2 (fun t' ht' => hn t' (List.mem_cons_of_mem _ ht')) (fun j y hy => by rw [show u + 1 + j = u + (j + 1) by omega]; exact hv (j + 1) y (by simpa using hy)) e g
      rw [← hcat] at h1
      have hc2 : i + x.category = if x.category = 2 then i + 2 else i + 1 := by
        rcases lv_cat x with c1 | c1 <;> rw [c1] <;> simp
      rw [hc2] at h1
      exact ⟨y, List.mem_cons_of_mem _ h1, h2⟩
  | [], _ :: _, _, _, h, _, _, _, _ => h.elim
  | _ :: _, [], _, _, h, _, _, _, _ => h.elim
theorem ze_F_ok {D : va_G} {RT : List zr_R} {ro : Nat → Option Nat} {v : Nat → Int} {H : Heap} {vs : List Value} (hobj : ∀ (j : Nat) (a : Nat), vs[j]? = some (.ref a) → v j = (a : Int)) : ∀ {ps : List ((Nat × Nat × Nat) × zt_T)} {u : Nat}, (∀ x ∈ ps, zt_ok ro (zc_fv D RT H vs x.1) x.2 ∧ x.2.1 ≠ 2 ∧ x.2.1 ≠ 3 ∧ ∃ (a ci n : Nat) (fs : List zt_T), vs[x.1.1]? = some (.ref a) ∧ ro a = some x.1.2.1 ∧ RT[x.1.2.1]? = some (0, ci, n, fs) ∧ x.1.2.2 < fs.length) → (∀ (j : Nat) (x : (Nat × Nat × Nat) × zt_T), ps[j]? = some x → v (u + j) = zi_of (zc_fv D RT H vs x.1)) → ∀ e ∈ ze_F u ps, zs_fact D RT ro v H e
  | [], _, _, _, e, he => by cases he
  | x :: ps, u, hp, hv, e, he => by
    rcases List.mem_cons.mp he with g | g
    · rw [g]
      obtain ⟨h1, h2, h3, a, ci, n, fs, h4, h5, h6, h7⟩ := hp x List.mem_cons_self
      have hfv : zc_fv D RT H vs x.1 = zh_f D H a ci x.1.2.2 := by
        unfold zc_fv
        rw [h4]
        dsimp only
        rw [show zr_ci RT x.1.2.1 = ci by simp [zr_ci, h6]]
      refine ⟨a, ci, n, fs, (hobj _ _ h4).symm, h5, h6, h7, ?_⟩
      dsimp only
      rw [← hfv]
      exact (zt_zv h1 h2 h3 (by rw [zl_id_at]; exact hv 0 x rfl)).1
    · exact ze_F_ok (u := u + 1) hobj (fun y hy => hp y (List.mem_cons_of_mem _ hy)) (fun j y hy => by rw [show u + 1 + j = u + (j + 1) by omega]; exact hv (j + 1) y (by simpa using hy)) e g
theorem ze_mk_ok {D : va_G} {RT : List zr_R} {ro : Nat → Option Nat} {k : zc_C} {H : Heap} {vs : List Value} {nL : Nat} {ls : Array Slot} (hk : ze_ok RT k = true) (hp : zc_pre D RT ro k H vs) (hl : lv_has ls nL (lv_args 0 vs)) :
    zs_ok D RT ro (vs.map zi_of ++ k.2.1.map (fun e => zi_of (zc_fv D RT H vs e.1))) nL (ze_mk k) (fun u => (vs.map zi_of ++ k.2.1.map (fun e => zi_of (zc_fv D RT H vs e.1))).getD u 0) H ls [] ∧ ∀ p ∈ k.2.2.2.2.1, ∃ (a : Nat), vs[p.1]? = some (.ref a) := by
  obtain ⟨h1, h2, h3⟩ := hp
  unfold ze_ok at hk
  simp only [Bool.and_eq_true] at hk
  obtain ⟨⟨k1, k2⟩, k3⟩ := hk
  have n1 : ∀ t ∈ k.1, t.1 ≠ 2 ∧ t.1 ≠ 3 := fun t ht => by
    have := List.all_eq_true.mp k1 t ht
    simp only [Bool.not_eq_true', Bool.or_eq_false_iff] at this
    exact ⟨fun g => by rw [g] at this; exact absurd this.1 (by decide), fun g => by rw [g] at this; exact absurd this.2 (by decide)⟩
  have hlen := zt_all_len h1
  have hv1 : ∀ (j : Nat) (x : Value), vs[j]? = some x → (vs.map zi_of ++ k.2.1.map (fun e => zi_of (zc_fv D RT H vs e.1))).getD j 0 = zi_of x := fun j x hj => by
    have := (List.getElem?_eq_some_iff.mp hj).1
    rw [List.getD_eq_getElem?_getD, List.getElem?_append_left (by simpa using this), List.getElem?_map, hj]; rfl
  have hv2 : ∀ (j : Nat) (x : (Nat × Nat × Nat) × zt_T), k.2.1[j]? = some x → (vs.map zi_of ++ k.2.1.map (fun e => zi_of (zc_fv D RT H vs e.1))).getD (k.1.length + j) 0 = zi_of (zc_fv D RT H vs x.1) := fun j x hj => by
    rw [List.getD_eq_getElem?_getD, List.getElem?_append_right (by simp [hlen]), List.length_map, hlen, Nat.add_sub_cancel_left, List.getElem?_map, hj]; rfl
  have hobj : ∀ (j r : Nat) (t : zt_T), k.1[j]? = some t → t.1 = 4 + 2 * r → ∃ a : Nat, vs[j]? = some (.ref a) ∧ ro a = some r := fun j r t ht hr => by
    obtain ⟨x, g1, g2⟩ := zt_all_get h1 ht
    obtain ⟨kt, lo, hi⟩ := t
    dsimp only at hr
    subst hr
    rw [show 4 + 2 * r = 2 * r + 4 by omega] at g2
    rcases g2 with ⟨g3, -⟩ | ⟨a, g3, g4⟩
    · omega
    · exact ⟨a, by rw [g1, g3], by rw [show 2 * r / 2 = r by omega] at g4; exact g4⟩
  have n2 : ∀ x ∈ k.2.1, x.2.1 ≠ 2 ∧ x.2.1 ≠ 3 ∧ ∃ (a ci n : Nat) (fs : List zt_T), vs[x.1.1]? = some (.ref a) ∧ ro a = some x.1.2.1 ∧ RT[x.1.2.1]? = some (0, ci, n, fs) ∧ x.1.2.2 < fs.length := fun x hx => by
    have g := List.all_eq_true.mp k2 x hx
    simp only [Bool.and_eq_true, Bool.not_eq_true', Bool.or_eq_false_iff] at g
    refine ⟨fun q => by rw [q] at g; exact absurd g.1.1 (by decide), fun q => by rw [q] at g; exact absurd g.1.2 (by decide), ?_⟩
    have g2 := g.2
    split at g2
    · rename_i t ci n fs ht hr
      rw [Bool.and_eq_true] at g2
      obtain ⟨a, a1, a2⟩ := hobj _ _ t ht (Nat.eq_of_beq_eq_true g2.1)
      exact ⟨a, ci, n, fs, a1, a2, hr, Nat.le_of_ble_eq_true g2.2⟩
    · cases g2
  refine ⟨⟨fun i b hb => ?_, h3, ⟨_, hl, ?_⟩, trivial, ?_, ?_⟩, fun p hp => ?_⟩
  · have hb : (k.1.map zt_b ++ k.2.1.map (fun x => zt_b x.2))[i]? = some b := hb
    rcases Nat.lt_or_ge i k.1.length with hi | hi
    · rw [List.getElem?_append_left (by simpa using hi), List.getElem?_map] at hb
      cases ht : k.1[i]? with
      | none => rw [ht] at hb; cases hb
      | some t =>
        rw [ht] at hb
        cases hb
        obtain ⟨x, g1, g2⟩ := zt_all_get h1 ht
        have := (zt_zv (v := fun _ => zi_of x) (f := zl_id 0) g2 (n1 t (List.mem_of_getElem? ht)).1 (n1 t (List.mem_of_getElem? ht)).2 (by rw [zl_id_at])).2
        dsimp only
        rw [hv1 i x g1]; exact this
    · obtain ⟨j, rfl⟩ : ∃ j, i = k.1.length + j := ⟨i - k.1.length, by omega⟩
      rw [List.getElem?_append_right (by simp), List.length_map, Nat.add_sub_cancel_left, List.getElem?_map] at hb
      cases ht : k.2.1[j]? with
      | none => rw [ht] at hb; cases hb
      | some x =>
        rw [ht] at hb
        cases hb
        have hm := List.mem_of_getElem? ht
        have := (zt_zv (v := fun _ => zi_of (zc_fv D RT H vs x.1)) (f := zl_id 0) (h2 x hm) (n2 x hm).1 (n2 x hm).2.1 (by rw [zl_id_at])).2
        dsimp only
        rw [hv2 j x ht]; exact this
  · exact ze_L_ok h1 n1 (fun j x hj => by rw [Nat.zero_add]; exact hv1 j x hj)
  · exact ze_F_ok (fun j a ha => hv1 j (.ref a) ha) (fun x hx => ⟨h2 x hx, n2 x hx⟩) (fun j x hj => hv2 j x hj)
  · refine zp_G_map _ 0 _ (by simp [hlen]) (fun i x hx => ?_)
    rw [Nat.zero_add, List.getD_eq_getElem?_getD, hx]; rfl
  · have g := List.all_eq_true.mp k3 p hp
    split at g
    · rename_i t ht
      obtain ⟨a, a1, -⟩ := hobj _ _ t ht (Nat.eq_of_beq_eq_true g)
      exact ⟨a, a1⟩
    · cases g
end
section
/-! contracts of methods, and the rows of calls out of them -/
theorem zy_ofW {l : Launch} {y : MethodName} {ws ws' : List Cond} {rm : Room} {Pc : Array Value → State → Prop} {Qc : Array Value → State → Outcome → State → Prop} {mc ms : Nat} {free : Addr → Prop} {cc : ByteArray} {maxL : Nat} {ret : Option FieldType}
    (hy : plainFor y = true) (hw : ws = Cond.code y cc maxL ret :: ws')
    (body : ∀ p e s m args below meth c s₁, BodyLoose p l y (headSpec ws rm) cc maxL ret e s m args below meth c s₁ → c.maxLocals = maxL → Pc args s →
      W p l e (headSpec ws rm).room s m args below meth c s.heap [] 0 0 (MQ below Qc args s mc ms free) (entryFrame m args maxL)) : Met l y ws rm Pc Qc mc ms free := by
  refine MetFree.of_bodySF (code := cc) (maxLocals := maxL) (ret := ret) hy ?_ ?_
  · intro args s m h hn
    obtain ⟨meth, c, h1, h2, h3, h4, h5, h6, -, -⟩ := Cond.code_spec hn (atoms_spec (ws := ws) h _ (by rw [hw]; exact List.mem_cons_self))
    exact ⟨meth, c, h1, h2, h3, h4, h5, h6⟩
  · intro p e s m args below meth c s₁ B hml hP _
    have hh0 : s₁.heap = s.heap := by rw [B.state]; rfl
    obtain ⟨t, a1, o, b1, b2, b3⟩ := body p e s m args below meth c s₁ B hml hP s₁ hh0 (Stand.of_body B)
    exact ⟨t, o, a1, b1, b2, ⟨b3.1, b3.2⟩⟩
def zy_Pc (D : va_G) (cA : Nat → ClassId) (RT : List zr_R) (ro : Nat → Option Nat) (sz : Nat) (H0 : Heap) (Kn : State → Prop) (k : zc_C) : Array Value → State → Prop := fun a U => ∃ vs : List Value, a = vs.toArray ∧ zh_ok D cA RT ro sz H0 U.heap [] ∧ zc_pre D RT ro k U.heap vs ∧ Kn U
def zy_Qc (D : va_G) (cA : Nat → ClassId) (RT : List zr_R) (ro : Nat → Option Nat) (sz : Nat) (H0 : Heap) (k : zc_C) : Array Value → State → Outcome → State → Prop := fun a st oc t => ∃ (vs : List Value) (x : Option Value), a = vs.toArray ∧ oc = .returned x ∧ zh_ok D cA RT ro sz H0 t.heap [] ∧ zc_kept D RT ro k.2.2.2.1 st.heap t.heap ∧ ∃ al ∈ k.2.2.2.2.2, zc_post D RT ro k al st.heap t.heap vs x
def zy_fr (sz : Nat) : Addr → Prop := fun q => sz ≤ q
def zy_M (l : Launch) (D : va_G) (cA : Nat → ClassId) (RT : List zr_R) (ro : Nat → Option Nat) (sz : Nat) (H0 : Heap) (Kn : State → Prop) (y : MethodName) (ws : List Cond) (rm : Room) (k : zc_C) : Prop := Met l y ws rm (zy_Pc D cA RT ro sz H0 Kn k) (zy_Qc D cA RT ro sz H0 k) 0 0 (zy_fr sz)
/-- what is known of the tables doesn't hang on frames or heap -/
def zy_Kb (Kn : State → Prop) : Prop := (∀ (u U : State), u.vm.Alike U.vm → Kn u → Kn U)
section ZY
variable {p : Program} {l : Launch} {e : Env} {R : Room} {s : State} {m : MethodId} {args : Array Value} {below : List Frame} {meth : Method} {c : Code} {cells slots : Nat} {Q : State → Prop} {cc bytes : ByteArray}
variable {D : va_G} {cA : Nat → ClassId} {RT : List zr_R} {ro : Nat → Option Nat} {sz : Nat} {H0 : Heap} {Kn : State → Prop} {k : zc_C} {y : MethodName} {ws : List Cond} {rm : Room} {nL maxL idx n pc : Nat} {ret : Option FieldType} {Ts : List Cond} {own C : String}
theorem zh_ok.l0 {H : Heap} {locs : List Loc} (h : zh_ok D cA RT ro sz H0 H locs) : zh_ok D cA RT ro sz H0 H [] := ⟨h.1, h.2.1, fun q hq => (by cases hq), h.2.2.2⟩
theorem zy_blind (hKb : zy_Kb Kn) : FrameBlind (zy_Pc D cA RT ro sz H0 Kn k) := by
  intro a U g mk h
  obtain ⟨vs, h1, h2, h3, h4⟩ := h
  exact ⟨vs, h1, h2, h3, hKb U (U.calling g mk a) (Vm.Alike.refl U.vm) h4⟩
theorem zt_arr_inj {a b : List Value} (h : a.toArray = b.toArray) : a = b := by
  have := congrArg Array.toList h
  simpa using this
theorem zy_run {H : Heap} {locs : List Loc} {ls : Array Slot} {st vs : List Value} {a : Array Value} {g : JFrame} (hh : zh_ok D cA RT ro sz H0 H locs) (ha : a = vs.toArray) (hg : g = F0 m pc ls g.stack)
    (hr : va_Run p l e R s m args below meth c H locs cells slots 0 0 g st (zy_Qc D cA RT ro sz H0 k a) (zy_fr sz))
    (kk : ∀ H' locs' x, zh_ok D cA RT ro sz H0 H' locs' → zc_kept D RT ro k.2.2.2.1 H H' → (∃ al ∈ k.2.2.2.2.2, zc_post D RT ro k al H H' vs x) → W p l e R s m args below meth c H' locs' cells slots Q (F0 m (pc + 3) ls (x.toList ++ st))) : W p l e R s m args below meth c H locs cells slots Q g := by
  intro T hT X
  obtain ⟨v, st0, t, T', L, h0, X', hL, e1, e2, hq, go⟩ := hr T hT X
  obtain ⟨vs', x, q1, q2, q3, q4, q5⟩ := hq
  have hvs : vs' = vs := zt_arr_inj (by rw [← q1, ha])
  subst hvs
  cases q2
  rw [h0] at q4 q5
  have hh' : zh_ok D cA RT ro sz H0 t.heap (locs ++ L) := ⟨q3.1, q3.2.1, fun q hq => (List.mem_append.mp hq).elim (hh.2.2.1 q) (hL q), q3.2.2.2⟩
  obtain ⟨tt, b1, b2⟩ := kk t.heap (locs ++ L) v hh' q4 q5 T' e1 X'
  refine ⟨tt, go tt ?_, b2⟩
  rw [hg]
  exact b1
theorem zy_rowS (S : CallFix p m c cc nL s args Ts own) (hM : zy_M l D cA RT ro sz H0 Kn y ws rm k) (cw : CallB R s args own idx y bytes maxL ret ws rm 0 0 k.1.length ∧ (Cond.static y).before args s = true) (hKn : Kn s) (hKb : zy_Kb Kn) (hf : cells ≤ R.cells ∧ slots ≤ R.slots) (hd : decode cc pc = .ok (.invokestatic idx, 3)) :
    zc_row D cA RT ro sz H0 nL (fun pc H locs ls st => W p l e R s m args below meth c H locs cells slots Q (F0 m pc ls st)) pc (pc + 3) k := by
  intro H locs ls st vs hz hwt hh hp kk
  refine zy_run (pc := pc) (ls := ls) (a := vs.toArray) hh rfl rfl (va_runS (As := vs) (rest := st) S hM cw ⟨zy_blind hKb, fun U hU hW => ⟨vs, rfl, by rw [hU]; exact hh.l0, by rw [hU]; exact hp, hKb s U hW.alike hKn⟩⟩ rfl (zt_all_len hp.1) hz rfl (lv_room hwt) hd hf) kk
theorem zy_rowV {r ci n0 : Nat} {fs : List zt_T} {lo hi : Int} {ts : List zt_T} (S : CallFix p m c cc nL s args Ts own) (hM : zy_M l D cA RT ro sz H0 Kn y ws rm k) (cw : CallW R s args own C idx y bytes maxL ret ws rm 0 0 ts.length) (hk : k.1 = (4 + 2 * r, lo, hi) :: ts) (hr : RT[r]? = some (0, ci, n0, fs)) (hC : s.vm.findClass C = some (D.1 ci)) (hKn : Kn s) (hKb : zy_Kb Kn) (hf : cells ≤ R.cells ∧ slots ≤ R.slots) (hd : decode cc pc = .ok (.invokevirtual idx, 3)) :
    zc_row D cA RT ro sz H0 nL (fun pc H locs ls st => W p l e R s m args below meth c H locs cells slots Q (F0 m pc ls st)) pc (pc + 3) k := by
  intro H locs ls st vs hz hwt hh hp kk
  have h1 := hp.1
  rw [hk] at h1
  match vs, h1 with
  | x0 :: vs, h1 =>
    obtain ⟨a, rfl, ha⟩ : ∃ a : Nat, x0 = .ref a ∧ ro a = some r := by
      have h4 := h1.1
      rw [show 4 + 2 * r = 2 * r + 4 by omega] at h4
      rcases h4 with ⟨h5, -⟩ | ⟨a, h5, h6⟩
      · omega
      · exact ⟨a, h5, by rw [show 2 * r / 2 = r by omega] at h6; exact h6⟩
    obtain ⟨-, cell, c1, c2, c3, -⟩ := zh_obj hh ha hr
    rw [List.reverse_cons, List.append_assoc]
    refine zy_run (vs := .ref a :: vs) (pc := pc) (ls := ls) (a := (Value.ref a :: vs).toArray) hh rfl rfl (va_runV (b := a) (As := vs) (rest := st) S hM cw ⟨zy_blind hKb, ⟨cell, c1, by rw [c3]; rfl, by rw [c2]; exact hC⟩, fun U hU hW => ⟨.ref a :: vs, rfl, by rw [hU]; exact hh.l0, by rw [hU]; exact hp, hKb s U hW.alike hKn⟩⟩ rfl (zt_all_len h1.2) hz rfl (lv_room hwt) hd hf) kk
/-- the checks of a method -/
def zy_ck (K : zk_K) (tb : List (Nat × Instr × Nat)) (pts : List zp_P) (k : zc_C) (rc N fuel : Nat) : Bool := zk_ps K tb pts k rc (k.1.length + k.2.1.length) N fuel && zb_wf (ze_mk k) && zk K tb pts k rc (k.1.length + k.2.1.length) false fuel false 0 (ze_mk k) && ze_ok K.2.1 k
theorem zy_body {zn : String} {K : zk_K} {tb : List (Nat × Instr × Nat)} {pts : List zp_P} {rc N fuel : Nat} {vs : List Value} {ls : Array Slot} (hM : zk_M p l e R s m args below meth c cells slots Q cc D cA ro sz H0 zn K) (hE : zk_E p l e R s m args below meth c cells slots Q cc D cA ro sz H0 K k rc vs) (hdec : ∀ x ∈ tb, decode cc x.1 = .ok x.2) (hc : zy_ck K tb pts k rc N fuel = true) (hp : zc_pre D K.2.1 ro k s.heap vs) (hh : zh_ok D cA K.2.1 ro sz H0 s.heap []) (hl : lv_has ls K.1 (lv_args 0 vs)) :
    W p l e R s m args below meth c s.heap [] cells slots Q (F0 m 0 ls []) := by
  unfold zy_ck at hc
  simp only [Bool.and_eq_true] at hc
  obtain ⟨⟨⟨h1, h2⟩, h3⟩, h4⟩ := hc
  obtain ⟨g1, g2⟩ := ze_mk_ok h4 hp hl
  have hlen : (vs.map zi_of ++ k.2.1.map (fun e => zi_of (zc_fv D K.2.1 s.heap vs e.1))).length = k.1.length + k.2.1.length := by
    simp [zt_all_len hp.1]
  rw [← hlen] at h1 h3
  have hP := zk_points hM hE hdec rfl g2 h1
  have h5 := zk_sound (mb := false) (m0 := []) hM hE hdec rfl g2 (fun P hPm v H locs ls st hs hh _ => hP P hPm v H locs ls st hs hh) fuel false 0 (ze_mk k) h3
  rw [List.append_nil] at h5
  exact h5 (zb_wf_ok h2) _ _ _ _ _ g1 hh (fun a r j ci n fs _ _ _ _ => rfl)
end ZY
/-- how an alternative's answer fits a way to return -/
def zy_rk (rc : Nat) (ret : Option FieldType) (t : Option zt_T) : Bool := match rc, ret, t with
  | 1, some .int, some (0, _, _) => true
  | 1, some .boolean, some (0, lo, hi) => decide (0 ≤ lo) && decide (hi ≤ 1)
  | 2, some .long, some (1, _, _) => true
  | 3, some (.object _), some (_ + 4, _, _) => true
  | 4, none, none => true
  | _, _, _ => false
theorem zn_bool {x : Int32} (h1 : 0 ≤ x.toInt) (h2 : x.toInt ≤ 1) : narrow .boolean (.int x) = .int x := by
  rcases (show x.toInt = 0 ∨ x.toInt = 1 by omega) with h | h
  · have : x = 0 := Int32.toInt_inj.mp h
    rw [this]; rfl
  · have : x = 1 := Int32.toInt_inj.mp h
    rw [this]; rfl
theorem zy_ret {p : Program} {l : Launch} {e : Env} {R : Room} {s : State} {m : MethodId} {args : Array Value} {below : List Frame} {meth : Method} {c : Code} {cells slots : Nat} {cc : ByteArray} {D : va_G} {cA : Nat → ClassId} {ro : Nat → Option Nat} {sz : Nat} {H0 : Heap} {K : zk_K} {k : zc_C} {rc : Nat} {ret : Option FieldType} {vs : List Value}
    (hx : p.tables.exec = Jvm.exec) (hb : c.code = cc) (hr : meth.sig.returnType = ret) (hlocks : meth.locks = false) (ha : args = vs.toArray) (hms : K.2.2.2.2.2.2.2.1 = k.2.2.2.1) (hk : k.2.2.2.2.2.all (fun al => zy_rk rc ret al.1) = true)
    {pc : Nat} {i : Instr} {H : Heap} {locs : List Loc} {ls : Array Slot} {x : Option Value} (hd : decode cc pc = .ok (i, 1)) (hi : zk_ir i = rc) (hh : zh_ok D cA K.2.1 ro sz H0 H locs) (hkp : zc_kept D K.2.1 ro K.2.2.2.2.2.2.2.1 s.heap H) (hal : ∃ al ∈ k.2.2.2.2.2, zc_post D K.2.1 ro k al s.heap H vs x) :
    W p l e R s m args below meth c H locs cells slots (MQ below (zy_Qc D cA K.2.1 ro sz H0 k) args s cells slots (zy_fr sz)) (F0 m pc ls x.toList) := by
  have hq : ∀ t : State, t.heap = H → s.WarmedH t.vm → zy_Qc D cA K.2.1 ro sz H0 k args s (.returned x) t := fun t ht _ => ⟨vs, x, ha, rfl, by rw [ht]; exact hh.l0, by rw [ht, ← hms]; exact hkp, by rw [ht]; exact hal⟩
  have hf : ∀ q ∈ locs, zy_fr sz q.base := hh.2.2.1
  obtain ⟨al, hal, hres, -⟩ := hal
  replace hk := List.all_eq_true.mp hk al hal
  unfold zy_rk at hk
  split at hk
  · rename_i lo hi' e3
    rw [e3] at hres
    match x, hres with
    | some x, hres =>
      obtain ⟨y, rfl, -, -⟩ := hres
      have : i = .ireturn := by cases i <;> first | rfl | (simp [zk_ir] at hi)
      subst this
      exact W.zret hx hb hr rfl hq hf hd
  · rename_i lo hi' e3
    rw [e3] at hres
    rw [Bool.and_eq_true] at hk
    match x, hres with
    | some x, hres =>
      obtain ⟨y, rfl, y1, y2⟩ := hres
      dsimp only at y1 y2
      have h1 := of_decide_eq_true hk.1
      have h2 := of_decide_eq_true hk.2
      have : i = .ireturn := by cases i <;> first | rfl | (simp [zk_ir] at hi)
      subst this
      exact W.zret hx hb hr (zn_bool (by omega) (by omega)) hq hf hd
  · rename_i lo hi' e3
    rw [e3] at hres
    match x, hres with
    | some x, hres =>
      obtain ⟨y, rfl, -, -⟩ := hres
      have : i = .lreturn := by cases i <;> first | rfl | (simp [zk_ir] at hi)
      subst this
      exact W.lret hx hb hr hq hf hd
  · rename_i nm j lo hi' e3
    rw [e3] at hres
    match x, hres with
    | some x, hres =>
      have : i = .areturn := by cases i <;> first | rfl | (simp [zk_ir] at hi)
      subst this
      refine W.aret hx hb hr (Or.inl ⟨_, rfl⟩) ?_ hq hf hd
      rcases hres with ⟨-, h⟩ | ⟨a, h, -⟩
      · exact Or.inl h
      · exact Or.inr ⟨a, h⟩
  · rename_i e3
    rw [e3] at hres
    match x, hres with
    | none, _ =>
      have : i = .return_ := by cases i <;> first | rfl | (simp [zk_ir] at hi)
      subst this
      exact W.vret hx hb hr hq hf hd
  · cases hk
/-- the weight of the arguments -/
def zy_aw (ts : List zt_T) : Nat := (ts.map (fun t => match Nat.beq t.1 1 with
  | true => 2
  | false => 1)).sum
theorem zy_aw_ok {ro : Nat → Option Nat} : ∀ {vs : List Value} {ts : List zt_T}, zt_all ro vs ts → (lg_sl vs).length ≤ zy_aw ts
  | [], [], _ => Nat.le_refl _
  | x :: vs, t :: ts, h => by
    have h2 := zy_aw_ok h.2
    have e1 : lg_sl (x :: vs) = (if x.category = 2 then [.val x, .second] else [.val x]) ++ lg_sl vs := rfl
    have e2 : zy_aw (t :: ts) = (match Nat.beq t.1 1 with
      | true => 2
      | false => 1) + zy_aw ts := by simp [zy_aw]
    rw [e1, e2, List.length_append]
    obtain ⟨kt, lo, hi⟩ := t
    by_cases g : kt = 1
    · subst g
      obtain ⟨y, rfl, -, -⟩ := h.1
      have : (if (Value.long y).category = 2 then [Slot.val (.long y), .second] else [.val (.long y)]).length = 2 := rfl
      rw [this]
      show 2 + _ ≤ 2 + _
      omega
    · have hc : ¬ x.category = 2 := by
        have h1 := h.1
        match kt, h1 with
        | 0, h1 => obtain ⟨y, rfl, -⟩ := h1; simp [Value.category]
        | 1, _ => exact absurd rfl g
        | 2, h1 => rw [show x = .null from h1]; decide
        | 3, h1 => exact h1.elim
        | k + 4, h1 =>
          rcases h1 with ⟨-, rfl⟩ | ⟨a, rfl, -⟩
          · decide
          · simp [Value.category]
      rw [if_neg hc, show Nat.beq kt 1 = false by
        cases g2 : Nat.beq kt 1 with
        | true => exact absurd (Nat.eq_of_beq_eq_true g2) g
        | false => rfl]
      show 1 + _ ≤ 1 + _
      omega
  | [], _ :: _, h => h.elim
  | _ :: _, [], h => h.elim
/-- a method's contract out of its checks -/
theorem zy_met {l : Launch} {D : va_G} {cA : Nat → ClassId} {ro : Nat → Option Nat} {sz : Nat} {H0 : Heap} {Kn : State → Prop} {k : zc_C} {y : MethodName} {ws ws' : List Cond} {rm : Room} {cc : ByteArray} {maxL : Nat} {ret : Option FieldType} {zn : String} {K : zk_K} {tb : List (Nat × Instr × Nat)} {pts : List zp_P} {rc N fuel : Nat}
    (hy : plainFor y = true) (hw : ws = Cond.code y cc maxL ret :: ws') (hK1 : K.1 = maxL) (haw : zy_aw k.1 ≤ maxL) (hms : K.2.2.2.2.2.2.2.1 = k.2.2.2.1) (hlf : K.2.2.2.2.2.2.2.2 = []) (hrc : k.2.2.2.2.2.all (fun al => zy_rk rc ret al.1) = true) (hdec : ∀ x ∈ tb, decode cc x.1 = .ok x.2) (hc : zy_ck K tb pts k rc N fuel = true)
    (hMM : ∀ (p : Program) (e : Env) (s : State) (m : MethodId) (args : Array Value) (below : List Frame) (meth : Method) (c : Code) (Q : State → Prop), p.tables.exec = Jvm.exec → c.code = cc → c.maxLocals = maxL → s.vm.findClass y.cls = some m.cls → (∀ w ∈ ws, w.before args s = true) → Kn s → zk_M p l e (headSpec ws rm).room s m args below meth c 0 0 Q cc D cA ro sz H0 zn K) : zy_M l D cA K.2.1 ro sz H0 Kn y ws rm k := by
  refine zy_ofW (cc := cc) (maxL := maxL) (ret := ret) hy hw ?_
  intro p e s m args below meth c s1 B hml hv
  obtain ⟨vs, rfl, hh, hp, hKn⟩ := hv
  have hl := lv_entry vs (n := maxL) (Nat.le_trans (zy_aw_ok hp.1) haw)
  rw [lg_entry_eq]
  generalize (lg_sl vs ++ List.replicate (maxL - (lg_sl vs).length) Slot.unset).toArray = ls at hl ⊢
  have hts := atoms_spec (ws := ws) B.pre
  have hlocks := B.notSynchronized
  refine zy_body (zn := zn) (K := K) (hMM p e s m vs.toArray below meth c _ B.exec B.bytes hml (findClass_of_methodNamed B.named) hts hKn) ⟨fun pc i H locs ls x hd hi hi0 hh hk hal => zy_ret B.exec B.bytes B.returns hlocks rfl hms hrc hd hi hh hk hal, fun pc H locs ls st hpc => (by rw [hlf] at hpc; cases hpc)⟩ hdec hc hp hh (by rw [hK1]; exact hl)
end
section
/-! the words of the tables, and what they give to the checker's tables -/
def gT : List Cond := lw_tbl.filter goodWord
theorem gT_in {w : Cond} (h : w ∈ lw_tbl) (hg : goodWord w = true) : w ∈ gT := List.mem_filter.mpr ⟨h, hg⟩
theorem tb_1 {w : Cond} (i : Nat) (h : tables_1_1[i]? = some w) (hg : goodWord w = true) : w ∈ gT := gT_in (List.mem_append_right _ (List.mem_append_left _ (List.mem_of_getElem? h))) hg
theorem tb_2 {w : Cond} (i : Nat) (h : tables_1_2[i]? = some w) (hg : goodWord w = true) : w ∈ gT := gT_in (List.mem_append_right _ (List.mem_append_right _ (List.mem_append_left _ (List.mem_of_getElem? h)))) hg
theorem tb_3 {w : Cond} (i : Nat) (h : tables_1_3[i]? = some w) (hg : goodWord w = true) : w ∈ gT := gT_in (List.mem_append_right _ (List.mem_append_right _ (List.mem_append_right _ (List.mem_append_left _ (List.mem_of_getElem? h))))) hg
theorem tb_4 {w : Cond} (i : Nat) (h : tables_1_4[i]? = some w) (hg : goodWord w = true) : w ∈ gT := gT_in (List.mem_append_right _ (List.mem_append_right _ (List.mem_append_right _ (List.mem_append_right _ (List.mem_append_left _ (List.mem_of_getElem? h)))))) hg
theorem tb_5 {w : Cond} (i : Nat) (h : tables_1_5[i]? = some w) (hg : goodWord w = true) : w ∈ gT := gT_in (List.mem_append_right _ (List.mem_append_right _ (List.mem_append_right _ (List.mem_append_right _ (List.mem_append_right _ (List.mem_append_left _ (List.mem_of_getElem? h))))))) hg
theorem tb_6 {w : Cond} (i : Nat) (h : tables_1_6[i]? = some w) (hg : goodWord w = true) : w ∈ gT := gT_in (List.mem_append_right _ (List.mem_append_right _ (List.mem_append_right _ (List.mem_append_right _ (List.mem_append_right _ (List.mem_append_right _ (List.mem_append_left _ (List.mem_of_getElem? h)))))))) hg
theorem tb_7 {w : Cond} (i : Nat) (h : tables_1_7[i]? = some w) (hg : goodWord w = true) : w ∈ gT := gT_in (List.mem_append_right _ (List.mem_append_right _ (List.mem_append_right _ (List.mem_append_right _ (List.mem_append_right _ (List.mem_append_right _ (List.mem_append_right _ (List.mem_append_left _ (List.mem_of_getElem? h))))))))) hg
theorem tb_8 {w : Cond} (i : Nat) (h : tables_1_8[i]? = some w) (hg : goodWord w = true) : w ∈ gT := gT_in (List.mem_append_right _ (List.mem_append_right _ (List.mem_append_right _ (List.mem_append_right _ (List.mem_append_right _ (List.mem_append_right _ (List.mem_append_right _ (List.mem_append_right _ (List.mem_of_getElem? h))))))))) hg
theorem tb_0 {w : Cond} (i : Nat) (h : (k2_sels lw_privs)[i]? = some w) (hg : goodWord w = true) : w ∈ gT := gT_in (List.mem_append_left _ (List.mem_of_getElem? h)) hg
abbrev gW (y : MethodName) (b : ByteArray) (n : Nat) (r : Option FieldType) : List Cond := Cond.code y b n r :: gT
theorem gT_gi {x : Cond} {y : MethodName} {b : ByteArray} {n : Nat} {r : Option FieldType} (hc : Cond.code y b n r ∈ gT) : GoodIn (x :: gT) (gW y b n r) := by
  intro w hw
  rcases List.mem_cons.mp hw with h | h
  · rw [h]; exact ⟨List.mem_cons_of_mem _ hc, good_of_word (List.mem_filter.mp hc).2⟩
  · exact ⟨List.mem_cons_of_mem _ h, good_of_word (List.mem_filter.mp h).2⟩
/-- the types that a field of a type takes -/
def zt_fd (t : zt_T) (ty : FieldType) : Bool := match t.1, ty with
  | 0, .int => true
  | 0, .boolean => decide (0 ≤ t.2.1) && decide (t.2.2 ≤ 1)
  | 1, .long => true
  | _ + 4, .object _ => true
  | _ + 4, .array _ => true
  | _, _ => false
theorem zt_fd_ok {ro : Nat → Option Nat} {t : zt_T} {ty : FieldType} (h : zt_fd t ty = true) (x : Value) (hx : zt_ok ro x t) : narrow ty x = x ∧ fits ty x = true := by
  obtain ⟨k, lo, hi⟩ := t
  unfold zt_fd at h
  split at h
  · rename_i e
    dsimp only at e
    subst e
    obtain ⟨y, rfl, -, -⟩ := hx
    exact ⟨rfl, rfl⟩
  · rename_i e
    dsimp only at e
    subst e
    obtain ⟨y, rfl, y1, y2⟩ := hx
    simp only [Bool.and_eq_true, decide_eq_true_eq] at h
    dsimp only at y1 y2
    rcases (show y.toInt = 0 ∨ y.toInt = 1 by omega) with g | g
    · have : y = 0 := Int32.toInt_inj.mp g
      rw [this]; exact ⟨rfl, rfl⟩
    · have : y = 1 := Int32.toInt_inj.mp g
      rw [this]; exact ⟨rfl, rfl⟩
  · rename_i e
    dsimp only at e
    subst e
    obtain ⟨y, rfl, -, -⟩ := hx
    exact ⟨rfl, rfl⟩
  · rename_i j nm e
    dsimp only at e
    subst e
    rcases hx with ⟨-, rfl⟩ | ⟨a, rfl, -⟩
    · exact ⟨rfl, rfl⟩
    · exact ⟨rfl, rfl⟩
  · rename_i j nm e
    dsimp only at e
    subst e
    rcases hx with ⟨-, rfl⟩ | ⟨a, rfl, -⟩
    · exact ⟨rfl, rfl⟩
    · exact ⟨rfl, rfl⟩
  · cases h
section ZW
variable {s : State} {m : MethodId} {args : Array Value} {D : va_G} {ro : Nat → Option Nat} {cl : List vw_C} {tys : List (ClassId × FieldType)} {own C : String} {T : u_T} {N r k idx : Nat}
theorem zf_get0 (hts : ∀ w ∈ gT, w.before args s = true) (hown : s.vm.findClass own = some m.cls) (hK : va_K D cl tys s) (hc : cl[r]? = some (C, T, N)) (hk : k < N) (hl : Cond.fieldLink own idx (T k).1 (T k).2.1 (T k).2.2.1 ∈ gT) (hin : ∀ w ∈ u_ws C T N, w ∈ gT) : zk_get s m args D idx r k := by
  obtain ⟨hS, hfc, kC, hkC, hkind⟩ := hK.1 r _ hc
  obtain ⟨cf, kf, fi, f, hi, hsl⟩ := hS k hk
  exact ⟨own, _, _, _, f, ⟨hown, hts _ hl, ⟨cf, kf, fi, hi⟩, (u_facts hfc hkC (u_lays hts hin hk) hi).1⟩, hsl⟩
theorem zf_put0 {ty : FieldType} {t : zt_T} (hts : ∀ w ∈ gT, w.before args s = true) (hown : s.vm.findClass own = some m.cls) (hK : va_K D cl tys s) (hc : cl[r]? = some (C, T, N)) (hk : k < N) (hl : Cond.fieldLink own idx (T k).1 (T k).2.1 (T k).2.2.1 ∈ gT) (hin : ∀ w ∈ u_ws C T N, w ∈ gT) (hfin : (T k).2.2.2 = false) (hd : parseFieldDescriptor (T k).2.2.1 = some ty) (ht : zt_fd t ty = true) : zk_put s m args D ro idx r k t := by
  obtain ⟨hS, hfc, kC, hkC, hkind⟩ := hK.1 r _ hc
  obtain ⟨cf, kf, fi, f, hi, hsl⟩ := hS k hk
  have hlay := hts _ (hin _ (u_in_lay hk))
  unfold u_lay at hlay
  rw [if_neg (by rw [hfin]; decide)] at hlay
  exact ⟨own, _, _, _, f, ⟨hown, hts _ hl, ⟨cf, kf, fi, hi⟩, (u_facts hfc hkC (u_lays hts hin hk) hi).1⟩, hsl, fun x hx => u_store hfc hkC hkind hlay hi hd (zt_fd_ok ht x hx).1 (zt_fd_ok ht x hx).2⟩
end ZW
/-- a field's entry stands on words -/
def zf_w (cl : List vw_C) (RT : List zr_R) (own : String) (x : Nat × Nat × Nat) : Prop := ∃ (C : String) (T : u_T) (N : Nat) (ty : FieldType) (n : Nat) (fs : List zt_T) (t : zt_T), cl[x.2.1]? = some (C, T, N) ∧ x.2.2 < N ∧ Cond.fieldLink own x.1 (T x.2.2).1 (T x.2.2).2.1 (T x.2.2).2.2.1 ∈ gT ∧ (∀ w ∈ u_ws C T N, w ∈ gT) ∧ parseFieldDescriptor (T x.2.2).2.2.1 = some ty ∧ RT[x.2.1]? = some (0, x.2.1, n, fs) ∧ fs[x.2.2]? = some t ∧ zt_fd t ty = true
def zf_nf (cl : List vw_C) (x : Nat × Nat) : Bool := match cl[x.1]? with
  | some q => !(q.2.1 x.2).2.2.2
  | none => false
theorem zf_clause {s : State} {m : MethodId} {args : Array Value} {D : va_G} {ro : Nat → Option Nat} {cl : List vw_C} {tys : List (ClassId × FieldType)} {own : String} {RT : List zr_R} {gf : List (Nat × Nat × Nat)} {ms : List (Nat × Nat)} (hts : ∀ w ∈ gT, w.before args s = true) (hown : s.vm.findClass own = some m.cls) (hK : va_K D cl tys s) (hg : ∀ x ∈ gf, zf_w cl RT own x) (hm : ms.all (zf_nf cl) = true) :
    ∀ (idx r k ci n : Nat) (fs : List zt_T) (t : zt_T), (idx, r, k) ∈ gf → RT[r]? = some (0, ci, n, fs) → fs[k]? = some t → zk_get s m args D idx ci k ∧ ((r, k) ∈ ms → zk_put s m args D ro idx ci k t) := by
  intro idx r k ci n fs t hx hr ht
  obtain ⟨C, T, N, ty, n', fs', t', h1, h2, h3, h4, h5, h6, h7, h8⟩ := hg _ hx
  dsimp only at h1 h2 h3 h4 h5 h6 h7
  cases hr.symm.trans h6
  cases ht.symm.trans h7
  refine ⟨zf_get0 hts hown hK h1 h2 h3 h4, fun hms => zf_put0 hts hown hK h1 h2 h3 h4 ?_ h5 h8⟩
  have h9 := List.all_eq_true.mp hm _ hms
  unfold zf_nf at h9
  dsimp only at h9
  rw [h1] at h9
  simpa using h9
section ZX
variable {p : Program} {l : Launch} {e : Env} {R : Room} {s : State} {m : MethodId} {args : Array Value} {below : List Frame} {meth : Method} {c : Code} {cells slots : Nat} {Q : State → Prop} {cc bytes : ByteArray}
variable {D : va_G} {cA : Nat → ClassId} {RT : List zr_R} {ro : Nat → Option Nat} {sz : Nat} {H0 : Heap} {Kn : State → Prop} {k : zc_C} {y : MethodName} {rm : Room} {nL maxL key idx pc : Nat} {ret : Option FieldType} {own C : String} {x0 : Cond}
theorem zr_S (hx : p.tables.exec = Jvm.exec) (hb : c.code = cc) (hml : c.maxLocals = nL) (hown : s.vm.findClass own = some m.cls) (hts : ∀ w ∈ x0 :: gT, w.before args s = true) (hKn : Kn s) (hKb : zy_Kb Kn) (hM : zy_M l D cA RT ro sz H0 Kn y (gW y bytes maxL ret) rm k) (h0 : rm.cells = 0 ∧ rm.slots = 0) (hR : rm.frames + 1 ≤ R.frames ∧ 8 + (maxL + 11) + rm.locals ≤ R.locals) (hf : cells ≤ R.cells ∧ slots ≤ R.slots)
    (hc : Cond.code y bytes maxL ret ∈ gT) (hi : Cond.initialized y.cls ∈ gT) (hl : Cond.methodLink own idx y ∈ gT) (hst : Cond.static y ∈ gT) (hd : y.cls ≠ "java/lang/invoke/MethodHandle" ∧ y.cls ≠ "java/lang/invoke/VarHandle" ∧ (parseMethodDescriptor y.desc).map (fun d => d.parameters.length) = some k.1.length) (hk : key = 4 * idx) :
    ∀ (pc j : Nat) (i : Instr), (i = .invokestatic j ∧ key = 4 * j) ∨ (i = .invokevirtual j ∧ key = 4 * j + 1) ∨ (i = .invokespecial j ∧ key = 4 * j + 2) → decode cc pc = .ok (i, 3) → zc_row D cA RT ro sz H0 nL (fun pc H locs ls st => W p l e R s m args below meth c H locs cells slots Q (F0 m pc ls st)) pc (pc + 3) k := by
  intro pc j i hij hdec
  rcases hij with ⟨rfl, h⟩ | ⟨rfl, h⟩ | ⟨rfl, h⟩
  · have : j = idx := by omega
    subst this
    have h2 : ∀ w ∈ gT, w.before args s = true := fun w hw => hts w (List.mem_cons_of_mem _ hw)
    exact zy_rowS ⟨hx, hb, hml, hown, hts⟩ hM ⟨callB_of k.1.length hts (gT_gi hc) rfl h0.1 h0.2 (h2 _ hi) (h2 _ hl) hd hR, h2 _ hst⟩ hKn hKb hf hdec
  · omega
  · omega
theorem zr_V {r ci n0 : Nat} {fs : List zt_T} {lo hi0 : Int} {ts : List zt_T} (hx : p.tables.exec = Jvm.exec) (hb : c.code = cc) (hml : c.maxLocals = nL) (hown : s.vm.findClass own = some m.cls) (hts : ∀ w ∈ x0 :: gT, w.before args s = true) (hKn : Kn s) (hKb : zy_Kb Kn) (hM : zy_M l D cA RT ro sz H0 Kn y (gW y bytes maxL ret) rm k) (h0 : rm.cells = 0 ∧ rm.slots = 0) (hR : rm.frames + 1 ≤ R.frames ∧ 8 + (maxL + 11) + rm.locals ≤ R.locals) (hf : cells ≤ R.cells ∧ slots ≤ R.slots)
    (hc : Cond.code y bytes maxL ret ∈ gT) (hi : Cond.initialized y.cls ∈ gT) (hl : Cond.methodLink own idx y ∈ gT) (hin : Cond.instanceMethod y ∈ gT) (hse : Cond.selects y.cls y y ∈ gT) (hd : y.cls ≠ "java/lang/invoke/MethodHandle" ∧ y.cls ≠ "java/lang/invoke/VarHandle" ∧ (parseMethodDescriptor y.desc).map (fun d => d.parameters.length) = some ts.length) (hka : k.1 = (4 + 2 * r, lo, hi0) :: ts) (hr : RT[r]? = some (0, ci, n0, fs)) (hC : s.vm.findClass y.cls = some (D.1 ci)) (hk : key = 4 * idx + 1) :
    ∀ (pc j : Nat) (i : Instr), (i = .invokestatic j ∧ key = 4 * j) ∨ (i = .invokevirtual j ∧ key = 4 * j + 1) ∨ (i = .invokespecial j ∧ key = 4 * j + 2) → decode cc pc = .ok (i, 3) → zc_row D cA RT ro sz H0 nL (fun pc H locs ls st => W p l e R s m args below meth c H locs cells slots Q (F0 m pc ls st)) pc (pc + 3) k := by
  intro pc j i hij hdec
  rcases hij with ⟨rfl, h⟩ | ⟨rfl, h⟩ | ⟨rfl, h⟩
  · omega
  · have : j = idx := by omega
    subst this
    have h2 : ∀ w ∈ gT, w.before args s = true := fun w hw => hts w (List.mem_cons_of_mem _ hw)
    exact zy_rowV ⟨hx, hb, hml, hown, hts⟩ hM ⟨callB_of ts.length hts (gT_gi hc) rfl h0.1 h0.2 (h2 _ hi) (h2 _ hl) hd hR, h2 _ hin, h2 _ hse⟩ hka hr hC hKn hKb hf hdec
  · omega
end ZX
end
section
/-! the world: the types of the fields, the roles, what the tables say of the classes -/
def fsX0 : List zt_T := [(28, 0, 0), (0, 0, 120), (0, (-2147483648), 2147483647), (0, 0, 1), (0, (-2147483648), 2147483647)]
def fsX1 : List zt_T := [(0, (-2147483648), 2147483647), (0, 0, 1), (0, (-2147483648), 2147483647), (0, 0, 1), (0, 0, 1), (0, (-2147483648), 2147483647), (0, (-2147483648), 2147483647), (0, (-2147483648), 2147483647), (0, (-2147483648), 2147483647), (0, (-2147483648), 2147483647)]
def fsX3 : List zt_T := [(1, (-9223372036854775808), 9223372036854775807), (1, (-9223372036854775808), 9223372036854775807), (1, (-9223372036854775808), 9223372036854775807), (1, (-9223372036854775808), 9223372036854775807), (0, 0, 1)]
def fsX4 : List zt_T := [(4, 0, 0), (12, 0, 0), (6, 0, 0), (18, 0, 0), (8, 0, 0), (38, 0, 0)]
def fsX5 : List zt_T := [(30, 0, 0), (0, 0, 40)]
def fsX6 : List zt_T := [(0, (-2147483648), 2147483647), (0, (-2147483648), 2147483647), (0, (-2147483648), 2147483647), (16, 0, 0), (16, 0, 0), (0, 0, 1), (0, (-2147483648), 2147483647), (1, (-9223372036854775808), 9223372036854775807), (1, (-9223372036854775808), 9223372036854775807), (1, (-9223372036854775808), 9223372036854775807), (1, (-9223372036854775808), 9223372036854775807)]
def fsX7 : List zt_T := [(0, (-2147483648), 2147483647), (0, (-2147483648), 2147483647), (0, (-2147483648), 2147483647), (0, (-2147483648), 2147483647), (0, (-2147483648), 2147483647)]
def fsX8 : List zt_T := [(0, (-2147483648), 2147483647), (0, (-2147483648), 2147483647), (0, (-2147483648), 2147483647), (0, (-2147483648), 2147483647), (0, (-2147483648), 2147483647), (0, (-2147483648), 2147483647), (0, (-2147483648), 2147483647), (0, (-2147483648), 2147483647), (0, (-2147483648), 2147483647), (0, 0, 1), (0, (-2147483648), 2147483647), (0, (-2147483648), 2147483647), (0, (-2147483648), 2147483647), (0, (-2147483648), 2147483647)]
def fsX9 : List zt_T := [(36, 0, 0), (0, 0, 120)]
def fsX10 : List zt_T := [(0, (-2147483648), 2147483647), (12, 0, 0), (32, 0, 0), (34, 0, 0), (0, 0, 60), (14, 0, 0)]
def fsX11 : List zt_T := [(12, 0, 0), (44, 0, 0), (0, 0, 8), (14, 0, 0), (4, 0, 0), (20, 0, 0), (10, 0, 0), (40, 0, 0), (42, 0, 0)]
def fsX12 : List zt_T := [(0, 0, 2), (0, 0, 40), (46, 0, 0), (0, 0, 8), (48, 0, 0), (50, 0, 0), (52, 0, 0), (54, 0, 0), (56, 0, 0), (58, 0, 0), (60, 0, 0), (62, 0, 0), (64, 0, 0), (0, 0, 120), (66, 0, 0), (0, 0, 120), (1, (-365961662), (-365961662)), (1, 364522971, 364522971), (1, (-9223372036854775808), 9223372036854775807), (0, (-2147483648), 2147483647), (0, (-2147483648), 2147483647), (1, (-9223372036854775808), 9223372036854775807), (0, (-2147483648), 2147483647), (68, 0, 0), (0, 0, 64), (70, 0, 0), (72, 0, 0), (0, 0, 128), (0, 0, 7), (0, 0, 120), (0, (-2147483648), 2147483647), (0, (-2147483648), 2147483647), (74, 0, 0), (0, (-2147483648), 2147483647), (76, 0, 0), (78, 0, 0), (0, 0, 2), (0, 0, 1), (1, (-9223372036854775808), 9223372036854775807), (0, 0, 1), (80, 0, 0)]
def RTg : List zr_R := [(0, 0, 0, fsX0), (0, 1, 0, fsX1), (0, 2, 0, fsX3), (0, 3, 0, fsX4), (0, 4, 0, fsX5), (0, 5, 0, fsX6), (0, 6, 0, fsX7), (0, 7, 0, fsX8), (0, 8, 0, fsX9), (0, 9, 0, fsX10), (0, 10, 0, fsX11), (0, 11, 0, fsX12), (1, 2, 120, [(0, (-128), 127)]), (1, 1, 40, [(1, (-9223372036854775808), 9223372036854775807)]), (1, 1, 60, [(1, (-9223372036854775808), 9223372036854775807)]), (1, 0, 60, [(0, (-2147483648), 2147483647)]), (1, 2, 120, [(0, (-128), 127)]), (1, 1, 39, [(1, (-9223372036854775808), 9223372036854775807)]), (1, 1, 39, [(1, (-9223372036854775808), 9223372036854775807)]), (1, 1, 63, [(1, (-9223372036854775808), 9223372036854775807)]), (1, 4, 8, [(23, 0, 0)]), (1, 1, 40, [(1, (-9223372036854775808), 9223372036854775807)]), (1, 0, 8, [(0, (-1439), 1439)]), (1, 0, 8, [(0, 0, 60)]), (1, 1, 480, [(1, (-9223372036854775808), 9223372036854775807)]), (1, 0, 480, [(0, (-1439), 1439)]), (1, 0, 8, [(0, 0, 2)]), (1, 0, 8, [(0, (-2147483648), 2147483647)]), (1, 0, 8, [(0, (-2147483648), 2147483647)]), (1, 0, 80, [(0, (-2147483648), 2147483647)]), (1, 2, 120, [(0, (-128), 127)]), (1, 2, 160, [(0, (-128), 127)]), (1, 0, 64, [(0, (-2147483648), 2147483647)]), (1, 1, 64, [(1, (-9223372036854775808), 9223372036854775807)]), (1, 1, 128, [(1, (-9223372036854775808), 9223372036854775807)]), (1, 0, 10, [(0, (-2147483648), 2147483647)]), (1, 1, 64, [(1, (-9223372036854775808), 9223372036854775807)]), (1, 1, 16, [(1, (-9223372036854775808), 9223372036854775807)]), (1, 1, 39, [(1, (-9223372036854775808), 9223372036854775807)]), (2, 0, 13, [(0, 0, 365)]), (2, 3, 6, [(0, 0, 65535)]), (2, 0, 6, [(0, 1, 86400)]), (1, 1, 1, [(1, (-9223372036854775808), 9223372036854775807)])]
theorem wbX0 : (wsX00.all (fun w => decide (w ∈ lw_tbl) && goodWord w)) = true := by decide +kernel
theorem wiX0 : ∀ w ∈ wsX00, w ∈ gT := fun w h => by
  have h1 := List.all_eq_true.mp wbX0 w h
  simp only [Bool.and_eq_true, decide_eq_true_eq] at h1
  exact gT_in h1.1 h1.2
theorem wbX1 : (wsX10.all (fun w => decide (w ∈ lw_tbl) && goodWord w)) = true := by decide +kernel
theorem wiX1 : ∀ w ∈ wsX10, w ∈ gT := fun w h => by
  have h1 := List.all_eq_true.mp wbX1 w h
  simp only [Bool.and_eq_true, decide_eq_true_eq] at h1
  exact gT_in h1.1 h1.2
theorem wbX3 : (wsX30.all (fun w => decide (w ∈ lw_tbl) && goodWord w)) = true := by decide +kernel
theorem wiX3 : ∀ w ∈ wsX30, w ∈ gT := fun w h => by
  have h1 := List.all_eq_true.mp wbX3 w h
  simp only [Bool.and_eq_true, decide_eq_true_eq] at h1
  exact gT_in h1.1 h1.2
theorem wbX4 : (wsX40.all (fun w => decide (w ∈ lw_tbl) && goodWord w)) = true := by decide +kernel
theorem wiX4 : ∀ w ∈ wsX40, w ∈ gT := fun w h => by
  have h1 := List.all_eq_true.mp wbX4 w h
  simp only [Bool.and_eq_true, decide_eq_true_eq] at h1
  exact gT_in h1.1 h1.2
theorem wbX5 : (wsX50.all (fun w => decide (w ∈ lw_tbl) && goodWord w)) = true := by decide +kernel
theorem wiX5 : ∀ w ∈ wsX50, w ∈ gT := fun w h => by
  have h1 := List.all_eq_true.mp wbX5 w h
  simp only [Bool.and_eq_true, decide_eq_true_eq] at h1
  exact gT_in h1.1 h1.2
theorem wbX6 : (wsX60.all (fun w => decide (w ∈ lw_tbl) && goodWord w)) = true := by decide +kernel
theorem wiX6 : ∀ w ∈ wsX60, w ∈ gT := fun w h => by
  have h1 := List.all_eq_true.mp wbX6 w h
  simp only [Bool.and_eq_true, decide_eq_true_eq] at h1
  exact gT_in h1.1 h1.2
theorem wbX7 : (wsX70.all (fun w => decide (w ∈ lw_tbl) && goodWord w)) = true := by decide +kernel
theorem wiX7 : ∀ w ∈ wsX70, w ∈ gT := fun w h => by
  have h1 := List.all_eq_true.mp wbX7 w h
  simp only [Bool.and_eq_true, decide_eq_true_eq] at h1
  exact gT_in h1.1 h1.2
theorem wbX8 : (wsX80.all (fun w => decide (w ∈ lw_tbl) && goodWord w)) = true := by decide +kernel
theorem wiX8 : ∀ w ∈ wsX80, w ∈ gT := fun w h => by
  have h1 := List.all_eq_true.mp wbX8 w h
  simp only [Bool.and_eq_true, decide_eq_true_eq] at h1
  exact gT_in h1.1 h1.2
theorem wbX9 : (wsX90.all (fun w => decide (w ∈ lw_tbl) && goodWord w)) = true := by decide +kernel
theorem wiX9 : ∀ w ∈ wsX90, w ∈ gT := fun w h => by
  have h1 := List.all_eq_true.mp wbX9 w h
  simp only [Bool.and_eq_true, decide_eq_true_eq] at h1
  exact gT_in h1.1 h1.2
theorem wbX10 : (wsX100.all (fun w => decide (w ∈ lw_tbl) && goodWord w)) = true := by decide +kernel
theorem wiX10 : ∀ w ∈ wsX100, w ∈ gT := fun w h => by
  have h1 := List.all_eq_true.mp wbX10 w h
  simp only [Bool.and_eq_true, decide_eq_true_eq] at h1
  exact gT_in h1.1 h1.2
theorem wbX11 : (wsX110.all (fun w => decide (w ∈ lw_tbl) && goodWord w)) = true := by decide +kernel
theorem wiX11 : ∀ w ∈ wsX110, w ∈ gT := fun w h => by
  have h1 := List.all_eq_true.mp wbX11 w h
  simp only [Bool.and_eq_true, decide_eq_true_eq] at h1
  exact gT_in h1.1 h1.2
theorem wbX12 : (wsX120.all (fun w => decide (w ∈ lw_tbl) && goodWord w)) = true := by decide +kernel
theorem wiX12 : ∀ w ∈ wsX120, w ∈ gT := fun w h => by
  have h1 := List.all_eq_true.mp wbX12 w h
  simp only [Bool.and_eq_true, decide_eq_true_eq] at h1
  exact gT_in h1.1 h1.2
theorem zD_all {s : State} {args : Array Value} {D : va_G} {tys : List (ClassId × FieldType)} (hts : ∀ w ∈ gT, w.before args s = true) (hK : va_K D vwCl tys s) : zD_ok D RTg := by
  intro r ci n fs hr j k hj hk he
  by_cases hjk : j = k
  · exact hjk
  · exfalso
    match r, hr with
    | 0, hr =>
      cases (show some ((0, 0, 0, fsX0) : zr_R) = some (0, ci, n, fs) from hr)
      exact va_apart (own := RX0) (C := RX0) (T := TX0) (N := 5) (ci := 0) hts wiX0 tyX0 tyX0_ok nmX0 hK rfl j k hj hk hjk he
    | 1, hr =>
      cases (show some ((0, 1, 0, fsX1) : zr_R) = some (0, ci, n, fs) from hr)
      exact va_apart (own := RX1) (C := RX1) (T := TX1) (N := 10) (ci := 1) hts wiX1 tyX1 tyX1_ok nmX1 hK rfl j k hj hk hjk he
    | 2, hr =>
      cases (show some ((0, 2, 0, fsX3) : zr_R) = some (0, ci, n, fs) from hr)
      exact va_apart (own := RX3) (C := RX3) (T := TX3) (N := 5) (ci := 2) hts wiX3 tyX3 tyX3_ok nmX3 hK rfl j k hj hk hjk he
    | 3, hr =>
      cases (show some ((0, 3, 0, fsX4) : zr_R) = some (0, ci, n, fs) from hr)
      exact va_apart (own := RX4) (C := RX4) (T := TX4) (N := 6) (ci := 3) hts wiX4 tyX4 tyX4_ok nmX4 hK rfl j k hj hk hjk he
    | 4, hr =>
      cases (show some ((0, 4, 0, fsX5) : zr_R) = some (0, ci, n, fs) from hr)
      exact va_apart (own := RX5) (C := RX5) (T := TX5) (N := 2) (ci := 4) hts wiX5 tyX5 tyX5_ok nmX5 hK rfl j k hj hk hjk he
    | 5, hr =>
      cases (show some ((0, 5, 0, fsX6) : zr_R) = some (0, ci, n, fs) from hr)
      exact va_apart (own := RX6) (C := RX6) (T := TX6) (N := 11) (ci := 5) hts wiX6 tyX6 tyX6_ok nmX6 hK rfl j k hj hk hjk he
    | 6, hr =>
      cases (show some ((0, 6, 0, fsX7) : zr_R) = some (0, ci, n, fs) from hr)
      exact va_apart (own := RX7) (C := RX7) (T := TX7) (N := 5) (ci := 6) hts wiX7 tyX7 tyX7_ok nmX7 hK rfl j k hj hk hjk he
    | 7, hr =>
      cases (show some ((0, 7, 0, fsX8) : zr_R) = some (0, ci, n, fs) from hr)
      exact va_apart (own := RX8) (C := RX8) (T := TX8) (N := 14) (ci := 7) hts wiX8 tyX8 tyX8_ok nmX8 hK rfl j k hj hk hjk he
    | 8, hr =>
      cases (show some ((0, 8, 0, fsX9) : zr_R) = some (0, ci, n, fs) from hr)
      exact va_apart (own := RX9) (C := RX9) (T := TX9) (N := 2) (ci := 8) hts wiX9 tyX9 tyX9_ok nmX9 hK rfl j k hj hk hjk he
    | 9, hr =>
      cases (show some ((0, 9, 0, fsX10) : zr_R) = some (0, ci, n, fs) from hr)
      exact va_apart (own := RX10) (C := RX10) (T := TX10) (N := 6) (ci := 9) hts wiX10 tyX10 tyX10_ok nmX10 hK rfl j k hj hk hjk he
    | 10, hr =>
      cases (show some ((0, 10, 0, fsX11) : zr_R) = some (0, ci, n, fs) from hr)
      exact va_apart (own := RX11) (C := RX11) (T := TX11) (N := 9) (ci := 10) hts wiX11 tyX11 tyX11_ok nmX11 hK rfl j k hj hk hjk he
    | 11, hr =>
      cases (show some ((0, 11, 0, fsX12) : zr_R) = some (0, ci, n, fs) from hr)
      exact va_apart (own := RX12) (C := RX12) (T := TX12) (N := 41) (ci := 11) hts wiX12 tyX12 tyX12_ok nmX12 hK rfl j k hj hk hjk he
    | 12, hr => cases (show some ((1, 2, 120, [(0, (-128), 127)]) : zr_R) = some (0, ci, n, fs) from hr)
    | 13, hr => cases (show some ((1, 1, 40, [(1, (-9223372036854775808), 9223372036854775807)]) : zr_R) = some (0, ci, n, fs) from hr)
    | 14, hr => cases (show some ((1, 1, 60, [(1, (-9223372036854775808), 9223372036854775807)]) : zr_R) = some (0, ci, n, fs) from hr)
    | 15, hr => cases (show some ((1, 0, 60, [(0, (-2147483648), 2147483647)]) : zr_R) = some (0, ci, n, fs) from hr)
    | 16, hr => cases (show some ((1, 2, 120, [(0, (-128), 127)]) : zr_R) = some (0, ci, n, fs) from hr)
    | 17, hr => cases (show some ((1, 1, 39, [(1, (-9223372036854775808), 9223372036854775807)]) : zr_R) = some (0, ci, n, fs) from hr)
    | 18, hr => cases (show some ((1, 1, 39, [(1, (-9223372036854775808), 9223372036854775807)]) : zr_R) = some (0, ci, n, fs) from hr)
    | 19, hr => cases (show some ((1, 1, 63, [(1, (-9223372036854775808), 9223372036854775807)]) : zr_R) = some (0, ci, n, fs) from hr)
    | 20, hr => cases (show some ((1, 4, 8, [(23, 0, 0)]) : zr_R) = some (0, ci, n, fs) from hr)
    | 21, hr => cases (show some ((1, 1, 40, [(1, (-9223372036854775808), 9223372036854775807)]) : zr_R) = some (0, ci, n, fs) from hr)
    | 22, hr => cases (show some ((1, 0, 8, [(0, (-1439), 1439)]) : zr_R) = some (0, ci, n, fs) from hr)
    | 23, hr => cases (show some ((1, 0, 8, [(0, 0, 60)]) : zr_R) = some (0, ci, n, fs) from hr)
    | 24, hr => cases (show some ((1, 1, 480, [(1, (-9223372036854775808), 9223372036854775807)]) : zr_R) = some (0, ci, n, fs) from hr)
    | 25, hr => cases (show some ((1, 0, 480, [(0, (-1439), 1439)]) : zr_R) = some (0, ci, n, fs) from hr)
    | 26, hr => cases (show some ((1, 0, 8, [(0, 0, 2)]) : zr_R) = some (0, ci, n, fs) from hr)
    | 27, hr => cases (show some ((1, 0, 8, [(0, (-2147483648), 2147483647)]) : zr_R) = some (0, ci, n, fs) from hr)
    | 28, hr => cases (show some ((1, 0, 8, [(0, (-2147483648), 2147483647)]) : zr_R) = some (0, ci, n, fs) from hr)
    | 29, hr => cases (show some ((1, 0, 80, [(0, (-2147483648), 2147483647)]) : zr_R) = some (0, ci, n, fs) from hr)
    | 30, hr => cases (show some ((1, 2, 120, [(0, (-128), 127)]) : zr_R) = some (0, ci, n, fs) from hr)
    | 31, hr => cases (show some ((1, 2, 160, [(0, (-128), 127)]) : zr_R) = some (0, ci, n, fs) from hr)
    | 32, hr => cases (show some ((1, 0, 64, [(0, (-2147483648), 2147483647)]) : zr_R) = some (0, ci, n, fs) from hr)
    | 33, hr => cases (show some ((1, 1, 64, [(1, (-9223372036854775808), 9223372036854775807)]) : zr_R) = some (0, ci, n, fs) from hr)
    | 34, hr => cases (show some ((1, 1, 128, [(1, (-9223372036854775808), 9223372036854775807)]) : zr_R) = some (0, ci, n, fs) from hr)
    | 35, hr => cases (show some ((1, 0, 10, [(0, (-2147483648), 2147483647)]) : zr_R) = some (0, ci, n, fs) from hr)
    | 36, hr => cases (show some ((1, 1, 64, [(1, (-9223372036854775808), 9223372036854775807)]) : zr_R) = some (0, ci, n, fs) from hr)
    | 37, hr => cases (show some ((1, 1, 16, [(1, (-9223372036854775808), 9223372036854775807)]) : zr_R) = some (0, ci, n, fs) from hr)
    | 38, hr => cases (show some ((1, 1, 39, [(1, (-9223372036854775808), 9223372036854775807)]) : zr_R) = some (0, ci, n, fs) from hr)
    | 39, hr => cases (show some ((2, 0, 13, [(0, 0, 365)]) : zr_R) = some (0, ci, n, fs) from hr)
    | 40, hr => cases (show some ((2, 3, 6, [(0, 0, 65535)]) : zr_R) = some (0, ci, n, fs) from hr)
    | 41, hr => cases (show some ((2, 0, 6, [(0, 1, 86400)]) : zr_R) = some (0, ci, n, fs) from hr)
    | 42, hr => cases (show some ((1, 1, 1, [(1, (-9223372036854775808), 9223372036854775807)]) : zr_R) = some (0, ci, n, fs) from hr)
    | r + 43, hr => cases (show (none : Option zr_R) = some (0, ci, n, fs) from hr)
/-- a static that holds an array that is only read -/
def zS1 (ro : Nat → Option Nat) (sz : Nat) (H0 : Heap) (C n d : String) (r : Nat) (s : State) : Prop := ∃ a : Nat, ro a = some r ∧ va_Z C n d (.ref a) (fun q => sz ≤ q) s H0
def zK0 (D : va_G) (cA : Nat → ClassId) : State → Prop := fun s => va_K D vwCl [(cA 0, .int), (cA 1, .long), (cA 2, .byte), (cA 3, .char), (cA 4, .object "MomentTexts$Zone")] s
def zKn (D : va_G) (cA : Nat → ClassId) (ro : Nat → Option Nat) (sz : Nat) (H0 : Heap) : State → Prop := fun s => zK0 D cA s ∧ zS1 ro sz H0 "MomentTexts$Days" "BEFORE_MONTH" "[I" 39 s ∧ zS1 ro sz H0 "MomentTexts$DurationText" "LETTERS" "[C" 40 s ∧ zS1 ro sz H0 "MomentTexts$DurationText" "UNITS" "[I" 41 s
theorem zS1.mv {ro : Nat → Option Nat} {sz : Nat} {H0 : Heap} {C n d : String} {r : Nat} {u U : State} (h : u.vm.Alike U.vm) (k : zS1 ro sz H0 C n d r u) : zS1 ro sz H0 C n d r U := by
  obtain ⟨a, h1, h2⟩ := k
  exact ⟨a, h1, va_Z.moved h h2⟩
theorem zKb {D : va_G} {cA : Nat → ClassId} {ro : Nat → Option Nat} {sz : Nat} {H0 : Heap} : zy_Kb (zKn D cA ro sz H0) := fun _ _ h k => ⟨va_K.moved h k.1, k.2.1.mv h, k.2.2.1.mv h, k.2.2.2.mv h⟩
theorem zgs_row {p : Program} {l : Launch} {e : Env} {R : Room} {s : State} {m : MethodId} {args : Array Value} {below : List Frame} {meth : Method} {c : Code} {cells slots : Nat} {Q : State → Prop} {cc : ByteArray} {D : va_G} {cA : Nat → ClassId} {RT : List zr_R} {ro : Nat → Option Nat} {sz : Nat} {H0 : Heap} {C n d own : String} {r idx : Nat} (hx : p.tables.exec = Jvm.exec) (hb : c.code = cc) (hown : s.vm.findClass own = some m.cls) (h : zS1 ro sz H0 C n d r s) (hl : (Cond.fieldLink own idx C n d).before args s = true) :
    ∀ pc, decode cc pc = .ok (.getstatic idx, 3) → ∀ H locs ls st, zh_ok D cA RT ro sz H0 H locs → ∃ x, zt_ok ro x (4 + 2 * r, 0, 0) ∧ (W p l e R s m args below meth c H locs cells slots Q (F0 m (pc + 3) ls (x :: st)) → W p l e R s m args below meth c H locs cells slots Q (F0 m pc ls st)) := by
  intro pc hd H locs ls st hh
  obtain ⟨a, ha, cf, kf, fi, f, a0, cell, h1, h2, h3, h4, h5, h6, h7, h8⟩ := h
  refine ⟨.ref a, ?_, fun k => W.gets hx hb hown hl h1 h2 h3 h4 (by rw [hh.2.1 a0 (Nat.not_le.mp h8)]; exact h5) (fun q => by rw [q] at h6; cases h6) h7 rfl hd k⟩
  rw [show 4 + 2 * r = 2 * r + 4 by omega]
  exact Or.inr ⟨a, rfl, by rw [show 2 * r / 2 = r by omega]; exact ha⟩
theorem zgs_c {P : Nat → zt_T → Prop} {a : Nat} {b : zt_T} {L : List (Nat × zt_T)} (h : P a b) (t : ∀ i k, (i, k) ∈ L → P i k) : ∀ i k, (i, k) ∈ (a, b) :: L → P i k := fun i k hm => (List.mem_cons.mp hm).elim (fun g => by cases g; exact h) (t i k)
theorem zgs_n {P : Nat → zt_T → Prop} : ∀ i k, (i, k) ∈ ([] : List (Nat × zt_T)) → P i k := fun _ _ h => nomatch h
theorem zAr {D : va_G} {cA : Nat → ClassId} {s : State} (h : zK0 D cA s) : ∀ ti, ti < 5 → ArrOfT s (cA ti) (zk_ty "MomentTexts$Zone" ti) := by
  intro ti hti
  match ti, hti with
  | 0, _ => exact (h.2 0 _ rfl).1
  | 1, _ => exact (h.2 1 _ rfl).1
  | 2, _ => exact (h.2 2 _ rfl).1
  | 3, _ => exact (h.2 3 _ rfl).1
  | 4, _ => exact (h.2 4 _ rfl).1
theorem zCX0 {D : va_G} {cA : Nat → ClassId} {s : State} (h : zK0 D cA s) : s.vm.findClass RX0 = some (D.1 0) := (h.1 0 _ rfl).2.1
theorem zCX1 {D : va_G} {cA : Nat → ClassId} {s : State} (h : zK0 D cA s) : s.vm.findClass RX1 = some (D.1 1) := (h.1 1 _ rfl).2.1
theorem zCX3 {D : va_G} {cA : Nat → ClassId} {s : State} (h : zK0 D cA s) : s.vm.findClass RX3 = some (D.1 2) := (h.1 2 _ rfl).2.1
theorem zCX4 {D : va_G} {cA : Nat → ClassId} {s : State} (h : zK0 D cA s) : s.vm.findClass RX4 = some (D.1 3) := (h.1 3 _ rfl).2.1
theorem zCX5 {D : va_G} {cA : Nat → ClassId} {s : State} (h : zK0 D cA s) : s.vm.findClass RX5 = some (D.1 4) := (h.1 4 _ rfl).2.1
theorem zCX6 {D : va_G} {cA : Nat → ClassId} {s : State} (h : zK0 D cA s) : s.vm.findClass RX6 = some (D.1 5) := (h.1 5 _ rfl).2.1
theorem zCX7 {D : va_G} {cA : Nat → ClassId} {s : State} (h : zK0 D cA s) : s.vm.findClass RX7 = some (D.1 6) := (h.1 6 _ rfl).2.1
theorem zCX8 {D : va_G} {cA : Nat → ClassId} {s : State} (h : zK0 D cA s) : s.vm.findClass RX8 = some (D.1 7) := (h.1 7 _ rfl).2.1
theorem zCX9 {D : va_G} {cA : Nat → ClassId} {s : State} (h : zK0 D cA s) : s.vm.findClass RX9 = some (D.1 8) := (h.1 8 _ rfl).2.1
theorem zCX10 {D : va_G} {cA : Nat → ClassId} {s : State} (h : zK0 D cA s) : s.vm.findClass RX10 = some (D.1 9) := (h.1 9 _ rfl).2.1
theorem zCX11 {D : va_G} {cA : Nat → ClassId} {s : State} (h : zK0 D cA s) : s.vm.findClass RX11 = some (D.1 10) := (h.1 10 _ rfl).2.1
theorem zCX12 {D : va_G} {cA : Nat → ClassId} {s : State} (h : zK0 D cA s) : s.vm.findClass RX12 = some (D.1 11) := (h.1 11 _ rfl).2.1
theorem zct_c {P : Nat → zc_C → Prop} {a : Nat} {b : zc_C} {L : List (Nat × zc_C)} (h : P a b) (t : ∀ i k, (i, k) ∈ L → P i k) : ∀ i k, (i, k) ∈ (a, b) :: L → P i k := fun i k hm => (List.mem_cons.mp hm).elim (fun g => by cases g; exact h) (t i k)
theorem zct_n {P : Nat → zc_C → Prop} : ∀ i k, (i, k) ∈ ([] : List (Nat × zc_C)) → P i k := fun _ _ h => nomatch h
theorem zci_c {P : Nat → Int → Prop} {a : Nat} {b : Int} {L : List (Nat × Int)} (h : P a b) (t : ∀ i k, (i, k) ∈ L → P i k) : ∀ i k, (i, k) ∈ (a, b) :: L → P i k := fun i k hm => (List.mem_cons.mp hm).elim (fun g => by cases g; exact h) (t i k)
theorem zci_n {P : Nat → Int → Prop} : ∀ i k, (i, k) ∈ ([] : List (Nat × Int)) → P i k := fun _ _ h => nomatch h
theorem zgf_c {P : Nat × Nat × Nat → Prop} {a : Nat × Nat × Nat} {L : List (Nat × Nat × Nat)} (h : P a) (t : ∀ x ∈ L, P x) : ∀ x ∈ a :: L, P x := fun x hm => (List.mem_cons.mp hm).elim (fun g => by rw [g]; exact h) (t x)
end
section
/-! MomentTexts$Days: its pool -/
def gfX2 : List (Nat × Nat × Nat) := []
theorem gfX2_ok : ∀ x ∈ gfX2, zf_w vwCl RTg RX2 x := fun _ h => nomatch h
def ciX2 : List (Nat × Int) := [(19, (-999999)), (20, 999999)]
theorem ciX2_ok : ∀ (i : Nat) (n : Int), (i, n) ∈ ciX2 → ∃ x : Int32, Cond.constant RX2 i x ∈ gT ∧ x.toInt = n := 
  zci_c ⟨(-999999), tb_2 111 rfl rfl, by decide +kernel⟩ (
  zci_c ⟨999999, tb_2 112 rfl rfl, by decide +kernel⟩ (zci_n))
def clX2 : List (Nat × Int) := [(11, (-365961662)), (13, 364522971), (15, (-526984793280)), (17, 524913079679), (29, 2000000), (31, 365), (33, 3), (35, 4), (37, 99), (39, 100), (41, 399), (43, 400), (45, 731204528), (47, 146097), (68, (-9223372036854775808)), (73, 12), (81, (-999999)), (83, 999999), (98, 1440), (104, 5118431696), (106, 7)]
theorem clX2_ok : ∀ (i : Nat) (n : Int), (i, n) ∈ clX2 → ∃ x : Int64, Cond.constantLong RX2 i x ∈ gT ∧ x.toInt = n := 
  zci_c ⟨(-365961662), tb_2 213 rfl rfl, by decide +kernel⟩ (
  zci_c ⟨364522971, tb_2 214 rfl rfl, by decide +kernel⟩ (
  zci_c ⟨(-526984793280), tb_3 109 rfl rfl, by decide +kernel⟩ (
  zci_c ⟨524913079679, tb_3 110 rfl rfl, by decide +kernel⟩ (
  zci_c ⟨2000000, tb_2 194 rfl rfl, by decide +kernel⟩ (
  zci_c ⟨365, tb_2 195 rfl rfl, by decide +kernel⟩ (
  zci_c ⟨3, tb_2 196 rfl rfl, by decide +kernel⟩ (
  zci_c ⟨4, tb_2 197 rfl rfl, by decide +kernel⟩ (
  zci_c ⟨99, tb_2 198 rfl rfl, by decide +kernel⟩ (
  zci_c ⟨100, tb_2 199 rfl rfl, by decide +kernel⟩ (
  zci_c ⟨399, tb_2 200 rfl rfl, by decide +kernel⟩ (
  zci_c ⟨400, tb_2 201 rfl rfl, by decide +kernel⟩ (
  zci_c ⟨731204528, tb_2 202 rfl rfl, by decide +kernel⟩ (
  zci_c ⟨146097, tb_2 219 rfl rfl, by decide +kernel⟩ (
  zci_c ⟨(-9223372036854775808), tb_3 32 rfl rfl, by decide +kernel⟩ (
  zci_c ⟨12, tb_3 36 rfl rfl, by decide +kernel⟩ (
  zci_c ⟨(-999999), tb_3 40 rfl rfl, by decide +kernel⟩ (
  zci_c ⟨999999, tb_3 41 rfl rfl, by decide +kernel⟩ (
  zci_c ⟨1440, tb_6 118 rfl rfl, by decide +kernel⟩ (
  zci_c ⟨5118431696, tb_2 232 rfl rfl, by decide +kernel⟩ (
  zci_c ⟨7, tb_2 233 rfl rfl, by decide +kernel⟩ (zci_n)))))))))))))))))))))
/-! MomentTexts$Cursor: its pool -/
def gfX0 : List (Nat × Nat × Nat) := [(9, 0, 0), (15, 0, 1), (19, 0, 2), (22, 0, 3), (26, 0, 4)]
theorem gfX0_ok : ∀ x ∈ gfX0, zf_w vwCl RTg RX0 x := 
  zgf_c ⟨RX0, TX0, 5, (.array .byte), 0, fsX0, (28, 0, 0), rfl, by decide, tb_1 118 rfl rfl, wiX0, by decide +kernel, rfl, rfl, rfl⟩ (
  zgf_c ⟨RX0, TX0, 5, .int, 0, fsX0, (0, 0, 120), rfl, by decide, tb_1 119 rfl rfl, wiX0, by decide +kernel, rfl, rfl, rfl⟩ (
  zgf_c ⟨RX0, TX0, 5, .int, 0, fsX0, (0, (-2147483648), 2147483647), rfl, by decide, tb_1 121 rfl rfl, wiX0, by decide +kernel, rfl, rfl, rfl⟩ (
  zgf_c ⟨RX0, TX0, 5, .boolean, 0, fsX0, (0, 0, 1), rfl, by decide, tb_1 126 rfl rfl, wiX0, by decide +kernel, rfl, rfl, rfl⟩ (
  zgf_c ⟨RX0, TX0, 5, .int, 0, fsX0, (0, (-2147483648), 2147483647), rfl, by decide, tb_1 127 rfl rfl, wiX0, by decide +kernel, rfl, rfl, rfl⟩ (fun _ h => nomatch h)))))
def ciX0 : List (Nat × Int) := []
theorem ciX0_ok : ∀ (i : Nat) (n : Int), (i, n) ∈ ciX0 → ∃ x : Int32, Cond.constant RX0 i x ∈ gT ∧ x.toInt = n := zci_n
def clX0 : List (Nat × Int) := [(50, (-9223372036854775808))]
theorem clX0_ok : ∀ (i : Nat) (n : Int), (i, n) ∈ clX0 → ∃ x : Int64, Cond.constantLong RX0 i x ∈ gT ∧ x.toInt = n := 
  zci_c ⟨(-9223372036854775808), tb_4 65 rfl rfl, by decide +kernel⟩ (zci_n)
/-! MomentTexts$Leaps: its pool -/
def gfX5 : List (Nat × Nat × Nat) := [(11, 4, 0), (15, 4, 1)]
theorem gfX5_ok : ∀ x ∈ gfX5, zf_w vwCl RTg RX5 x := 
  zgf_c ⟨RX5, TX5, 2, (.array .long), 0, fsX5, (30, 0, 0), rfl, by decide, tb_1 37 rfl rfl, wiX5, by decide +kernel, rfl, rfl, rfl⟩ (
  zgf_c ⟨RX5, TX5, 2, .int, 0, fsX5, (0, 0, 40), rfl, by decide, tb_1 38 rfl rfl, wiX5, by decide +kernel, rfl, rfl, rfl⟩ (fun _ h => nomatch h))
def ciX5 : List (Nat × Int) := []
theorem ciX5_ok : ∀ (i : Nat) (n : Int), (i, n) ∈ ciX5 → ∃ x : Int32, Cond.constant RX5 i x ∈ gT ∧ x.toInt = n := zci_n
def clX5 : List (Nat × Int) := [(19, 86400), (27, (-365961662)), (33, 364522972), (35, 1440), (43, 1439), (49, 60)]
theorem clX5_ok : ∀ (i : Nat) (n : Int), (i, n) ∈ clX5 → ∃ x : Int64, Cond.constantLong RX5 i x ∈ gT ∧ x.toInt = n := 
  zci_c ⟨86400, tb_3 145 rfl rfl, by decide +kernel⟩ (
  zci_c ⟨(-365961662), tb_3 140 rfl rfl, by decide +kernel⟩ (
  zci_c ⟨364522972, tb_3 146 rfl rfl, by decide +kernel⟩ (
  zci_c ⟨1440, tb_3 115 rfl rfl, by decide +kernel⟩ (
  zci_c ⟨1439, tb_3 117 rfl rfl, by decide +kernel⟩ (
  zci_c ⟨60, tb_3 124 rfl rfl, by decide +kernel⟩ (zci_n))))))
/-! MomentTexts$DateText: its pool -/
def gfX1 : List (Nat × Nat × Nat) := [(9, 1, 0), (15, 1, 1), (19, 1, 2), (22, 1, 3), (25, 1, 4), (28, 1, 5), (31, 1, 6), (34, 1, 7), (37, 1, 8), (40, 1, 9), (79, 0, 2)]
theorem gfX1_ok : ∀ x ∈ gfX1, zf_w vwCl RTg RX1 x := 
  zgf_c ⟨RX1, TX1, 10, .int, 0, fsX1, (0, (-2147483648), 2147483647), rfl, by decide, tb_1 167 rfl rfl, wiX1, by decide +kernel, rfl, rfl, rfl⟩ (
  zgf_c ⟨RX1, TX1, 10, .boolean, 0, fsX1, (0, 0, 1), rfl, by decide, tb_1 169 rfl rfl, wiX1, by decide +kernel, rfl, rfl, rfl⟩ (
  zgf_c ⟨RX1, TX1, 10, .int, 0, fsX1, (0, (-2147483648), 2147483647), rfl, by decide, tb_1 171 rfl rfl, wiX1, by decide +kernel, rfl, rfl, rfl⟩ (
  zgf_c ⟨RX1, TX1, 10, .boolean, 0, fsX1, (0, 0, 1), rfl, by decide, tb_1 172 rfl rfl, wiX1, by decide +kernel, rfl, rfl, rfl⟩ (
  zgf_c ⟨RX1, TX1, 10, .boolean, 0, fsX1, (0, 0, 1), rfl, by decide, tb_1 173 rfl rfl, wiX1, by decide +kernel, rfl, rfl, rfl⟩ (
  zgf_c ⟨RX1, TX1, 10, .int, 0, fsX1, (0, (-2147483648), 2147483647), rfl, by decide, tb_1 174 rfl rfl, wiX1, by decide +kernel, rfl, rfl, rfl⟩ (
  zgf_c ⟨RX1, TX1, 10, .int, 0, fsX1, (0, (-2147483648), 2147483647), rfl, by decide, tb_1 175 rfl rfl, wiX1, by decide +kernel, rfl, rfl, rfl⟩ (
  zgf_c ⟨RX1, TX1, 10, .int, 0, fsX1, (0, (-2147483648), 2147483647), rfl, by decide, tb_1 176 rfl rfl, wiX1, by decide +kernel, rfl, rfl, rfl⟩ (
  zgf_c ⟨RX1, TX1, 10, .int, 0, fsX1, (0, (-2147483648), 2147483647), rfl, by decide, tb_1 177 rfl rfl, wiX1, by decide +kernel, rfl, rfl, rfl⟩ (
  zgf_c ⟨RX1, TX1, 10, .int, 0, fsX1, (0, (-2147483648), 2147483647), rfl, by decide, tb_1 178 rfl rfl, wiX1, by decide +kernel, rfl, rfl, rfl⟩ (
  zgf_c ⟨RX0, TX0, 5, .int, 0, fsX0, (0, (-2147483648), 2147483647), rfl, by decide, tb_1 125 rfl rfl, wiX0, by decide +kernel, rfl, rfl, rfl⟩ (fun _ h => nomatch h)))))))))))
def ciX1 : List (Nat × Int) := []
theorem ciX1_ok : ∀ (i : Nat) (n : Int), (i, n) ∈ ciX1 → ∃ x : Int32, Cond.constant RX1 i x ∈ gT ∧ x.toInt = n := zci_n
def clX1 : List (Nat × Int) := [(88, (-9223372036854775808))]
theorem clX1_ok : ∀ (i : Nat) (n : Int), (i, n) ∈ clX1 → ∃ x : Int64, Cond.constantLong RX1 i x ∈ gT ∧ x.toInt = n := 
  zci_c ⟨(-9223372036854775808), tb_5 33 rfl rfl, by decide +kernel⟩ (zci_n)
/-! MomentTexts$DurationText: its pool -/
def gfX3 : List (Nat × Nat × Nat) := [(9, 2, 0), (15, 2, 1), (18, 2, 2), (21, 2, 3), (24, 2, 4), (57, 0, 2)]
theorem gfX3_ok : ∀ x ∈ gfX3, zf_w vwCl RTg RX3 x := 
  zgf_c ⟨RX3, TX3, 5, .long, 0, fsX3, (1, (-9223372036854775808), 9223372036854775807), rfl, by decide, tb_2 16 rfl rfl, wiX3, by decide +kernel, rfl, rfl, rfl⟩ (
  zgf_c ⟨RX3, TX3, 5, .long, 0, fsX3, (1, (-9223372036854775808), 9223372036854775807), rfl, by decide, tb_2 18 rfl rfl, wiX3, by decide +kernel, rfl, rfl, rfl⟩ (
  zgf_c ⟨RX3, TX3, 5, .long, 0, fsX3, (1, (-9223372036854775808), 9223372036854775807), rfl, by decide, tb_2 20 rfl rfl, wiX3, by decide +kernel, rfl, rfl, rfl⟩ (
  zgf_c ⟨RX3, TX3, 5, .long, 0, fsX3, (1, (-9223372036854775808), 9223372036854775807), rfl, by decide, tb_2 22 rfl rfl, wiX3, by decide +kernel, rfl, rfl, rfl⟩ (
  zgf_c ⟨RX3, TX3, 5, .boolean, 0, fsX3, (0, 0, 1), rfl, by decide, tb_2 24 rfl rfl, wiX3, by decide +kernel, rfl, rfl, rfl⟩ (
  zgf_c ⟨RX0, TX0, 5, .int, 0, fsX0, (0, (-2147483648), 2147483647), rfl, by decide, tb_1 123 rfl rfl, wiX0, by decide +kernel, rfl, rfl, rfl⟩ (fun _ h => nomatch h))))))
def ciX3 : List (Nat × Int) := []
theorem ciX3_ok : ∀ (i : Nat) (n : Int), (i, n) ∈ ciX3 → ∃ x : Int32, Cond.constant RX3 i x ∈ gT ∧ x.toInt = n := zci_n
def clX3 : List (Nat × Int) := [(65, 7), (79, 1000000000)]
theorem clX3_ok : ∀ (i : Nat) (n : Int), (i, n) ∈ clX3 → ∃ x : Int64, Cond.constantLong RX3 i x ∈ gT ∧ x.toInt = n := 
  zci_c ⟨7, tb_5 160 rfl rfl, by decide +kernel⟩ (
  zci_c ⟨1000000000, tb_5 168 rfl rfl, by decide +kernel⟩ (zci_n))
/-! MomentTexts$RuleDate: its pool -/
def gfX7 : List (Nat × Nat × Nat) := [(9, 6, 0), (15, 6, 1), (18, 6, 2), (21, 6, 3), (24, 6, 4)]
theorem gfX7_ok : ∀ x ∈ gfX7, zf_w vwCl RTg RX7 x := 
  zgf_c ⟨RX7, TX7, 5, .int, 0, fsX7, (0, (-2147483648), 2147483647), rfl, by decide, tb_1 59 rfl rfl, wiX7, by decide +kernel, rfl, rfl, rfl⟩ (
  zgf_c ⟨RX7, TX7, 5, .int, 0, fsX7, (0, (-2147483648), 2147483647), rfl, by decide, tb_1 60 rfl rfl, wiX7, by decide +kernel, rfl, rfl, rfl⟩ (
  zgf_c ⟨RX7, TX7, 5, .int, 0, fsX7, (0, (-2147483648), 2147483647), rfl, by decide, tb_1 61 rfl rfl, wiX7, by decide +kernel, rfl, rfl, rfl⟩ (
  zgf_c ⟨RX7, TX7, 5, .int, 0, fsX7, (0, (-2147483648), 2147483647), rfl, by decide, tb_1 62 rfl rfl, wiX7, by decide +kernel, rfl, rfl, rfl⟩ (
  zgf_c ⟨RX7, TX7, 5, .int, 0, fsX7, (0, (-2147483648), 2147483647), rfl, by decide, tb_1 63 rfl rfl, wiX7, by decide +kernel, rfl, rfl, rfl⟩ (fun _ h => nomatch h)))))
def ciX7 : List (Nat × Int) := []
theorem ciX7_ok : ∀ (i : Nat) (n : Int), (i, n) ∈ ciX7 → ∃ x : Int32, Cond.constant RX7 i x ∈ gT ∧ x.toInt = n := zci_n
def clX7 : List (Nat × Int) := [(51, 5118431696), (53, 4), (55, 7), (57, 1440)]
theorem clX7_ok : ∀ (i : Nat) (n : Int), (i, n) ∈ clX7 → ∃ x : Int64, Cond.constantLong RX7 i x ∈ gT ∧ x.toInt = n := 
  zci_c ⟨5118431696, tb_4 137 rfl rfl, by decide +kernel⟩ (
  zci_c ⟨4, tb_4 138 rfl rfl, by decide +kernel⟩ (
  zci_c ⟨7, tb_4 139 rfl rfl, by decide +kernel⟩ (
  zci_c ⟨1440, tb_4 140 rfl rfl, by decide +kernel⟩ (zci_n))))
/-! MomentTexts$TimeText: its pool -/
def gfX8 : List (Nat × Nat × Nat) := [(9, 7, 0), (15, 7, 1), (18, 7, 2), (21, 7, 3), (24, 7, 4), (27, 7, 5), (30, 7, 6), (33, 7, 7), (36, 7, 8), (39, 7, 9), (43, 7, 10), (46, 7, 11), (49, 7, 12), (52, 7, 13), (55, 0, 2)]
theorem gfX8_ok : ∀ x ∈ gfX8, zf_w vwCl RTg RX8 x := 
  zgf_c ⟨RX8, TX8, 14, .int, 0, fsX8, (0, (-2147483648), 2147483647), rfl, by decide, tb_1 206 rfl rfl, wiX8, by decide +kernel, rfl, rfl, rfl⟩ (
  zgf_c ⟨RX8, TX8, 14, .int, 0, fsX8, (0, (-2147483648), 2147483647), rfl, by decide, tb_1 207 rfl rfl, wiX8, by decide +kernel, rfl, rfl, rfl⟩ (
  zgf_c ⟨RX8, TX8, 14, .int, 0, fsX8, (0, (-2147483648), 2147483647), rfl, by decide, tb_1 208 rfl rfl, wiX8, by decide +kernel, rfl, rfl, rfl⟩ (
  zgf_c ⟨RX8, TX8, 14, .int, 0, fsX8, (0, (-2147483648), 2147483647), rfl, by decide, tb_1 209 rfl rfl, wiX8, by decide +kernel, rfl, rfl, rfl⟩ (
  zgf_c ⟨RX8, TX8, 14, .int, 0, fsX8, (0, (-2147483648), 2147483647), rfl, by decide, tb_1 210 rfl rfl, wiX8, by decide +kernel, rfl, rfl, rfl⟩ (
  zgf_c ⟨RX8, TX8, 14, .int, 0, fsX8, (0, (-2147483648), 2147483647), rfl, by decide, tb_1 211 rfl rfl, wiX8, by decide +kernel, rfl, rfl, rfl⟩ (
  zgf_c ⟨RX8, TX8, 14, .int, 0, fsX8, (0, (-2147483648), 2147483647), rfl, by decide, tb_1 212 rfl rfl, wiX8, by decide +kernel, rfl, rfl, rfl⟩ (
  zgf_c ⟨RX8, TX8, 14, .int, 0, fsX8, (0, (-2147483648), 2147483647), rfl, by decide, tb_1 213 rfl rfl, wiX8, by decide +kernel, rfl, rfl, rfl⟩ (
  zgf_c ⟨RX8, TX8, 14, .int, 0, fsX8, (0, (-2147483648), 2147483647), rfl, by decide, tb_1 214 rfl rfl, wiX8, by decide +kernel, rfl, rfl, rfl⟩ (
  zgf_c ⟨RX8, TX8, 14, .boolean, 0, fsX8, (0, 0, 1), rfl, by decide, tb_1 216 rfl rfl, wiX8, by decide +kernel, rfl, rfl, rfl⟩ (
  zgf_c ⟨RX8, TX8, 14, .int, 0, fsX8, (0, (-2147483648), 2147483647), rfl, by decide, tb_1 217 rfl rfl, wiX8, by decide +kernel, rfl, rfl, rfl⟩ (
  zgf_c ⟨RX8, TX8, 14, .int, 0, fsX8, (0, (-2147483648), 2147483647), rfl, by decide, tb_1 218 rfl rfl, wiX8, by decide +kernel, rfl, rfl, rfl⟩ (
  zgf_c ⟨RX8, TX8, 14, .int, 0, fsX8, (0, (-2147483648), 2147483647), rfl, by decide, tb_1 219 rfl rfl, wiX8, by decide +kernel, rfl, rfl, rfl⟩ (
  zgf_c ⟨RX8, TX8, 14, .int, 0, fsX8, (0, (-2147483648), 2147483647), rfl, by decide, tb_1 220 rfl rfl, wiX8, by decide +kernel, rfl, rfl, rfl⟩ (
  zgf_c ⟨RX0, TX0, 5, .int, 0, fsX0, (0, (-2147483648), 2147483647), rfl, by decide, tb_1 122 rfl rfl, wiX0, by decide +kernel, rfl, rfl, rfl⟩ (fun _ h => nomatch h)))))))))))))))
def ciX8 : List (Nat × Int) := []
theorem ciX8_ok : ∀ (i : Nat) (n : Int), (i, n) ∈ ciX8 → ∃ x : Int32, Cond.constant RX8 i x ∈ gT ∧ x.toInt = n := zci_n
def clX8 : List (Nat × Int) := [(107, (-9223372036854775808)), (109, 1440), (119, 364522971), (129, 1000000000), (131, 60)]
theorem clX8_ok : ∀ (i : Nat) (n : Int), (i, n) ∈ clX8 → ∃ x : Int64, Cond.constantLong RX8 i x ∈ gT ∧ x.toInt = n := 
  zci_c ⟨(-9223372036854775808), tb_5 60 rfl rfl, by decide +kernel⟩ (
  zci_c ⟨1440, tb_5 61 rfl rfl, by decide +kernel⟩ (
  zci_c ⟨364522971, tb_5 67 rfl rfl, by decide +kernel⟩ (
  zci_c ⟨1000000000, tb_5 77 rfl rfl, by decide +kernel⟩ (
  zci_c ⟨60, tb_5 78 rfl rfl, by decide +kernel⟩ (zci_n)))))
/-! MomentTexts$Writer: its pool -/
def gfX9 : List (Nat × Nat × Nat) := [(9, 8, 0), (15, 8, 1)]
theorem gfX9_ok : ∀ x ∈ gfX9, zf_w vwCl RTg RX9 x := 
  zgf_c ⟨RX9, TX9, 2, (.array .byte), 0, fsX9, (36, 0, 0), rfl, by decide, tb_1 146 rfl rfl, wiX9, by decide +kernel, rfl, rfl, rfl⟩ (
  zgf_c ⟨RX9, TX9, 2, .int, 0, fsX9, (0, 0, 120), rfl, by decide, tb_1 148 rfl rfl, wiX9, by decide +kernel, rfl, rfl, rfl⟩ (fun _ h => nomatch h))
def ciX9 : List (Nat × Int) := []
theorem ciX9_ok : ∀ (i : Nat) (n : Int), (i, n) ∈ ciX9 → ∃ x : Int32, Cond.constant RX9 i x ∈ gT ∧ x.toInt = n := zci_n
def clX9 : List (Nat × Int) := [(23, 48), (25, 10)]
theorem clX9_ok : ∀ (i : Nat) (n : Int), (i, n) ∈ clX9 → ∃ x : Int64, Cond.constantLong RX9 i x ∈ gT ∧ x.toInt = n := 
  zci_c ⟨48, tb_5 222 rfl rfl, by decide +kernel⟩ (
  zci_c ⟨10, tb_5 223 rfl rfl, by decide +kernel⟩ (zci_n))
/-! MomentTexts$Rule: its pool -/
def gfX6 : List (Nat × Nat × Nat) := [(9, 5, 0), (15, 5, 1), (18, 5, 2), (24, 5, 3), (28, 5, 4), (31, 5, 5), (35, 5, 6), (38, 5, 7), (42, 5, 8), (45, 5, 9), (48, 5, 10), (68, 0, 2)]
theorem gfX6_ok : ∀ x ∈ gfX6, zf_w vwCl RTg RX6 x := 
  zgf_c ⟨RX6, TX6, 11, .int, 0, fsX6, (0, (-2147483648), 2147483647), rfl, by decide, tb_1 75 rfl rfl, wiX6, by decide +kernel, rfl, rfl, rfl⟩ (
  zgf_c ⟨RX6, TX6, 11, .int, 0, fsX6, (0, (-2147483648), 2147483647), rfl, by decide, tb_1 77 rfl rfl, wiX6, by decide +kernel, rfl, rfl, rfl⟩ (
  zgf_c ⟨RX6, TX6, 11, .int, 0, fsX6, (0, (-2147483648), 2147483647), rfl, by decide, tb_1 79 rfl rfl, wiX6, by decide +kernel, rfl, rfl, rfl⟩ (
  zgf_c ⟨RX6, TX6, 11, (.object "MomentTexts$RuleDate"), 0, fsX6, (16, 0, 0), rfl, by decide, tb_1 81 rfl rfl, wiX6, by decide +kernel, rfl, rfl, rfl⟩ (
  zgf_c ⟨RX6, TX6, 11, (.object "MomentTexts$RuleDate"), 0, fsX6, (16, 0, 0), rfl, by decide, tb_1 82 rfl rfl, wiX6, by decide +kernel, rfl, rfl, rfl⟩ (
  zgf_c ⟨RX6, TX6, 11, .boolean, 0, fsX6, (0, 0, 1), rfl, by decide, tb_1 83 rfl rfl, wiX6, by decide +kernel, rfl, rfl, rfl⟩ (
  zgf_c ⟨RX6, TX6, 11, .int, 0, fsX6, (0, (-2147483648), 2147483647), rfl, by decide, tb_1 84 rfl rfl, wiX6, by decide +kernel, rfl, rfl, rfl⟩ (
  zgf_c ⟨RX6, TX6, 11, .long, 0, fsX6, (1, (-9223372036854775808), 9223372036854775807), rfl, by decide, tb_1 85 rfl rfl, wiX6, by decide +kernel, rfl, rfl, rfl⟩ (
  zgf_c ⟨RX6, TX6, 11, .long, 0, fsX6, (1, (-9223372036854775808), 9223372036854775807), rfl, by decide, tb_1 86 rfl rfl, wiX6, by decide +kernel, rfl, rfl, rfl⟩ (
  zgf_c ⟨RX6, TX6, 11, .long, 0, fsX6, (1, (-9223372036854775808), 9223372036854775807), rfl, by decide, tb_1 87 rfl rfl, wiX6, by decide +kernel, rfl, rfl, rfl⟩ (
  zgf_c ⟨RX6, TX6, 11, .long, 0, fsX6, (1, (-9223372036854775808), 9223372036854775807), rfl, by decide, tb_1 88 rfl rfl, wiX6, by decide +kernel, rfl, rfl, rfl⟩ (
  zgf_c ⟨RX0, TX0, 5, .int, 0, fsX0, (0, (-2147483648), 2147483647), rfl, by decide, tb_1 124 rfl rfl, wiX0, by decide +kernel, rfl, rfl, rfl⟩ (fun _ h => nomatch h))))))))))))
def ciX6 : List (Nat × Int) := []
theorem ciX6_ok : ∀ (i : Nat) (n : Int), (i, n) ∈ ciX6 → ∃ x : Int32, Cond.constant RX6 i x ∈ gT ∧ x.toInt = n := zci_n
def clX6 : List (Nat × Int) := [(131, 1440), (153, (-9223372036854775808))]
theorem clX6_ok : ∀ (i : Nat) (n : Int), (i, n) ∈ clX6 → ∃ x : Int64, Cond.constantLong RX6 i x ∈ gT ∧ x.toInt = n := 
  zci_c ⟨1440, tb_4 123 rfl rfl, by decide +kernel⟩ (
  zci_c ⟨(-9223372036854775808), tb_4 187 rfl rfl, by decide +kernel⟩ (zci_n))
/-! MomentTexts$Zone: its pool -/
def gfX10 : List (Nat × Nat × Nat) := [(9, 9, 2), (15, 9, 3), (19, 9, 4), (26, 9, 5), (30, 9, 0), (33, 9, 1), (37, 5, 0), (54, 5, 1), (55, 5, 2)]
theorem gfX10_ok : ∀ x ∈ gfX10, zf_w vwCl RTg RX10 x := 
  zgf_c ⟨RX10, TX10, 6, (.array .long), 0, fsX10, (32, 0, 0), rfl, by decide, tb_3 182 rfl rfl, wiX10, by decide +kernel, rfl, rfl, rfl⟩ (
  zgf_c ⟨RX10, TX10, 6, (.array .int), 0, fsX10, (34, 0, 0), rfl, by decide, tb_3 183 rfl rfl, wiX10, by decide +kernel, rfl, rfl, rfl⟩ (
  zgf_c ⟨RX10, TX10, 6, .int, 0, fsX10, (0, 0, 60), rfl, by decide, tb_3 184 rfl rfl, wiX10, by decide +kernel, rfl, rfl, rfl⟩ (
  zgf_c ⟨RX10, TX10, 6, (.object "MomentTexts$Rule"), 0, fsX10, (14, 0, 0), rfl, by decide, tb_3 185 rfl rfl, wiX10, by decide +kernel, rfl, rfl, rfl⟩ (
  zgf_c ⟨RX10, TX10, 6, .int, 0, fsX10, (0, (-2147483648), 2147483647), rfl, by decide, tb_3 180 rfl rfl, wiX10, by decide +kernel, rfl, rfl, rfl⟩ (
  zgf_c ⟨RX10, TX10, 6, (.object "MomentTexts$Leaps"), 0, fsX10, (12, 0, 0), rfl, by decide, tb_3 181 rfl rfl, wiX10, by decide +kernel, rfl, rfl, rfl⟩ (
  zgf_c ⟨RX6, TX6, 11, .int, 0, fsX6, (0, (-2147483648), 2147483647), rfl, by decide, tb_1 76 rfl rfl, wiX6, by decide +kernel, rfl, rfl, rfl⟩ (
  zgf_c ⟨RX6, TX6, 11, .int, 0, fsX6, (0, (-2147483648), 2147483647), rfl, by decide, tb_1 78 rfl rfl, wiX6, by decide +kernel, rfl, rfl, rfl⟩ (
  zgf_c ⟨RX6, TX6, 11, .int, 0, fsX6, (0, (-2147483648), 2147483647), rfl, by decide, tb_1 80 rfl rfl, wiX6, by decide +kernel, rfl, rfl, rfl⟩ (fun _ h => nomatch h)))))))))
def ciX10 : List (Nat × Int) := []
theorem ciX10_ok : ∀ (i : Nat) (n : Int), (i, n) ∈ ciX10 → ∃ x : Int32, Cond.constant RX10 i x ∈ gT ∧ x.toInt = n := zci_n
def clX10 : List (Nat × Int) := [(79, (-9223372036854775808))]
theorem clX10_ok : ∀ (i : Nat) (n : Int), (i, n) ∈ clX10 → ∃ x : Int64, Cond.constantLong RX10 i x ∈ gT ∧ x.toInt = n := 
  zci_c ⟨(-9223372036854775808), tb_4 179 rfl rfl, by decide +kernel⟩ (zci_n)
/-! MomentTexts$FormReader: its pool -/
def gfX4 : List (Nat × Nat × Nat) := [(12, 3, 2), (21, 3, 3), (28, 3, 4), (32, 3, 5), (36, 3, 0), (40, 3, 1), (85, 1, 0), (95, 1, 1), (103, 2, 0), (107, 2, 1), (110, 2, 2), (113, 2, 3), (142, 7, 8)]
theorem gfX4_ok : ∀ x ∈ gfX4, zf_w vwCl RTg RX4 x := 
  zgf_c ⟨RX4, TX4, 6, (.object "MomentTexts$DateText"), 0, fsX4, (6, 0, 0), rfl, by decide, tb_2 38 rfl rfl, wiX4, by decide +kernel, rfl, rfl, rfl⟩ (
  zgf_c ⟨RX4, TX4, 6, (.object "MomentTexts$TimeText"), 0, fsX4, (18, 0, 0), rfl, by decide, tb_2 39 rfl rfl, wiX4, by decide +kernel, rfl, rfl, rfl⟩ (
  zgf_c ⟨RX4, TX4, 6, (.object "MomentTexts$DurationText"), 0, fsX4, (8, 0, 0), rfl, by decide, tb_2 40 rfl rfl, wiX4, by decide +kernel, rfl, rfl, rfl⟩ (
  zgf_c ⟨RX4, TX4, 6, (.array .long), 0, fsX4, (38, 0, 0), rfl, by decide, tb_2 41 rfl rfl, wiX4, by decide +kernel, rfl, rfl, rfl⟩ (
  zgf_c ⟨RX4, TX4, 6, (.object "MomentTexts$Cursor"), 0, fsX4, (4, 0, 0), rfl, by decide, tb_2 36 rfl rfl, wiX4, by decide +kernel, rfl, rfl, rfl⟩ (
  zgf_c ⟨RX4, TX4, 6, (.object "MomentTexts$Leaps"), 0, fsX4, (12, 0, 0), rfl, by decide, tb_2 37 rfl rfl, wiX4, by decide +kernel, rfl, rfl, rfl⟩ (
  zgf_c ⟨RX1, TX1, 10, .int, 0, fsX1, (0, (-2147483648), 2147483647), rfl, by decide, tb_1 168 rfl rfl, wiX1, by decide +kernel, rfl, rfl, rfl⟩ (
  zgf_c ⟨RX1, TX1, 10, .boolean, 0, fsX1, (0, 0, 1), rfl, by decide, tb_1 170 rfl rfl, wiX1, by decide +kernel, rfl, rfl, rfl⟩ (
  zgf_c ⟨RX3, TX3, 5, .long, 0, fsX3, (1, (-9223372036854775808), 9223372036854775807), rfl, by decide, tb_2 17 rfl rfl, wiX3, by decide +kernel, rfl, rfl, rfl⟩ (
  zgf_c ⟨RX3, TX3, 5, .long, 0, fsX3, (1, (-9223372036854775808), 9223372036854775807), rfl, by decide, tb_2 19 rfl rfl, wiX3, by decide +kernel, rfl, rfl, rfl⟩ (
  zgf_c ⟨RX3, TX3, 5, .long, 0, fsX3, (1, (-9223372036854775808), 9223372036854775807), rfl, by decide, tb_2 21 rfl rfl, wiX3, by decide +kernel, rfl, rfl, rfl⟩ (
  zgf_c ⟨RX3, TX3, 5, .long, 0, fsX3, (1, (-9223372036854775808), 9223372036854775807), rfl, by decide, tb_2 23 rfl rfl, wiX3, by decide +kernel, rfl, rfl, rfl⟩ (
  zgf_c ⟨RX8, TX8, 14, .int, 0, fsX8, (0, (-2147483648), 2147483647), rfl, by decide, tb_1 215 rfl rfl, wiX8, by decide +kernel, rfl, rfl, rfl⟩ (fun _ h => nomatch h)))))))))))))
def ciX4 : List (Nat × Int) := []
theorem ciX4_ok : ∀ (i : Nat) (n : Int), (i, n) ∈ ciX4 → ∃ x : Int32, Cond.constant RX4 i x ∈ gT ∧ x.toInt = n := zci_n
def clX4 : List (Nat × Int) := [(49, (-9223372036854775808)), (101, 4), (137, 1440), (167, 1000000000)]
theorem clX4_ok : ∀ (i : Nat) (n : Int), (i, n) ∈ clX4 → ∃ x : Int64, Cond.constantLong RX4 i x ∈ gT ∧ x.toInt = n := 
  zci_c ⟨(-9223372036854775808), tb_4 217 rfl rfl, by decide +kernel⟩ (
  zci_c ⟨4, tb_5 170 rfl rfl, by decide +kernel⟩ (
  zci_c ⟨1440, tb_5 83 rfl rfl, by decide +kernel⟩ (
  zci_c ⟨1000000000, tb_5 89 rfl rfl, by decide +kernel⟩ (zci_n))))
/-! MomentTexts: its pool -/
def gfX11 : List (Nat × Nat × Nat) := [(14, 10, 0), (20, 10, 1), (24, 10, 2), (31, 10, 3), (38, 10, 4), (45, 10, 5), (54, 10, 6), (58, 10, 7), (70, 10, 8), (217, 9, 5), (242, 0, 1), (251, 8, 1), (252, 8, 0), (290, 3, 5)]
theorem gfX11_ok : ∀ x ∈ gfX11, zf_w vwCl RTg RX11 x := 
  zgf_c ⟨RX11, TX11, 9, (.object "MomentTexts$Leaps"), 0, fsX11, (12, 0, 0), rfl, by decide, tb_2 60 rfl rfl, wiX11, by decide +kernel, rfl, rfl, rfl⟩ (
  zgf_c ⟨RX11, TX11, 9, (.array (.object "MomentTexts$Zone")), 0, fsX11, (44, 0, 0), rfl, by decide, tb_2 61 rfl rfl, wiX11, by decide +kernel, rfl, rfl, rfl⟩ (
  zgf_c ⟨RX11, TX11, 9, .int, 0, fsX11, (0, 0, 8), rfl, by decide, tb_2 62 rfl rfl, wiX11, by decide +kernel, rfl, rfl, rfl⟩ (
  zgf_c ⟨RX11, TX11, 9, (.object "MomentTexts$Rule"), 0, fsX11, (14, 0, 0), rfl, by decide, tb_2 63 rfl rfl, wiX11, by decide +kernel, rfl, rfl, rfl⟩ (
  zgf_c ⟨RX11, TX11, 9, (.object "MomentTexts$Cursor"), 0, fsX11, (4, 0, 0), rfl, by decide, tb_2 64 rfl rfl, wiX11, by decide +kernel, rfl, rfl, rfl⟩ (
  zgf_c ⟨RX11, TX11, 9, (.object "MomentTexts$Writer"), 0, fsX11, (20, 0, 0), rfl, by decide, tb_2 65 rfl rfl, wiX11, by decide +kernel, rfl, rfl, rfl⟩ (
  zgf_c ⟨RX11, TX11, 9, (.object "MomentTexts$FormReader"), 0, fsX11, (10, 0, 0), rfl, by decide, tb_2 66 rfl rfl, wiX11, by decide +kernel, rfl, rfl, rfl⟩ (
  zgf_c ⟨RX11, TX11, 9, (.array .long), 0, fsX11, (40, 0, 0), rfl, by decide, tb_2 67 rfl rfl, wiX11, by decide +kernel, rfl, rfl, rfl⟩ (
  zgf_c ⟨RX11, TX11, 9, (.array .long), 0, fsX11, (42, 0, 0), rfl, by decide, tb_2 68 rfl rfl, wiX11, by decide +kernel, rfl, rfl, rfl⟩ (
  zgf_c ⟨RX10, TX10, 6, (.object "MomentTexts$Rule"), 0, fsX10, (14, 0, 0), rfl, by decide, tb_3 186 rfl rfl, wiX10, by decide +kernel, rfl, rfl, rfl⟩ (
  zgf_c ⟨RX0, TX0, 5, .int, 0, fsX0, (0, 0, 120), rfl, by decide, tb_1 120 rfl rfl, wiX0, by decide +kernel, rfl, rfl, rfl⟩ (
  zgf_c ⟨RX9, TX9, 2, .int, 0, fsX9, (0, 0, 120), rfl, by decide, tb_1 149 rfl rfl, wiX9, by decide +kernel, rfl, rfl, rfl⟩ (
  zgf_c ⟨RX9, TX9, 2, (.array .byte), 0, fsX9, (36, 0, 0), rfl, by decide, tb_1 147 rfl rfl, wiX9, by decide +kernel, rfl, rfl, rfl⟩ (
  zgf_c ⟨RX4, TX4, 6, (.array .long), 0, fsX4, (38, 0, 0), rfl, by decide, tb_2 42 rfl rfl, wiX4, by decide +kernel, rfl, rfl, rfl⟩ (fun _ h => nomatch h))))))))))))))
def ciX11 : List (Nat × Int) := [(142, 999999), (323, 999999999)]
theorem ciX11_ok : ∀ (i : Nat) (n : Int), (i, n) ∈ ciX11 → ∃ x : Int32, Cond.constant RX11 i x ∈ gT ∧ x.toInt = n := 
  zci_c ⟨999999, tb_3 57 rfl rfl, by decide +kernel⟩ (
  zci_c ⟨999999999, tb_6 18 rfl rfl, by decide +kernel⟩ (zci_n))
def clX11 : List (Nat × Int) := [(62, (-9223372036854775808)), (238, 172800000), (328, 1440), (346, 999999999), (348, 3599999999999), (355, 12), (361, 3600), (363, 60), (382, 2592000000), (386, 1439), (404, (-526984793280))]
theorem clX11_ok : ∀ (i : Nat) (n : Int), (i, n) ∈ clX11 → ∃ x : Int64, Cond.constantLong RX11 i x ∈ gT ∧ x.toInt = n := 
  zci_c ⟨(-9223372036854775808), tb_2 56 rfl rfl, by decide +kernel⟩ (
  zci_c ⟨172800000, tb_4 194 rfl rfl, by decide +kernel⟩ (
  zci_c ⟨1440, tb_6 21 rfl rfl, by decide +kernel⟩ (
  zci_c ⟨999999999, tb_6 42 rfl rfl, by decide +kernel⟩ (
  zci_c ⟨3599999999999, tb_6 43 rfl rfl, by decide +kernel⟩ (
  zci_c ⟨12, tb_6 46 rfl rfl, by decide +kernel⟩ (
  zci_c ⟨3600, tb_6 55 rfl rfl, by decide +kernel⟩ (
  zci_c ⟨60, tb_6 56 rfl rfl, by decide +kernel⟩ (
  zci_c ⟨2592000000, tb_6 112 rfl rfl, by decide +kernel⟩ (
  zci_c ⟨1439, tb_6 114 rfl rfl, by decide +kernel⟩ (
  zci_c ⟨(-526984793280), tb_6 101 rfl rfl, by decide +kernel⟩ (zci_n)))))))))))
/-! MomentTextsModel: its pool -/
def gfX12 : List (Nat × Nat × Nat) := [(9, 11, 2), (15, 11, 4), (19, 11, 5), (22, 11, 6), (25, 11, 7), (28, 11, 8), (31, 11, 9), (34, 11, 10), (37, 11, 11), (40, 11, 12), (44, 11, 14), (47, 11, 23), (50, 11, 25), (53, 11, 26), (56, 11, 32), (59, 11, 34), (62, 11, 35), (65, 11, 40), (74, 11, 16), (80, 11, 17), (85, 11, 0), (121, 11, 20), (124, 11, 19), (127, 11, 18), (173, 11, 1), (195, 11, 21), (198, 11, 22), (215, 11, 3), (236, 11, 24), (253, 11, 27), (256, 11, 28), (293, 11, 29), (296, 11, 30), (299, 11, 31), (302, 11, 13), (328, 11, 33), (354, 11, 36), (365, 11, 37), (404, 11, 39), (407, 11, 38), (447, 11, 15)]
theorem gfX12_ok : ∀ x ∈ gfX12, zf_w vwCl RTg RX12 x := 
  zgf_c ⟨RX12, TX12, 41, (.array .long), 0, fsX12, (46, 0, 0), rfl, by decide, tb_6 152 rfl rfl, wiX12, by decide +kernel, rfl, rfl, rfl⟩ (
  zgf_c ⟨RX12, TX12, 41, (.array .int), 0, fsX12, (48, 0, 0), rfl, by decide, tb_6 154 rfl rfl, wiX12, by decide +kernel, rfl, rfl, rfl⟩ (
  zgf_c ⟨RX12, TX12, 41, (.array .int), 0, fsX12, (50, 0, 0), rfl, by decide, tb_6 155 rfl rfl, wiX12, by decide +kernel, rfl, rfl, rfl⟩ (
  zgf_c ⟨RX12, TX12, 41, (.array .long), 0, fsX12, (52, 0, 0), rfl, by decide, tb_6 156 rfl rfl, wiX12, by decide +kernel, rfl, rfl, rfl⟩ (
  zgf_c ⟨RX12, TX12, 41, (.array .int), 0, fsX12, (54, 0, 0), rfl, by decide, tb_6 157 rfl rfl, wiX12, by decide +kernel, rfl, rfl, rfl⟩ (
  zgf_c ⟨RX12, TX12, 41, (.array .int), 0, fsX12, (56, 0, 0), rfl, by decide, tb_6 158 rfl rfl, wiX12, by decide +kernel, rfl, rfl, rfl⟩ (
  zgf_c ⟨RX12, TX12, 41, (.array .int), 0, fsX12, (58, 0, 0), rfl, by decide, tb_6 159 rfl rfl, wiX12, by decide +kernel, rfl, rfl, rfl⟩ (
  zgf_c ⟨RX12, TX12, 41, (.array .int), 0, fsX12, (60, 0, 0), rfl, by decide, tb_6 160 rfl rfl, wiX12, by decide +kernel, rfl, rfl, rfl⟩ (
  zgf_c ⟨RX12, TX12, 41, (.array .int), 0, fsX12, (62, 0, 0), rfl, by decide, tb_6 161 rfl rfl, wiX12, by decide +kernel, rfl, rfl, rfl⟩ (
  zgf_c ⟨RX12, TX12, 41, (.array .byte), 0, fsX12, (64, 0, 0), rfl, by decide, tb_6 162 rfl rfl, wiX12, by decide +kernel, rfl, rfl, rfl⟩ (
  zgf_c ⟨RX12, TX12, 41, (.array .byte), 0, fsX12, (66, 0, 0), rfl, by decide, tb_6 164 rfl rfl, wiX12, by decide +kernel, rfl, rfl, rfl⟩ (
  zgf_c ⟨RX12, TX12, 41, (.array .int), 0, fsX12, (68, 0, 0), rfl, by decide, tb_6 173 rfl rfl, wiX12, by decide +kernel, rfl, rfl, rfl⟩ (
  zgf_c ⟨RX12, TX12, 41, (.array .long), 0, fsX12, (70, 0, 0), rfl, by decide, tb_6 175 rfl rfl, wiX12, by decide +kernel, rfl, rfl, rfl⟩ (
  zgf_c ⟨RX12, TX12, 41, (.array .long), 0, fsX12, (72, 0, 0), rfl, by decide, tb_6 176 rfl rfl, wiX12, by decide +kernel, rfl, rfl, rfl⟩ (
  zgf_c ⟨RX12, TX12, 41, (.array .int), 0, fsX12, (74, 0, 0), rfl, by decide, tb_6 182 rfl rfl, wiX12, by decide +kernel, rfl, rfl, rfl⟩ (
  zgf_c ⟨RX12, TX12, 41, (.array .long), 0, fsX12, (76, 0, 0), rfl, by decide, tb_6 184 rfl rfl, wiX12, by decide +kernel, rfl, rfl, rfl⟩ (
  zgf_c ⟨RX12, TX12, 41, (.array .long), 0, fsX12, (78, 0, 0), rfl, by decide, tb_6 185 rfl rfl, wiX12, by decide +kernel, rfl, rfl, rfl⟩ (
  zgf_c ⟨RX12, TX12, 41, (.array .long), 0, fsX12, (80, 0, 0), rfl, by decide, tb_6 190 rfl rfl, wiX12, by decide +kernel, rfl, rfl, rfl⟩ (
  zgf_c ⟨RX12, TX12, 41, .long, 0, fsX12, (1, (-365961662), (-365961662)), rfl, by decide, tb_6 166 rfl rfl, wiX12, by decide +kernel, rfl, rfl, rfl⟩ (
  zgf_c ⟨RX12, TX12, 41, .long, 0, fsX12, (1, 364522971, 364522971), rfl, by decide, tb_6 167 rfl rfl, wiX12, by decide +kernel, rfl, rfl, rfl⟩ (
  zgf_c ⟨RX12, TX12, 41, .int, 0, fsX12, (0, 0, 2), rfl, by decide, tb_6 150 rfl rfl, wiX12, by decide +kernel, rfl, rfl, rfl⟩ (
  zgf_c ⟨RX12, TX12, 41, .int, 0, fsX12, (0, (-2147483648), 2147483647), rfl, by decide, tb_6 170 rfl rfl, wiX12, by decide +kernel, rfl, rfl, rfl⟩ (
  zgf_c ⟨RX12, TX12, 41, .int, 0, fsX12, (0, (-2147483648), 2147483647), rfl, by decide, tb_6 169 rfl rfl, wiX12, by decide +kernel, rfl, rfl, rfl⟩ (
  zgf_c ⟨RX12, TX12, 41, .long, 0, fsX12, (1, (-9223372036854775808), 9223372036854775807), rfl, by decide, tb_6 168 rfl rfl, wiX12, by decide +kernel, rfl, rfl, rfl⟩ (
  zgf_c ⟨RX12, TX12, 41, .int, 0, fsX12, (0, 0, 40), rfl, by decide, tb_6 151 rfl rfl, wiX12, by decide +kernel, rfl, rfl, rfl⟩ (
  zgf_c ⟨RX12, TX12, 41, .long, 0, fsX12, (1, (-9223372036854775808), 9223372036854775807), rfl, by decide, tb_6 171 rfl rfl, wiX12, by decide +kernel, rfl, rfl, rfl⟩ (
  zgf_c ⟨RX12, TX12, 41, .int, 0, fsX12, (0, (-2147483648), 2147483647), rfl, by decide, tb_6 172 rfl rfl, wiX12, by decide +kernel, rfl, rfl, rfl⟩ (
  zgf_c ⟨RX12, TX12, 41, .int, 0, fsX12, (0, 0, 8), rfl, by decide, tb_6 153 rfl rfl, wiX12, by decide +kernel, rfl, rfl, rfl⟩ (
  zgf_c ⟨RX12, TX12, 41, .int, 0, fsX12, (0, 0, 64), rfl, by decide, tb_6 174 rfl rfl, wiX12, by decide +kernel, rfl, rfl, rfl⟩ (
  zgf_c ⟨RX12, TX12, 41, .int, 0, fsX12, (0, 0, 128), rfl, by decide, tb_6 177 rfl rfl, wiX12, by decide +kernel, rfl, rfl, rfl⟩ (
  zgf_c ⟨RX12, TX12, 41, .int, 0, fsX12, (0, 0, 7), rfl, by decide, tb_6 178 rfl rfl, wiX12, by decide +kernel, rfl, rfl, rfl⟩ (
  zgf_c ⟨RX12, TX12, 41, .int, 0, fsX12, (0, 0, 120), rfl, by decide, tb_6 179 rfl rfl, wiX12, by decide +kernel, rfl, rfl, rfl⟩ (
  zgf_c ⟨RX12, TX12, 41, .int, 0, fsX12, (0, (-2147483648), 2147483647), rfl, by decide, tb_6 180 rfl rfl, wiX12, by decide +kernel, rfl, rfl, rfl⟩ (
  zgf_c ⟨RX12, TX12, 41, .int, 0, fsX12, (0, (-2147483648), 2147483647), rfl, by decide, tb_6 181 rfl rfl, wiX12, by decide +kernel, rfl, rfl, rfl⟩ (
  zgf_c ⟨RX12, TX12, 41, .int, 0, fsX12, (0, 0, 120), rfl, by decide, tb_6 163 rfl rfl, wiX12, by decide +kernel, rfl, rfl, rfl⟩ (
  zgf_c ⟨RX12, TX12, 41, .int, 0, fsX12, (0, (-2147483648), 2147483647), rfl, by decide, tb_6 183 rfl rfl, wiX12, by decide +kernel, rfl, rfl, rfl⟩ (
  zgf_c ⟨RX12, TX12, 41, .int, 0, fsX12, (0, 0, 2), rfl, by decide, tb_6 186 rfl rfl, wiX12, by decide +kernel, rfl, rfl, rfl⟩ (
  zgf_c ⟨RX12, TX12, 41, .boolean, 0, fsX12, (0, 0, 1), rfl, by decide, tb_6 187 rfl rfl, wiX12, by decide +kernel, rfl, rfl, rfl⟩ (
  zgf_c ⟨RX12, TX12, 41, .boolean, 0, fsX12, (0, 0, 1), rfl, by decide, tb_6 189 rfl rfl, wiX12, by decide +kernel, rfl, rfl, rfl⟩ (
  zgf_c ⟨RX12, TX12, 41, .long, 0, fsX12, (1, (-9223372036854775808), 9223372036854775807), rfl, by decide, tb_6 188 rfl rfl, wiX12, by decide +kernel, rfl, rfl, rfl⟩ (
  zgf_c ⟨RX12, TX12, 41, .int, 0, fsX12, (0, 0, 120), rfl, by decide, tb_6 165 rfl rfl, wiX12, by decide +kernel, rfl, rfl, rfl⟩ (fun _ h => nomatch h)))))))))))))))))))))))))))))))))))))))))
def ciX12 : List (Nat × Int) := []
theorem ciX12_ok : ∀ (i : Nat) (n : Int), (i, n) ∈ ciX12 → ∃ x : Int32, Cond.constant RX12 i x ∈ gT ∧ x.toInt = n := zci_n
def clX12 : List (Nat × Int) := [(68, (-999999)), (78, 999999), (83, (-9223372036854775808)), (89, 4), (91, 100), (93, 400), (103, 153), (105, 2), (107, 5), (109, 146097), (111, 365), (113, 719468), (115, 1460), (117, 36524), (119, 146096), (134, 3), (136, 7), (153, 12), (162, 9), (176, (-1)), (178, 60), (180, 1440), (185, 1439), (193, 45), (213, (-1439)), (263, 172800000), (273, 400000), (275, 64), (281, 2592000000), (283, 86400), (285, 28), (291, 70), (373, 10), (375, 48), (410, 366), (412, 24), (414, 59), (416, 23), (424, 3600), (426, 1000000000), (431, 6), (445, 8), (457, 9999), (462, 999999999), (470, 3599999999999)]
theorem clX12_ok : ∀ (i : Nat) (n : Int), (i, n) ∈ clX12 → ∃ x : Int64, Cond.constantLong RX12 i x ∈ gT ∧ x.toInt = n := 
  zci_c ⟨(-999999), tb_6 132 rfl rfl, by decide +kernel⟩ (
  zci_c ⟨999999, tb_6 148 rfl rfl, by decide +kernel⟩ (
  zci_c ⟨(-9223372036854775808), tb_6 149 rfl rfl, by decide +kernel⟩ (
  zci_c ⟨4, tb_6 145 rfl rfl, by decide +kernel⟩ (
  zci_c ⟨100, tb_6 146 rfl rfl, by decide +kernel⟩ (
  zci_c ⟨400, tb_6 136 rfl rfl, by decide +kernel⟩ (
  zci_c ⟨153, tb_6 140 rfl rfl, by decide +kernel⟩ (
  zci_c ⟨2, tb_6 141 rfl rfl, by decide +kernel⟩ (
  zci_c ⟨5, tb_6 142 rfl rfl, by decide +kernel⟩ (
  zci_c ⟨146097, tb_6 143 rfl rfl, by decide +kernel⟩ (
  zci_c ⟨365, tb_6 144 rfl rfl, by decide +kernel⟩ (
  zci_c ⟨719468, tb_6 147 rfl rfl, by decide +kernel⟩ (
  zci_c ⟨1460, tb_7 72 rfl rfl, by decide +kernel⟩ (
  zci_c ⟨36524, tb_7 73 rfl rfl, by decide +kernel⟩ (
  zci_c ⟨146096, tb_7 74 rfl rfl, by decide +kernel⟩ (
  zci_c ⟨3, tb_7 81 rfl rfl, by decide +kernel⟩ (
  zci_c ⟨7, tb_7 82 rfl rfl, by decide +kernel⟩ (
  zci_c ⟨12, tb_7 48 rfl rfl, by decide +kernel⟩ (
  zci_c ⟨9, tb_7 63 rfl rfl, by decide +kernel⟩ (
  zci_c ⟨(-1), tb_7 133 rfl rfl, by decide +kernel⟩ (
  zci_c ⟨60, tb_7 128 rfl rfl, by decide +kernel⟩ (
  zci_c ⟨1440, tb_7 118 rfl rfl, by decide +kernel⟩ (
  zci_c ⟨1439, tb_7 119 rfl rfl, by decide +kernel⟩ (
  zci_c ⟨45, tb_7 146 rfl rfl, by decide +kernel⟩ (
  zci_c ⟨(-1439), tb_7 154 rfl rfl, by decide +kernel⟩ (
  zci_c ⟨172800000, tb_7 199 rfl rfl, by decide +kernel⟩ (
  zci_c ⟨400000, tb_7 224 rfl rfl, by decide +kernel⟩ (
  zci_c ⟨64, tb_7 225 rfl rfl, by decide +kernel⟩ (
  zci_c ⟨2592000000, tb_7 230 rfl rfl, by decide +kernel⟩ (
  zci_c ⟨86400, tb_7 231 rfl rfl, by decide +kernel⟩ (
  zci_c ⟨28, tb_7 232 rfl rfl, by decide +kernel⟩ (
  zci_c ⟨70, tb_7 237 rfl rfl, by decide +kernel⟩ (
  zci_c ⟨10, tb_8 85 rfl rfl, by decide +kernel⟩ (
  zci_c ⟨48, tb_8 86 rfl rfl, by decide +kernel⟩ (
  zci_c ⟨366, tb_8 118 rfl rfl, by decide +kernel⟩ (
  zci_c ⟨24, tb_8 123 rfl rfl, by decide +kernel⟩ (
  zci_c ⟨59, tb_8 124 rfl rfl, by decide +kernel⟩ (
  zci_c ⟨23, tb_8 125 rfl rfl, by decide +kernel⟩ (
  zci_c ⟨3600, tb_8 138 rfl rfl, by decide +kernel⟩ (
  zci_c ⟨1000000000, tb_8 139 rfl rfl, by decide +kernel⟩ (
  zci_c ⟨6, tb_8 60 rfl rfl, by decide +kernel⟩ (
  zci_c ⟨8, tb_8 148 rfl rfl, by decide +kernel⟩ (
  zci_c ⟨9999, tb_8 165 rfl rfl, by decide +kernel⟩ (
  zci_c ⟨999999999, tb_8 178 rfl rfl, by decide +kernel⟩ (
  zci_c ⟨3599999999999, tb_8 187 rfl rfl, by decide +kernel⟩ (zci_n)))))))))))))))))))))))))))))))))))))))))))))
end
