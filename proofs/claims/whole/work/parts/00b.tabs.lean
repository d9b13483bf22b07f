-- ===== PART A: goes FIRST, ahead of the names: the tables' words, and 'selects' of the private methods out of them =====
/-- a private method of a class that the tables say can be made, by its rows of tables_1 -/
def lw_okq (q : MethodName × Nat) : Prop := (q.1.cls ≠ "java/lang/invoke/MethodHandle" ∧ q.1.cls ≠ "java/lang/invoke/VarHandle") ∧ Cond.instantiable q.1.cls q.2 ∈ tables_1 ∧ Cond.privateMethod q.1 ∈ tables_1 ∧ Cond.instanceMethod q.1 ∈ tables_1
theorem lw_p0 : lw_okq (⟨"SnowKeeps", "putOnTape", "(I)V"⟩, 20) := ⟨⟨by decide +kernel, by decide +kernel⟩, List.mem_of_getElem? (i := 35) (by decide +kernel), List.mem_of_getElem? (i := 410) (by decide +kernel), List.mem_of_getElem? (i := 411) (by decide +kernel)⟩
theorem lw_p1 : lw_okq (⟨"SnowKeeps$Snow", "log", "(II)V"⟩, 10) := ⟨⟨by decide +kernel, by decide +kernel⟩, List.mem_of_getElem? (i := 43) (by decide +kernel), List.mem_of_getElem? (i := 443) (by decide +kernel), List.mem_of_getElem? (i := 444) (by decide +kernel)⟩
theorem lw_p2 : lw_okq (⟨"SnowKeeps$Snow", "logAt", "([III)I"⟩, 10) := ⟨⟨by decide +kernel, by decide +kernel⟩, List.mem_of_getElem? (i := 43) (by decide +kernel), List.mem_of_getElem? (i := 469) (by decide +kernel), List.mem_of_getElem? (i := 470) (by decide +kernel)⟩
theorem lw_p3 : lw_okq (⟨"SnowKeeps", "takeKept", "(I)Z"⟩, 20) := ⟨⟨by decide +kernel, by decide +kernel⟩, List.mem_of_getElem? (i := 35) (by decide +kernel), List.mem_of_getElem? (i := 485) (by decide +kernel), List.mem_of_getElem? (i := 486) (by decide +kernel)⟩
theorem lw_p4 : lw_okq (⟨"SnowKeeps$Trails", "countComing", "(I[J)V"⟩, 10) := ⟨⟨by decide +kernel, by decide +kernel⟩, List.mem_of_getElem? (i := 222) (by decide +kernel), List.mem_of_getElem? (i := 502) (by decide +kernel), List.mem_of_getElem? (i := 503) (by decide +kernel)⟩
theorem lw_p5 : lw_okq (⟨"java/lang/Throwable", "fillInStackTrace", "(I)Ljava/lang/Throwable;"⟩, 6) := ⟨⟨by decide +kernel, by decide +kernel⟩, List.mem_of_getElem? (i := 552) (by decide +kernel), List.mem_of_getElem? (i := 550) (by decide +kernel), List.mem_of_getElem? (i := 551) (by decide +kernel)⟩
theorem lw_p6 : lw_okq (⟨"SnowKeeps$Trails", "mayGoOn", "(II)Z"⟩, 10) := ⟨⟨by decide +kernel, by decide +kernel⟩, List.mem_of_getElem? (i := 222) (by decide +kernel), List.mem_of_getElem? (i := 842) (by decide +kernel), List.mem_of_getElem? (i := 843) (by decide +kernel)⟩
theorem lw_p7 : lw_okq (⟨"SnowKeeps$Reader", "advance", "()V"⟩, 8) := ⟨⟨by decide +kernel, by decide +kernel⟩, List.mem_of_getElem? (i := 872) (by decide +kernel), List.mem_of_getElem? (i := 911) (by decide +kernel), List.mem_of_getElem? (i := 912) (by decide +kernel)⟩
theorem lw_p8 : lw_okq (⟨"SnowKeeps$Reader", "advanceDigits", "()V"⟩, 8) := ⟨⟨by decide +kernel, by decide +kernel⟩, List.mem_of_getElem? (i := 872) (by decide +kernel), List.mem_of_getElem? (i := 921) (by decide +kernel), List.mem_of_getElem? (i := 922) (by decide +kernel)⟩
theorem lw_p9 : lw_okq (⟨"SnowKeeps$Reader", "tellPlaces", "(LSnowKeeps$Plain;)Z"⟩, 8) := ⟨⟨by decide +kernel, by decide +kernel⟩, List.mem_of_getElem? (i := 872) (by decide +kernel), List.mem_of_getElem? (i := 925) (by decide +kernel), List.mem_of_getElem? (i := 926) (by decide +kernel)⟩
theorem lw_p10 : lw_okq (⟨"SnowKeeps$Reader", "isWord", "(Ljava/lang/String;)Z"⟩, 8) := ⟨⟨by decide +kernel, by decide +kernel⟩, List.mem_of_getElem? (i := 872) (by decide +kernel), List.mem_of_getElem? (i := 930) (by decide +kernel), List.mem_of_getElem? (i := 931) (by decide +kernel)⟩
theorem lw_p11 : lw_okq (⟨"SnowKeeps$Reader", "fail", "(I)Z"⟩, 8) := ⟨⟨by decide +kernel, by decide +kernel⟩, List.mem_of_getElem? (i := 872) (by decide +kernel), List.mem_of_getElem? (i := 959) (by decide +kernel), List.mem_of_getElem? (i := 960) (by decide +kernel)⟩
theorem lw_p12 : lw_okq (⟨"SnowKeeps$Reader", "isNumber", "(II)Z"⟩, 8) := ⟨⟨by decide +kernel, by decide +kernel⟩, List.mem_of_getElem? (i := 872) (by decide +kernel), List.mem_of_getElem? (i := 963) (by decide +kernel), List.mem_of_getElem? (i := 964) (by decide +kernel)⟩
theorem lw_p13 : lw_okq (⟨"SnowKeeps$Reader", "endLine", "(LSnowKeeps$Plain;)Z"⟩, 8) := ⟨⟨by decide +kernel, by decide +kernel⟩, List.mem_of_getElem? (i := 872) (by decide +kernel), List.mem_of_getElem? (i := 967) (by decide +kernel), List.mem_of_getElem? (i := 968) (by decide +kernel)⟩
theorem lw_p14 : lw_okq (⟨"SnowKeeps$Reader", "tellLine", "(LSnowKeeps$Plain;)Z"⟩, 8) := ⟨⟨by decide +kernel, by decide +kernel⟩, List.mem_of_getElem? (i := 872) (by decide +kernel), List.mem_of_getElem? (i := 971) (by decide +kernel), List.mem_of_getElem? (i := 972) (by decide +kernel)⟩
theorem lw_p15 : lw_okq (⟨"SnowKeeps$Reader", "tellPath", "(LSnowKeeps$Plain;)Z"⟩, 8) := ⟨⟨by decide +kernel, by decide +kernel⟩, List.mem_of_getElem? (i := 872) (by decide +kernel), List.mem_of_getElem? (i := 976) (by decide +kernel), List.mem_of_getElem? (i := 977) (by decide +kernel)⟩
def lw_privs_1 : List (MethodName × Nat) := [(⟨"SnowKeeps", "putOnTape", "(I)V"⟩, 20), (⟨"SnowKeeps$Snow", "log", "(II)V"⟩, 10), (⟨"SnowKeeps$Snow", "logAt", "([III)I"⟩, 10), (⟨"SnowKeeps", "takeKept", "(I)Z"⟩, 20), (⟨"SnowKeeps$Trails", "countComing", "(I[J)V"⟩, 10), (⟨"java/lang/Throwable", "fillInStackTrace", "(I)Ljava/lang/Throwable;"⟩, 6), (⟨"SnowKeeps$Trails", "mayGoOn", "(II)Z"⟩, 10), (⟨"SnowKeeps$Reader", "advance", "()V"⟩, 8), (⟨"SnowKeeps$Reader", "advanceDigits", "()V"⟩, 8), (⟨"SnowKeeps$Reader", "tellPlaces", "(LSnowKeeps$Plain;)Z"⟩, 8), (⟨"SnowKeeps$Reader", "isWord", "(Ljava/lang/String;)Z"⟩, 8), (⟨"SnowKeeps$Reader", "fail", "(I)Z"⟩, 8), (⟨"SnowKeeps$Reader", "isNumber", "(II)Z"⟩, 8), (⟨"SnowKeeps$Reader", "endLine", "(LSnowKeeps$Plain;)Z"⟩, 8), (⟨"SnowKeeps$Reader", "tellLine", "(LSnowKeeps$Plain;)Z"⟩, 8), (⟨"SnowKeeps$Reader", "tellPath", "(LSnowKeeps$Plain;)Z"⟩, 8)]
theorem lw_r1 : ∀ q ∈ lw_privs_1, lw_okq q := List.forall_mem_cons.mpr ⟨lw_p0, List.forall_mem_cons.mpr ⟨lw_p1, List.forall_mem_cons.mpr ⟨lw_p2, List.forall_mem_cons.mpr ⟨lw_p3, List.forall_mem_cons.mpr ⟨lw_p4, List.forall_mem_cons.mpr ⟨lw_p5, List.forall_mem_cons.mpr ⟨lw_p6, List.forall_mem_cons.mpr ⟨lw_p7, List.forall_mem_cons.mpr ⟨lw_p8, List.forall_mem_cons.mpr ⟨lw_p9, List.forall_mem_cons.mpr ⟨lw_p10, List.forall_mem_cons.mpr ⟨lw_p11, List.forall_mem_cons.mpr ⟨lw_p12, List.forall_mem_cons.mpr ⟨lw_p13, List.forall_mem_cons.mpr ⟨lw_p14, List.forall_mem_cons.mpr ⟨lw_p15, fun _ h => absurd h List.not_mem_nil⟩⟩⟩⟩⟩⟩⟩⟩⟩⟩⟩⟩⟩⟩⟩⟩
theorem lw_p16 : lw_okq (⟨"SnowKeeps$Reader", "tellWalker", "(LSnowKeeps$Plain;)Z"⟩, 8) := ⟨⟨by decide +kernel, by decide +kernel⟩, List.mem_of_getElem? (i := 872) (by decide +kernel), List.mem_of_getElem? (i := 986) (by decide +kernel), List.mem_of_getElem? (i := 987) (by decide +kernel)⟩
theorem lw_p17 : lw_okq (⟨"SnowKeeps$Reader", "tellBeat", "(LSnowKeeps$Plain;)Z"⟩, 8) := ⟨⟨by decide +kernel, by decide +kernel⟩, List.mem_of_getElem? (i := 872) (by decide +kernel), List.mem_of_getElem? (i := 995) (by decide +kernel), List.mem_of_getElem? (i := 996) (by decide +kernel)⟩
theorem lw_p18 : lw_okq (⟨"SnowKeeps$Reader", "tellKeep", "(LSnowKeeps$Plain;)Z"⟩, 8) := ⟨⟨by decide +kernel, by decide +kernel⟩, List.mem_of_getElem? (i := 872) (by decide +kernel), List.mem_of_getElem? (i := 1004) (by decide +kernel), List.mem_of_getElem? (i := 1005) (by decide +kernel)⟩
theorem lw_p19 : lw_okq (⟨"SnowKeeps$Reader", "tellStorm", "(LSnowKeeps$Plain;)Z"⟩, 8) := ⟨⟨by decide +kernel, by decide +kernel⟩, List.mem_of_getElem? (i := 872) (by decide +kernel), List.mem_of_getElem? (i := 1009) (by decide +kernel), List.mem_of_getElem? (i := 1010) (by decide +kernel)⟩
theorem lw_p20 : lw_okq (⟨"SnowKeeps$Reader", "tellWolves", "(LSnowKeeps$Plain;)Z"⟩, 8) := ⟨⟨by decide +kernel, by decide +kernel⟩, List.mem_of_getElem? (i := 872) (by decide +kernel), List.mem_of_getElem? (i := 1014) (by decide +kernel), List.mem_of_getElem? (i := 1015) (by decide +kernel)⟩
theorem lw_p21 : lw_okq (⟨"SnowKeeps", "askPlace", "(I)V"⟩, 20) := ⟨⟨by decide +kernel, by decide +kernel⟩, List.mem_of_getElem? (i := 35) (by decide +kernel), List.mem_of_getElem? (i := 1060) (by decide +kernel), List.mem_of_getElem? (i := 1061) (by decide +kernel)⟩
theorem lw_p22 : lw_okq (⟨"SnowKeeps$Leads", "lead", "(LSnowKeeps$Plain;I)V"⟩, 1) := ⟨⟨by decide +kernel, by decide +kernel⟩, List.mem_of_getElem? (i := 177) (by decide +kernel), List.mem_of_getElem? (i := 1071) (by decide +kernel), List.mem_of_getElem? (i := 1072) (by decide +kernel)⟩
theorem lw_p23 : lw_okq (⟨"SnowKeeps", "askWalker", "(I)V"⟩, 20) := ⟨⟨by decide +kernel, by decide +kernel⟩, List.mem_of_getElem? (i := 35) (by decide +kernel), List.mem_of_getElem? (i := 1092) (by decide +kernel), List.mem_of_getElem? (i := 1093) (by decide +kernel)⟩
theorem lw_p24 : lw_okq (⟨"SnowKeeps", "askTold", "(I)LSnowKeeps$Tray;"⟩, 20) := ⟨⟨by decide +kernel, by decide +kernel⟩, List.mem_of_getElem? (i := 35) (by decide +kernel), List.mem_of_getElem? (i := 1192) (by decide +kernel), List.mem_of_getElem? (i := 1193) (by decide +kernel)⟩
theorem lw_p25 : lw_okq (⟨"SnowKeeps", "askTray", "(I)LSnowKeeps$Tray;"⟩, 20) := ⟨⟨by decide +kernel, by decide +kernel⟩, List.mem_of_getElem? (i := 35) (by decide +kernel), List.mem_of_getElem? (i := 1196) (by decide +kernel), List.mem_of_getElem? (i := 1197) (by decide +kernel)⟩
theorem lw_p26 : lw_okq (⟨"SnowKeeps", "seekBlur", "(II)V"⟩, 20) := ⟨⟨by decide +kernel, by decide +kernel⟩, List.mem_of_getElem? (i := 35) (by decide +kernel), List.mem_of_getElem? (i := 1421) (by decide +kernel), List.mem_of_getElem? (i := 1422) (by decide +kernel)⟩
theorem lw_p27 : lw_okq (⟨"SnowKeeps$Wander", "goOn", "(I)Z"⟩, 5) := ⟨⟨by decide +kernel, by decide +kernel⟩, List.mem_of_getElem? (i := 262) (by decide +kernel), List.mem_of_getElem? (i := 1444) (by decide +kernel), List.mem_of_getElem? (i := 1445) (by decide +kernel)⟩
theorem lw_p28 : lw_okq (⟨"SnowKeeps$Guides", "stepsOut", "(I)I"⟩, 2) := ⟨⟨by decide +kernel, by decide +kernel⟩, List.mem_of_getElem? (i := 207) (by decide +kernel), List.mem_of_getElem? (i := 1482) (by decide +kernel), List.mem_of_getElem? (i := 1483) (by decide +kernel)⟩
theorem lw_p29 : lw_okq (⟨"SnowKeeps$Trails", "goFrom", "(I)J"⟩, 10) := ⟨⟨by decide +kernel, by decide +kernel⟩, List.mem_of_getElem? (i := 222) (by decide +kernel), List.mem_of_getElem? (i := 1524) (by decide +kernel), List.mem_of_getElem? (i := 1525) (by decide +kernel)⟩
theorem lw_p30 : lw_okq (⟨"SnowKeeps$Trails", "slotTo", "(II)I"⟩, 10) := ⟨⟨by decide +kernel, by decide +kernel⟩, List.mem_of_getElem? (i := 222) (by decide +kernel), List.mem_of_getElem? (i := 1528) (by decide +kernel), List.mem_of_getElem? (i := 1529) (by decide +kernel)⟩
theorem lw_p31 : lw_okq (⟨"SnowKeeps", "isTheOnlyRow", "(I)Z"⟩, 20) := ⟨⟨by decide +kernel, by decide +kernel⟩, List.mem_of_getElem? (i := 35) (by decide +kernel), List.mem_of_getElem? (i := 1565) (by decide +kernel), List.mem_of_getElem? (i := 1566) (by decide +kernel)⟩
def lw_privs_2 : List (MethodName × Nat) := [(⟨"SnowKeeps$Reader", "tellWalker", "(LSnowKeeps$Plain;)Z"⟩, 8), (⟨"SnowKeeps$Reader", "tellBeat", "(LSnowKeeps$Plain;)Z"⟩, 8), (⟨"SnowKeeps$Reader", "tellKeep", "(LSnowKeeps$Plain;)Z"⟩, 8), (⟨"SnowKeeps$Reader", "tellStorm", "(LSnowKeeps$Plain;)Z"⟩, 8), (⟨"SnowKeeps$Reader", "tellWolves", "(LSnowKeeps$Plain;)Z"⟩, 8), (⟨"SnowKeeps", "askPlace", "(I)V"⟩, 20), (⟨"SnowKeeps$Leads", "lead", "(LSnowKeeps$Plain;I)V"⟩, 1), (⟨"SnowKeeps", "askWalker", "(I)V"⟩, 20), (⟨"SnowKeeps", "askTold", "(I)LSnowKeeps$Tray;"⟩, 20), (⟨"SnowKeeps", "askTray", "(I)LSnowKeeps$Tray;"⟩, 20), (⟨"SnowKeeps", "seekBlur", "(II)V"⟩, 20), (⟨"SnowKeeps$Wander", "goOn", "(I)Z"⟩, 5), (⟨"SnowKeeps$Guides", "stepsOut", "(I)I"⟩, 2), (⟨"SnowKeeps$Trails", "goFrom", "(I)J"⟩, 10), (⟨"SnowKeeps$Trails", "slotTo", "(II)I"⟩, 10), (⟨"SnowKeeps", "isTheOnlyRow", "(I)Z"⟩, 20)]
theorem lw_r2 : ∀ q ∈ lw_privs_2, lw_okq q := List.forall_mem_cons.mpr ⟨lw_p16, List.forall_mem_cons.mpr ⟨lw_p17, List.forall_mem_cons.mpr ⟨lw_p18, List.forall_mem_cons.mpr ⟨lw_p19, List.forall_mem_cons.mpr ⟨lw_p20, List.forall_mem_cons.mpr ⟨lw_p21, List.forall_mem_cons.mpr ⟨lw_p22, List.forall_mem_cons.mpr ⟨lw_p23, List.forall_mem_cons.mpr ⟨lw_p24, List.forall_mem_cons.mpr ⟨lw_p25, List.forall_mem_cons.mpr ⟨lw_p26, List.forall_mem_cons.mpr ⟨lw_p27, List.forall_mem_cons.mpr ⟨lw_p28, List.forall_mem_cons.mpr ⟨lw_p29, List.forall_mem_cons.mpr ⟨lw_p30, List.forall_mem_cons.mpr ⟨lw_p31, fun _ h => absurd h List.not_mem_nil⟩⟩⟩⟩⟩⟩⟩⟩⟩⟩⟩⟩⟩⟩⟩⟩
theorem lw_p32 : lw_okq (⟨"SnowKeeps", "takeSign", "(LSnowKeeps$Tray;)V"⟩, 20) := ⟨⟨by decide +kernel, by decide +kernel⟩, List.mem_of_getElem? (i := 35) (by decide +kernel), List.mem_of_getElem? (i := 1602) (by decide +kernel), List.mem_of_getElem? (i := 1603) (by decide +kernel)⟩
theorem lw_p33 : lw_okq (⟨"SnowKeeps", "writtenFrom", "(I)I"⟩, 20) := ⟨⟨by decide +kernel, by decide +kernel⟩, List.mem_of_getElem? (i := 35) (by decide +kernel), List.mem_of_getElem? (i := 1613) (by decide +kernel), List.mem_of_getElem? (i := 1614) (by decide +kernel)⟩
theorem lw_p34 : lw_okq (⟨"SnowKeeps$Sign", "fewest", "(LSnowKeeps$Plain;IZ)I"⟩, 5) := ⟨⟨by decide +kernel, by decide +kernel⟩, List.mem_of_getElem? (i := 291) (by decide +kernel), List.mem_of_getElem? (i := 1621) (by decide +kernel), List.mem_of_getElem? (i := 1622) (by decide +kernel)⟩
theorem lw_p35 : lw_okq (⟨"SnowKeeps$Tray", "cut", "(J)J"⟩, 3) := ⟨⟨by decide +kernel, by decide +kernel⟩, List.mem_of_getElem? (i := 327) (by decide +kernel), List.mem_of_getElem? (i := 1678) (by decide +kernel), List.mem_of_getElem? (i := 1679) (by decide +kernel)⟩
theorem lw_p36 : lw_okq (⟨"SnowKeepsModel", "fails", "(I)I"⟩, 56) := ⟨⟨by decide +kernel, by decide +kernel⟩, List.mem_of_getElem? (i := 1734) (by decide +kernel), List.mem_of_getElem? (i := 1925) (by decide +kernel), List.mem_of_getElem? (i := 1926) (by decide +kernel)⟩
theorem lw_p37 : lw_okq (⟨"SnowKeepsModel", "readsOn", "()V"⟩, 56) := ⟨⟨by decide +kernel, by decide +kernel⟩, List.mem_of_getElem? (i := 1734) (by decide +kernel), List.mem_of_getElem? (i := 1929) (by decide +kernel), List.mem_of_getElem? (i := 1930) (by decide +kernel)⟩
theorem lw_p38 : lw_okq (⟨"SnowKeepsModel", "see", "(I)I"⟩, 56) := ⟨⟨by decide +kernel, by decide +kernel⟩, List.mem_of_getElem? (i := 1734) (by decide +kernel), List.mem_of_getElem? (i := 1936) (by decide +kernel), List.mem_of_getElem? (i := 1937) (by decide +kernel)⟩
theorem lw_p39 : lw_okq (⟨"SnowKeepsModel", "took", "(Ljava/lang/String;)Z"⟩, 56) := ⟨⟨by decide +kernel, by decide +kernel⟩, List.mem_of_getElem? (i := 1734) (by decide +kernel), List.mem_of_getElem? (i := 1944) (by decide +kernel), List.mem_of_getElem? (i := 1945) (by decide +kernel)⟩
theorem lw_p40 : lw_okq (⟨"SnowKeepsModel", "isWord", "(Ljava/lang/String;)Z"⟩, 56) := ⟨⟨by decide +kernel, by decide +kernel⟩, List.mem_of_getElem? (i := 1734) (by decide +kernel), List.mem_of_getElem? (i := 1948) (by decide +kernel), List.mem_of_getElem? (i := 1949) (by decide +kernel)⟩
theorem lw_p41 : lw_okq (⟨"SnowKeepsModel", "blames", "(I)V"⟩, 56) := ⟨⟨by decide +kernel, by decide +kernel⟩, List.mem_of_getElem? (i := 1734) (by decide +kernel), List.mem_of_getElem? (i := 1954) (by decide +kernel), List.mem_of_getElem? (i := 1955) (by decide +kernel)⟩
theorem lw_p42 : lw_okq (⟨"SnowKeepsModel", "number", "(II)I"⟩, 56) := ⟨⟨by decide +kernel, by decide +kernel⟩, List.mem_of_getElem? (i := 1734) (by decide +kernel), List.mem_of_getElem? (i := 1958) (by decide +kernel), List.mem_of_getElem? (i := 1959) (by decide +kernel)⟩
theorem lw_p43 : lw_okq (⟨"SnowKeepsModel", "readStop", "()V"⟩, 56) := ⟨⟨by decide +kernel, by decide +kernel⟩, List.mem_of_getElem? (i := 1734) (by decide +kernel), List.mem_of_getElem? (i := 1962) (by decide +kernel), List.mem_of_getElem? (i := 1963) (by decide +kernel)⟩
theorem lw_p44 : lw_okq (⟨"SnowKeepsModel", "readLine", "()V"⟩, 56) := ⟨⟨by decide +kernel, by decide +kernel⟩, List.mem_of_getElem? (i := 1734) (by decide +kernel), List.mem_of_getElem? (i := 1966) (by decide +kernel), List.mem_of_getElem? (i := 1967) (by decide +kernel)⟩
theorem lw_p45 : lw_okq (⟨"SnowKeepsModel", "readPath", "()V"⟩, 56) := ⟨⟨by decide +kernel, by decide +kernel⟩, List.mem_of_getElem? (i := 1734) (by decide +kernel), List.mem_of_getElem? (i := 1971) (by decide +kernel), List.mem_of_getElem? (i := 1972) (by decide +kernel)⟩
theorem lw_p46 : lw_okq (⟨"SnowKeepsModel", "place", "()I"⟩, 56) := ⟨⟨by decide +kernel, by decide +kernel⟩, List.mem_of_getElem? (i := 1734) (by decide +kernel), List.mem_of_getElem? (i := 1975) (by decide +kernel), List.mem_of_getElem? (i := 1976) (by decide +kernel)⟩
theorem lw_p47 : lw_okq (⟨"SnowKeepsModel", "readWalker", "()V"⟩, 56) := ⟨⟨by decide +kernel, by decide +kernel⟩, List.mem_of_getElem? (i := 1734) (by decide +kernel), List.mem_of_getElem? (i := 1983) (by decide +kernel), List.mem_of_getElem? (i := 1984) (by decide +kernel)⟩
def lw_privs_3 : List (MethodName × Nat) := [(⟨"SnowKeeps", "takeSign", "(LSnowKeeps$Tray;)V"⟩, 20), (⟨"SnowKeeps", "writtenFrom", "(I)I"⟩, 20), (⟨"SnowKeeps$Sign", "fewest", "(LSnowKeeps$Plain;IZ)I"⟩, 5), (⟨"SnowKeeps$Tray", "cut", "(J)J"⟩, 3), (⟨"SnowKeepsModel", "fails", "(I)I"⟩, 56), (⟨"SnowKeepsModel", "readsOn", "()V"⟩, 56), (⟨"SnowKeepsModel", "see", "(I)I"⟩, 56), (⟨"SnowKeepsModel", "took", "(Ljava/lang/String;)Z"⟩, 56), (⟨"SnowKeepsModel", "isWord", "(Ljava/lang/String;)Z"⟩, 56), (⟨"SnowKeepsModel", "blames", "(I)V"⟩, 56), (⟨"SnowKeepsModel", "number", "(II)I"⟩, 56), (⟨"SnowKeepsModel", "readStop", "()V"⟩, 56), (⟨"SnowKeepsModel", "readLine", "()V"⟩, 56), (⟨"SnowKeepsModel", "readPath", "()V"⟩, 56), (⟨"SnowKeepsModel", "place", "()I"⟩, 56), (⟨"SnowKeepsModel", "readWalker", "()V"⟩, 56)]
theorem lw_r3 : ∀ q ∈ lw_privs_3, lw_okq q := List.forall_mem_cons.mpr ⟨lw_p32, List.forall_mem_cons.mpr ⟨lw_p33, List.forall_mem_cons.mpr ⟨lw_p34, List.forall_mem_cons.mpr ⟨lw_p35, List.forall_mem_cons.mpr ⟨lw_p36, List.forall_mem_cons.mpr ⟨lw_p37, List.forall_mem_cons.mpr ⟨lw_p38, List.forall_mem_cons.mpr ⟨lw_p39, List.forall_mem_cons.mpr ⟨lw_p40, List.forall_mem_cons.mpr ⟨lw_p41, List.forall_mem_cons.mpr ⟨lw_p42, List.forall_mem_cons.mpr ⟨lw_p43, List.forall_mem_cons.mpr ⟨lw_p44, List.forall_mem_cons.mpr ⟨lw_p45, List.forall_mem_cons.mpr ⟨lw_p46, List.forall_mem_cons.mpr ⟨lw_p47, fun _ h => absurd h List.not_mem_nil⟩⟩⟩⟩⟩⟩⟩⟩⟩⟩⟩⟩⟩⟩⟩⟩
theorem lw_p48 : lw_okq (⟨"SnowKeepsModel", "readBeat", "(I)V"⟩, 56) := ⟨⟨by decide +kernel, by decide +kernel⟩, List.mem_of_getElem? (i := 1734) (by decide +kernel), List.mem_of_getElem? (i := 1988) (by decide +kernel), List.mem_of_getElem? (i := 1989) (by decide +kernel)⟩
theorem lw_p49 : lw_okq (⟨"SnowKeepsModel", "readStorm", "()V"⟩, 56) := ⟨⟨by decide +kernel, by decide +kernel⟩, List.mem_of_getElem? (i := 1734) (by decide +kernel), List.mem_of_getElem? (i := 1994) (by decide +kernel), List.mem_of_getElem? (i := 1995) (by decide +kernel)⟩
theorem lw_p50 : lw_okq (⟨"SnowKeepsModel", "printsOf", "(I)I"⟩, 56) := ⟨⟨by decide +kernel, by decide +kernel⟩, List.mem_of_getElem? (i := 1734) (by decide +kernel), List.mem_of_getElem? (i := 2011) (by decide +kernel), List.mem_of_getElem? (i := 2012) (by decide +kernel)⟩
theorem lw_p51 : lw_okq (⟨"SnowKeepsModel", "many", "()I"⟩, 56) := ⟨⟨by decide +kernel, by decide +kernel⟩, List.mem_of_getElem? (i := 1734) (by decide +kernel), List.mem_of_getElem? (i := 2015) (by decide +kernel), List.mem_of_getElem? (i := 2016) (by decide +kernel)⟩
theorem lw_p52 : lw_okq (⟨"SnowKeepsModel", "wayOf", "(I)I"⟩, 56) := ⟨⟨by decide +kernel, by decide +kernel⟩, List.mem_of_getElem? (i := 1734) (by decide +kernel), List.mem_of_getElem? (i := 2019) (by decide +kernel), List.mem_of_getElem? (i := 2020) (by decide +kernel)⟩
theorem lw_p53 : lw_okq (⟨"SnowKeepsModel", "isPlace", "(J)Z"⟩, 56) := ⟨⟨by decide +kernel, by decide +kernel⟩, List.mem_of_getElem? (i := 1734) (by decide +kernel), List.mem_of_getElem? (i := 2027) (by decide +kernel), List.mem_of_getElem? (i := 2028) (by decide +kernel)⟩
theorem lw_p54 : lw_okq (⟨"SnowKeepsModel", "places", "()I"⟩, 56) := ⟨⟨by decide +kernel, by decide +kernel⟩, List.mem_of_getElem? (i := 1734) (by decide +kernel), List.mem_of_getElem? (i := 2031) (by decide +kernel), List.mem_of_getElem? (i := 2032) (by decide +kernel)⟩
theorem lw_p55 : lw_okq (⟨"SnowKeepsModel", "laysFar", "(IZ)V"⟩, 56) := ⟨⟨by decide +kernel, by decide +kernel⟩, List.mem_of_getElem? (i := 1734) (by decide +kernel), List.mem_of_getElem? (i := 2035) (by decide +kernel), List.mem_of_getElem? (i := 2036) (by decide +kernel)⟩
theorem lw_p56 : lw_okq (⟨"SnowKeepsModel", "from", "(I)I"⟩, 56) := ⟨⟨by decide +kernel, by decide +kernel⟩, List.mem_of_getElem? (i := 1734) (by decide +kernel), List.mem_of_getElem? (i := 2039) (by decide +kernel), List.mem_of_getElem? (i := 2040) (by decide +kernel)⟩
theorem lw_p57 : lw_okq (⟨"SnowKeepsModel", "to", "(I)I"⟩, 56) := ⟨⟨by decide +kernel, by decide +kernel⟩, List.mem_of_getElem? (i := 1734) (by decide +kernel), List.mem_of_getElem? (i := 2043) (by decide +kernel), List.mem_of_getElem? (i := 2044) (by decide +kernel)⟩
theorem lw_p58 : lw_okq (⟨"SnowKeepsModel", "isWalker", "(J)Z"⟩, 56) := ⟨⟨by decide +kernel, by decide +kernel⟩, List.mem_of_getElem? (i := 1734) (by decide +kernel), List.mem_of_getElem? (i := 2051) (by decide +kernel), List.mem_of_getElem? (i := 2052) (by decide +kernel)⟩
theorem lw_p59 : lw_okq (⟨"SnowKeepsModel", "walkers", "()I"⟩, 56) := ⟨⟨by decide +kernel, by decide +kernel⟩, List.mem_of_getElem? (i := 1734) (by decide +kernel), List.mem_of_getElem? (i := 2055) (by decide +kernel), List.mem_of_getElem? (i := 2056) (by decide +kernel)⟩
theorem lw_p60 : lw_okq (⟨"SnowKeepsModel", "whose", "(I)I"⟩, 56) := ⟨⟨by decide +kernel, by decide +kernel⟩, List.mem_of_getElem? (i := 1734) (by decide +kernel), List.mem_of_getElem? (i := 2059) (by decide +kernel), List.mem_of_getElem? (i := 2060) (by decide +kernel)⟩
theorem lw_p61 : lw_okq (⟨"SnowKeepsModel", "eldestOf", "(I)I"⟩, 56) := ⟨⟨by decide +kernel, by decide +kernel⟩, List.mem_of_getElem? (i := 1734) (by decide +kernel), List.mem_of_getElem? (i := 2063) (by decide +kernel), List.mem_of_getElem? (i := 2064) (by decide +kernel)⟩
theorem lw_p62 : lw_okq (⟨"SnowKeepsModel", "loses", "(I)V"⟩, 56) := ⟨⟨by decide +kernel, by decide +kernel⟩, List.mem_of_getElem? (i := 1734) (by decide +kernel), List.mem_of_getElem? (i := 2078) (by decide +kernel), List.mem_of_getElem? (i := 2079) (by decide +kernel)⟩
theorem lw_p63 : lw_okq (⟨"SnowKeepsModel", "whyNot", "(JJ)I"⟩, 56) := ⟨⟨by decide +kernel, by decide +kernel⟩, List.mem_of_getElem? (i := 1734) (by decide +kernel), List.mem_of_getElem? (i := 2086) (by decide +kernel), List.mem_of_getElem? (i := 2087) (by decide +kernel)⟩
def lw_privs_4 : List (MethodName × Nat) := [(⟨"SnowKeepsModel", "readBeat", "(I)V"⟩, 56), (⟨"SnowKeepsModel", "readStorm", "()V"⟩, 56), (⟨"SnowKeepsModel", "printsOf", "(I)I"⟩, 56), (⟨"SnowKeepsModel", "many", "()I"⟩, 56), (⟨"SnowKeepsModel", "wayOf", "(I)I"⟩, 56), (⟨"SnowKeepsModel", "isPlace", "(J)Z"⟩, 56), (⟨"SnowKeepsModel", "places", "()I"⟩, 56), (⟨"SnowKeepsModel", "laysFar", "(IZ)V"⟩, 56), (⟨"SnowKeepsModel", "from", "(I)I"⟩, 56), (⟨"SnowKeepsModel", "to", "(I)I"⟩, 56), (⟨"SnowKeepsModel", "isWalker", "(J)Z"⟩, 56), (⟨"SnowKeepsModel", "walkers", "()I"⟩, 56), (⟨"SnowKeepsModel", "whose", "(I)I"⟩, 56), (⟨"SnowKeepsModel", "eldestOf", "(I)I"⟩, 56), (⟨"SnowKeepsModel", "loses", "(I)V"⟩, 56), (⟨"SnowKeepsModel", "whyNot", "(JJ)I"⟩, 56)]
theorem lw_r4 : ∀ q ∈ lw_privs_4, lw_okq q := List.forall_mem_cons.mpr ⟨lw_p48, List.forall_mem_cons.mpr ⟨lw_p49, List.forall_mem_cons.mpr ⟨lw_p50, List.forall_mem_cons.mpr ⟨lw_p51, List.forall_mem_cons.mpr ⟨lw_p52, List.forall_mem_cons.mpr ⟨lw_p53, List.forall_mem_cons.mpr ⟨lw_p54, List.forall_mem_cons.mpr ⟨lw_p55, List.forall_mem_cons.mpr ⟨lw_p56, List.forall_mem_cons.mpr ⟨lw_p57, List.forall_mem_cons.mpr ⟨lw_p58, List.forall_mem_cons.mpr ⟨lw_p59, List.forall_mem_cons.mpr ⟨lw_p60, List.forall_mem_cons.mpr ⟨lw_p61, List.forall_mem_cons.mpr ⟨lw_p62, List.forall_mem_cons.mpr ⟨lw_p63, fun _ h => absurd h List.not_mem_nil⟩⟩⟩⟩⟩⟩⟩⟩⟩⟩⟩⟩⟩⟩⟩⟩
theorem lw_p64 : lw_okq (⟨"SnowKeepsModel", "where", "(I)I"⟩, 56) := ⟨⟨by decide +kernel, by decide +kernel⟩, List.mem_of_getElem? (i := 1734) (by decide +kernel), List.mem_of_getElem? (i := 2090) (by decide +kernel), List.mem_of_getElem? (i := 2091) (by decide +kernel)⟩
theorem lw_p65 : lw_okq (⟨"SnowKeepsModel", "way", "(II)I"⟩, 56) := ⟨⟨by decide +kernel, by decide +kernel⟩, List.mem_of_getElem? (i := 1734) (by decide +kernel), List.mem_of_getElem? (i := 2094) (by decide +kernel), List.mem_of_getElem? (i := 2095) (by decide +kernel)⟩
theorem lw_p66 : lw_okq (⟨"SnowKeepsModel", "goes", "(II)V"⟩, 56) := ⟨⟨by decide +kernel, by decide +kernel⟩, List.mem_of_getElem? (i := 1734) (by decide +kernel), List.mem_of_getElem? (i := 2098) (by decide +kernel), List.mem_of_getElem? (i := 2099) (by decide +kernel)⟩
theorem lw_p67 : lw_okq (⟨"SnowKeepsModel", "remembers", "(II)V"⟩, 56) := ⟨⟨by decide +kernel, by decide +kernel⟩, List.mem_of_getElem? (i := 1734) (by decide +kernel), List.mem_of_getElem? (i := 2102) (by decide +kernel), List.mem_of_getElem? (i := 2103) (by decide +kernel)⟩
theorem lw_p68 : lw_okq (⟨"SnowKeepsModel", "allSteps", "()I"⟩, 56) := ⟨⟨by decide +kernel, by decide +kernel⟩, List.mem_of_getElem? (i := 1734) (by decide +kernel), List.mem_of_getElem? (i := 2106) (by decide +kernel), List.mem_of_getElem? (i := 2107) (by decide +kernel)⟩
theorem lw_p69 : lw_okq (⟨"SnowKeepsModel", "trayFault", "(I)I"⟩, 56) := ⟨⟨by decide +kernel, by decide +kernel⟩, List.mem_of_getElem? (i := 1734) (by decide +kernel), List.mem_of_getElem? (i := 2119) (by decide +kernel), List.mem_of_getElem? (i := 2120) (by decide +kernel)⟩
theorem lw_p70 : lw_okq (⟨"SnowKeepsModel", "goesBy", "(I)I"⟩, 56) := ⟨⟨by decide +kernel, by decide +kernel⟩, List.mem_of_getElem? (i := 1734) (by decide +kernel), List.mem_of_getElem? (i := 2126) (by decide +kernel), List.mem_of_getElem? (i := 2127) (by decide +kernel)⟩
theorem lw_p71 : lw_okq (⟨"SnowKeepsModel", "whyTold", "(J)I"⟩, 56) := ⟨⟨by decide +kernel, by decide +kernel⟩, List.mem_of_getElem? (i := 1734) (by decide +kernel), List.mem_of_getElem? (i := 2130) (by decide +kernel), List.mem_of_getElem? (i := 2131) (by decide +kernel)⟩
theorem lw_p72 : lw_okq (⟨"SnowKeepsModel", "printed", "()I"⟩, 56) := ⟨⟨by decide +kernel, by decide +kernel⟩, List.mem_of_getElem? (i := 1734) (by decide +kernel), List.mem_of_getElem? (i := 2135) (by decide +kernel), List.mem_of_getElem? (i := 2136) (by decide +kernel)⟩
theorem lw_p73 : lw_okq (⟨"SnowKeepsModel", "draw", "(I)I"⟩, 56) := ⟨⟨by decide +kernel, by decide +kernel⟩, List.mem_of_getElem? (i := 1734) (by decide +kernel), List.mem_of_getElem? (i := 2150) (by decide +kernel), List.mem_of_getElem? (i := 2151) (by decide +kernel)⟩
theorem lw_p74 : lw_okq (⟨"SnowKeepsModel", "besides", "(I)I"⟩, 56) := ⟨⟨by decide +kernel, by decide +kernel⟩, List.mem_of_getElem? (i := 1734) (by decide +kernel), List.mem_of_getElem? (i := 2155) (by decide +kernel), List.mem_of_getElem? (i := 2156) (by decide +kernel)⟩
theorem lw_p75 : lw_okq (⟨"SnowKeepsModel", "between", "(II)I"⟩, 56) := ⟨⟨by decide +kernel, by decide +kernel⟩, List.mem_of_getElem? (i := 1734) (by decide +kernel), List.mem_of_getElem? (i := 2163) (by decide +kernel), List.mem_of_getElem? (i := 2164) (by decide +kernel)⟩
theorem lw_p76 : lw_okq (⟨"SnowKeepsModel", "latestAlong", "(I)I"⟩, 56) := ⟨⟨by decide +kernel, by decide +kernel⟩, List.mem_of_getElem? (i := 1734) (by decide +kernel), List.mem_of_getElem? (i := 2175) (by decide +kernel), List.mem_of_getElem? (i := 2176) (by decide +kernel)⟩
theorem lw_p77 : lw_okq (⟨"SnowKeepsModel", "touched", "(I)I"⟩, 56) := ⟨⟨by decide +kernel, by decide +kernel⟩, List.mem_of_getElem? (i := 1734) (by decide +kernel), List.mem_of_getElem? (i := 2191) (by decide +kernel), List.mem_of_getElem? (i := 2192) (by decide +kernel)⟩
theorem lw_p78 : lw_okq (⟨"SnowKeepsModel", "till", "(I)I"⟩, 56) := ⟨⟨by decide +kernel, by decide +kernel⟩, List.mem_of_getElem? (i := 1734) (by decide +kernel), List.mem_of_getElem? (i := 2199) (by decide +kernel), List.mem_of_getElem? (i := 2200) (by decide +kernel)⟩
theorem lw_p79 : lw_okq (⟨"SnowKeepsModel", "latestOf", "(I)I"⟩, 56) := ⟨⟨by decide +kernel, by decide +kernel⟩, List.mem_of_getElem? (i := 1734) (by decide +kernel), List.mem_of_getElem? (i := 2207) (by decide +kernel), List.mem_of_getElem? (i := 2208) (by decide +kernel)⟩
def lw_privs_5 : List (MethodName × Nat) := [(⟨"SnowKeepsModel", "where", "(I)I"⟩, 56), (⟨"SnowKeepsModel", "way", "(II)I"⟩, 56), (⟨"SnowKeepsModel", "goes", "(II)V"⟩, 56), (⟨"SnowKeepsModel", "remembers", "(II)V"⟩, 56), (⟨"SnowKeepsModel", "allSteps", "()I"⟩, 56), (⟨"SnowKeepsModel", "trayFault", "(I)I"⟩, 56), (⟨"SnowKeepsModel", "goesBy", "(I)I"⟩, 56), (⟨"SnowKeepsModel", "whyTold", "(J)I"⟩, 56), (⟨"SnowKeepsModel", "printed", "()I"⟩, 56), (⟨"SnowKeepsModel", "draw", "(I)I"⟩, 56), (⟨"SnowKeepsModel", "besides", "(I)I"⟩, 56), (⟨"SnowKeepsModel", "between", "(II)I"⟩, 56), (⟨"SnowKeepsModel", "latestAlong", "(I)I"⟩, 56), (⟨"SnowKeepsModel", "touched", "(I)I"⟩, 56), (⟨"SnowKeepsModel", "till", "(I)I"⟩, 56), (⟨"SnowKeepsModel", "latestOf", "(I)I"⟩, 56)]
theorem lw_r5 : ∀ q ∈ lw_privs_5, lw_okq q := List.forall_mem_cons.mpr ⟨lw_p64, List.forall_mem_cons.mpr ⟨lw_p65, List.forall_mem_cons.mpr ⟨lw_p66, List.forall_mem_cons.mpr ⟨lw_p67, List.forall_mem_cons.mpr ⟨lw_p68, List.forall_mem_cons.mpr ⟨lw_p69, List.forall_mem_cons.mpr ⟨lw_p70, List.forall_mem_cons.mpr ⟨lw_p71, List.forall_mem_cons.mpr ⟨lw_p72, List.forall_mem_cons.mpr ⟨lw_p73, List.forall_mem_cons.mpr ⟨lw_p74, List.forall_mem_cons.mpr ⟨lw_p75, List.forall_mem_cons.mpr ⟨lw_p76, List.forall_mem_cons.mpr ⟨lw_p77, List.forall_mem_cons.mpr ⟨lw_p78, List.forall_mem_cons.mpr ⟨lw_p79, fun _ h => absurd h List.not_mem_nil⟩⟩⟩⟩⟩⟩⟩⟩⟩⟩⟩⟩⟩⟩⟩⟩
theorem lw_p80 : lw_okq (⟨"SnowKeepsModel", "backs", "(I)I"⟩, 56) := ⟨⟨by decide +kernel, by decide +kernel⟩, List.mem_of_getElem? (i := 1734) (by decide +kernel), List.mem_of_getElem? (i := 2231) (by decide +kernel), List.mem_of_getElem? (i := 2232) (by decide +kernel)⟩
theorem lw_p81 : lw_okq (⟨"SnowKeepsModel", "turn", "()I"⟩, 56) := ⟨⟨by decide +kernel, by decide +kernel⟩, List.mem_of_getElem? (i := 1734) (by decide +kernel), List.mem_of_getElem? (i := 2247) (by decide +kernel), List.mem_of_getElem? (i := 2248) (by decide +kernel)⟩
theorem lw_p82 : lw_okq (⟨"SnowKeepsModel", "beats", "(I)I"⟩, 56) := ⟨⟨by decide +kernel, by decide +kernel⟩, List.mem_of_getElem? (i := 1734) (by decide +kernel), List.mem_of_getElem? (i := 2251) (by decide +kernel), List.mem_of_getElem? (i := 2252) (by decide +kernel)⟩
theorem lw_p83 : lw_okq (⟨"SnowKeepsModel", "laysState", "(I)V"⟩, 56) := ⟨⟨by decide +kernel, by decide +kernel⟩, List.mem_of_getElem? (i := 1734) (by decide +kernel), List.mem_of_getElem? (i := 2264) (by decide +kernel), List.mem_of_getElem? (i := 2265) (by decide +kernel)⟩
theorem lw_p84 : lw_okq (⟨"SnowKeepsModel", "areAlike", "(II)Z"⟩, 56) := ⟨⟨by decide +kernel, by decide +kernel⟩, List.mem_of_getElem? (i := 1734) (by decide +kernel), List.mem_of_getElem? (i := 2268) (by decide +kernel), List.mem_of_getElem? (i := 2269) (by decide +kernel)⟩
theorem lw_p85 : lw_okq (⟨"SnowKeepsModel", "wolfWay", "(I)I"⟩, 56) := ⟨⟨by decide +kernel, by decide +kernel⟩, List.mem_of_getElem? (i := 1734) (by decide +kernel), List.mem_of_getElem? (i := 2285) (by decide +kernel), List.mem_of_getElem? (i := 2286) (by decide +kernel)⟩
theorem lw_p86 : lw_okq (⟨"SnowKeepsModel", "huntedOn", "(I)I"⟩, 56) := ⟨⟨by decide +kernel, by decide +kernel⟩, List.mem_of_getElem? (i := 1734) (by decide +kernel), List.mem_of_getElem? (i := 2293) (by decide +kernel), List.mem_of_getElem? (i := 2294) (by decide +kernel)⟩
theorem lw_p87 : lw_okq (⟨"SnowKeepsModel", "blursOn", "(III)V"⟩, 56) := ⟨⟨by decide +kernel, by decide +kernel⟩, List.mem_of_getElem? (i := 1734) (by decide +kernel), List.mem_of_getElem? (i := 2303) (by decide +kernel), List.mem_of_getElem? (i := 2304) (by decide +kernel)⟩
theorem lw_p88 : lw_okq (⟨"SnowKeepsModel", "comeHome", "(I)Z"⟩, 56) := ⟨⟨by decide +kernel, by decide +kernel⟩, List.mem_of_getElem? (i := 1734) (by decide +kernel), List.mem_of_getElem? (i := 2317) (by decide +kernel), List.mem_of_getElem? (i := 2318) (by decide +kernel)⟩
theorem lw_p89 : lw_okq (⟨"SnowKeepsModel", "isSpent", "()Z"⟩, 56) := ⟨⟨by decide +kernel, by decide +kernel⟩, List.mem_of_getElem? (i := 1734) (by decide +kernel), List.mem_of_getElem? (i := 2325) (by decide +kernel), List.mem_of_getElem? (i := 2326) (by decide +kernel)⟩
theorem lw_p90 : lw_okq (⟨"SnowKeepsModel", "laysLeft", "()V"⟩, 56) := ⟨⟨by decide +kernel, by decide +kernel⟩, List.mem_of_getElem? (i := 1734) (by decide +kernel), List.mem_of_getElem? (i := 2330) (by decide +kernel), List.mem_of_getElem? (i := 2331) (by decide +kernel)⟩
theorem lw_p91 : lw_okq (⟨"SnowKeepsModel", "rowsFrom", "(IJ)J"⟩, 56) := ⟨⟨by decide +kernel, by decide +kernel⟩, List.mem_of_getElem? (i := 1734) (by decide +kernel), List.mem_of_getElem? (i := 2334) (by decide +kernel), List.mem_of_getElem? (i := 2335) (by decide +kernel)⟩
theorem lw_p92 : lw_okq (⟨"SnowKeepsModel", "goesRows", "(II)V"⟩, 56) := ⟨⟨by decide +kernel, by decide +kernel⟩, List.mem_of_getElem? (i := 1734) (by decide +kernel), List.mem_of_getElem? (i := 2338) (by decide +kernel), List.mem_of_getElem? (i := 2339) (by decide +kernel)⟩
theorem lw_p93 : lw_okq (⟨"SnowKeepsModel", "parts", "(III)J"⟩, 56) := ⟨⟨by decide +kernel, by decide +kernel⟩, List.mem_of_getElem? (i := 1734) (by decide +kernel), List.mem_of_getElem? (i := 2358) (by decide +kernel), List.mem_of_getElem? (i := 2359) (by decide +kernel)⟩
theorem lw_p94 : lw_okq (⟨"SnowKeepsModel", "exchanges", "()V"⟩, 56) := ⟨⟨by decide +kernel, by decide +kernel⟩, List.mem_of_getElem? (i := 1734) (by decide +kernel), List.mem_of_getElem? (i := 2362) (by decide +kernel), List.mem_of_getElem? (i := 2363) (by decide +kernel)⟩
theorem lw_p95 : lw_okq (⟨"SnowKeepsModel", "walks", "(III)V"⟩, 56) := ⟨⟨by decide +kernel, by decide +kernel⟩, List.mem_of_getElem? (i := 1734) (by decide +kernel), List.mem_of_getElem? (i := 2371) (by decide +kernel), List.mem_of_getElem? (i := 2372) (by decide +kernel)⟩
def lw_privs_6 : List (MethodName × Nat) := [(⟨"SnowKeepsModel", "backs", "(I)I"⟩, 56), (⟨"SnowKeepsModel", "turn", "()I"⟩, 56), (⟨"SnowKeepsModel", "beats", "(I)I"⟩, 56), (⟨"SnowKeepsModel", "laysState", "(I)V"⟩, 56), (⟨"SnowKeepsModel", "areAlike", "(II)Z"⟩, 56), (⟨"SnowKeepsModel", "wolfWay", "(I)I"⟩, 56), (⟨"SnowKeepsModel", "huntedOn", "(I)I"⟩, 56), (⟨"SnowKeepsModel", "blursOn", "(III)V"⟩, 56), (⟨"SnowKeepsModel", "comeHome", "(I)Z"⟩, 56), (⟨"SnowKeepsModel", "isSpent", "()Z"⟩, 56), (⟨"SnowKeepsModel", "laysLeft", "()V"⟩, 56), (⟨"SnowKeepsModel", "rowsFrom", "(IJ)J"⟩, 56), (⟨"SnowKeepsModel", "goesRows", "(II)V"⟩, 56), (⟨"SnowKeepsModel", "parts", "(III)J"⟩, 56), (⟨"SnowKeepsModel", "exchanges", "()V"⟩, 56), (⟨"SnowKeepsModel", "walks", "(III)V"⟩, 56)]
theorem lw_r6 : ∀ q ∈ lw_privs_6, lw_okq q := List.forall_mem_cons.mpr ⟨lw_p80, List.forall_mem_cons.mpr ⟨lw_p81, List.forall_mem_cons.mpr ⟨lw_p82, List.forall_mem_cons.mpr ⟨lw_p83, List.forall_mem_cons.mpr ⟨lw_p84, List.forall_mem_cons.mpr ⟨lw_p85, List.forall_mem_cons.mpr ⟨lw_p86, List.forall_mem_cons.mpr ⟨lw_p87, List.forall_mem_cons.mpr ⟨lw_p88, List.forall_mem_cons.mpr ⟨lw_p89, List.forall_mem_cons.mpr ⟨lw_p90, List.forall_mem_cons.mpr ⟨lw_p91, List.forall_mem_cons.mpr ⟨lw_p92, List.forall_mem_cons.mpr ⟨lw_p93, List.forall_mem_cons.mpr ⟨lw_p94, List.forall_mem_cons.mpr ⟨lw_p95, fun _ h => absurd h List.not_mem_nil⟩⟩⟩⟩⟩⟩⟩⟩⟩⟩⟩⟩⟩⟩⟩⟩
theorem lw_p96 : lw_okq (⟨"SnowKeepsModel", "meetsSign", "(I)V"⟩, 56) := ⟨⟨by decide +kernel, by decide +kernel⟩, List.mem_of_getElem? (i := 1734) (by decide +kernel), List.mem_of_getElem? (i := 2375) (by decide +kernel), List.mem_of_getElem? (i := 2376) (by decide +kernel)⟩
theorem lw_p97 : lw_okq (⟨"SnowKeepsModel", "signFault", "(I)I"⟩, 56) := ⟨⟨by decide +kernel, by decide +kernel⟩, List.mem_of_getElem? (i := 1734) (by decide +kernel), List.mem_of_getElem? (i := 2384) (by decide +kernel), List.mem_of_getElem? (i := 2385) (by decide +kernel)⟩
theorem lw_p98 : lw_okq (⟨"SnowKeepsModel", "placeIn", "(I)I"⟩, 56) := ⟨⟨by decide +kernel, by decide +kernel⟩, List.mem_of_getElem? (i := 1734) (by decide +kernel), List.mem_of_getElem? (i := 2388) (by decide +kernel), List.mem_of_getElem? (i := 2389) (by decide +kernel)⟩
theorem lw_p99 : lw_okq (⟨"SnowKeepsModel", "written", "(I)I"⟩, 56) := ⟨⟨by decide +kernel, by decide +kernel⟩, List.mem_of_getElem? (i := 1734) (by decide +kernel), List.mem_of_getElem? (i := 2392) (by decide +kernel), List.mem_of_getElem? (i := 2393) (by decide +kernel)⟩
theorem lw_p100 : lw_okq (⟨"SnowKeepsModel", "laysFarther", "(IZ)V"⟩, 56) := ⟨⟨by decide +kernel, by decide +kernel⟩, List.mem_of_getElem? (i := 1734) (by decide +kernel), List.mem_of_getElem? (i := 2396) (by decide +kernel), List.mem_of_getElem? (i := 2397) (by decide +kernel)⟩
theorem lw_p101 : lw_okq (⟨"SnowKeepsModel", "patrolled", "()I"⟩, 56) := ⟨⟨by decide +kernel, by decide +kernel⟩, List.mem_of_getElem? (i := 1734) (by decide +kernel), List.mem_of_getElem? (i := 2408) (by decide +kernel), List.mem_of_getElem? (i := 2409) (by decide +kernel)⟩
theorem lw_p102 : lw_okq (⟨"SnowKeepsModel", "clears", "(IIIZ)V"⟩, 56) := ⟨⟨by decide +kernel, by decide +kernel⟩, List.mem_of_getElem? (i := 1734) (by decide +kernel), List.mem_of_getElem? (i := 2429) (by decide +kernel), List.mem_of_getElem? (i := 2430) (by decide +kernel)⟩
theorem lw_p103 : lw_okq (⟨"SnowKeepsModel", "isOnly", "(I)Z"⟩, 56) := ⟨⟨by decide +kernel, by decide +kernel⟩, List.mem_of_getElem? (i := 1734) (by decide +kernel), List.mem_of_getElem? (i := 2433) (by decide +kernel), List.mem_of_getElem? (i := 2434) (by decide +kernel)⟩
theorem lw_p104 : lw_okq (⟨"SnowKeepsModel", "cut", "(IIJ)J"⟩, 56) := ⟨⟨by decide +kernel, by decide +kernel⟩, List.mem_of_getElem? (i := 1734) (by decide +kernel), List.mem_of_getElem? (i := 2441) (by decide +kernel), List.mem_of_getElem? (i := 2442) (by decide +kernel)⟩
def lw_privs_7 : List (MethodName × Nat) := [(⟨"SnowKeepsModel", "meetsSign", "(I)V"⟩, 56), (⟨"SnowKeepsModel", "signFault", "(I)I"⟩, 56), (⟨"SnowKeepsModel", "placeIn", "(I)I"⟩, 56), (⟨"SnowKeepsModel", "written", "(I)I"⟩, 56), (⟨"SnowKeepsModel", "laysFarther", "(IZ)V"⟩, 56), (⟨"SnowKeepsModel", "patrolled", "()I"⟩, 56), (⟨"SnowKeepsModel", "clears", "(IIIZ)V"⟩, 56), (⟨"SnowKeepsModel", "isOnly", "(I)Z"⟩, 56), (⟨"SnowKeepsModel", "cut", "(IIJ)J"⟩, 56)]
theorem lw_r7 : ∀ q ∈ lw_privs_7, lw_okq q := List.forall_mem_cons.mpr ⟨lw_p96, List.forall_mem_cons.mpr ⟨lw_p97, List.forall_mem_cons.mpr ⟨lw_p98, List.forall_mem_cons.mpr ⟨lw_p99, List.forall_mem_cons.mpr ⟨lw_p100, List.forall_mem_cons.mpr ⟨lw_p101, List.forall_mem_cons.mpr ⟨lw_p102, List.forall_mem_cons.mpr ⟨lw_p103, List.forall_mem_cons.mpr ⟨lw_p104, fun _ h => absurd h List.not_mem_nil⟩⟩⟩⟩⟩⟩⟩⟩⟩
def lw_privs : List (MethodName × Nat) := lw_privs_1 ++ (lw_privs_2 ++ (lw_privs_3 ++ (lw_privs_4 ++ (lw_privs_5 ++ (lw_privs_6 ++ (lw_privs_7))))))
def lw_tbl : List Cond := k2_sels lw_privs ++ tables_1
theorem lw_privs_ok : ∀ q ∈ lw_privs, lw_okq q := by
  show ∀ q ∈ lw_privs_1 ++ (lw_privs_2 ++ (lw_privs_3 ++ (lw_privs_4 ++ (lw_privs_5 ++ (lw_privs_6 ++ (lw_privs_7)))))), lw_okq q
  exact List.forall_mem_append.mpr ⟨lw_r1, List.forall_mem_append.mpr ⟨lw_r2, List.forall_mem_append.mpr ⟨lw_r3, List.forall_mem_append.mpr ⟨lw_r4, List.forall_mem_append.mpr ⟨lw_r5, List.forall_mem_append.mpr ⟨lw_r6, lw_r7⟩⟩⟩⟩⟩⟩
def RX0 : String := "SnowKeeps$Guides"
def TX0 : u_T := fun k => match k with
  | 0 => ("SnowKeeps$Guides", "far", "[I", true)
  | _ => ("SnowKeeps$Guides", "left", "[[I", true)
def tyX0 : Nat → FieldType := fun k => match k with
  | 0 => .array .int
  | _ => .array (.array .int)
abbrev wsX00 : List Cond := u_ws RX0 TX0 2
theorem nmX0 : ∀ a, a < 2 → ∀ b, b < 2 → a ≠ b → (TX0 a).2.1 ≠ (TX0 b).2.1 := by decide +kernel
theorem tyX0_ok : ∀ k, k < 2 → parseFieldDescriptor (TX0 k).2.2.1 = some (tyX0 k) := by decide +kernel
def RX1 : String := "SnowKeeps$Leads"
def TX1 : u_T := fun k => match k with
  | _ => ("SnowKeeps$Leads", "onwardFrom", "[I", true)
def tyX1 : Nat → FieldType := fun k => match k with
  | _ => .array .int
abbrev wsX10 : List Cond := u_ws RX1 TX1 1
theorem nmX1 : ∀ a, a < 1 → ∀ b, b < 1 → a ≠ b → (TX1 a).2.1 ≠ (TX1 b).2.1 := by decide +kernel
theorem tyX1_ok : ∀ k, k < 1 → parseFieldDescriptor (TX1 k).2.2.1 = some (tyX1 k) := by decide +kernel
def RX2 : String := "SnowKeeps$Plain"
def TX2 : u_T := fun k => match k with
  | 0 => ("SnowKeeps$Plain", "lines", "I", false)
  | 1 => ("SnowKeeps$Plain", "places", "I", false)
  | 2 => ("SnowKeeps$Plain", "paths", "I", false)
  | 3 => ("SnowKeeps$Plain", "walkers", "I", false)
  | 4 => ("SnowKeeps$Plain", "keepTold", "I", false)
  | 5 => ("SnowKeeps$Plain", "mostRemembered", "I", false)
  | 6 => ("SnowKeeps$Plain", "stormEvery", "I", false)
  | 7 => ("SnowKeeps$Plain", "stormTakes", "I", false)
  | 8 => ("SnowKeeps$Plain", "begins", "[I", true)
  | 9 => ("SnowKeeps$Plain", "wayOf", "[I", true)
  | 10 => ("SnowKeeps$Plain", "home", "[I", true)
  | 11 => ("SnowKeeps$Plain", "beatLength", "[I", true)
  | _ => ("SnowKeeps$Plain", "beats", "[I", true)
def tyX2 : Nat → FieldType := fun k => match k with
  | 0 => .int
  | 1 => .int
  | 2 => .int
  | 3 => .int
  | 4 => .int
  | 5 => .int
  | 6 => .int
  | 7 => .int
  | 8 => .array .int
  | 9 => .array .int
  | 10 => .array .int
  | 11 => .array .int
  | _ => .array .int
abbrev wsX20 : List Cond := u_ws RX2 TX2 13
theorem nmX2 : ∀ a, a < 13 → ∀ b, b < 13 → a ≠ b → (TX2 a).2.1 ≠ (TX2 b).2.1 := by decide +kernel
theorem tyX2_ok : ∀ k, k < 13 → parseFieldDescriptor (TX2 k).2.2.1 = some (tyX2 k) := by decide +kernel
def RX3 : String := "SnowKeeps$Reader"
def TX3 : u_T := fun k => match k with
  | 0 => ("SnowKeeps$Reader", "text", "[B", true)
  | 1 => ("SnowKeeps$Reader", "length", "I", true)
  | 2 => ("SnowKeeps$Reader", "kind", "I", false)
  | 3 => ("SnowKeeps$Reader", "begin", "I", false)
  | 4 => ("SnowKeeps$Reader", "end", "I", false)
  | 5 => ("SnowKeeps$Reader", "number", "I", false)
  | 6 => ("SnowKeeps$Reader", "fault", "I", false)
  | _ => ("SnowKeeps$Reader", "faultPlace", "I", false)
def tyX3 : Nat → FieldType := fun k => match k with
  | 0 => .array .byte
  | 1 => .int
  | 2 => .int
  | 3 => .int
  | 4 => .int
  | 5 => .int
  | 6 => .int
  | _ => .int
abbrev wsX30 : List Cond := u_ws RX3 TX3 8
theorem nmX3 : ∀ a, a < 8 → ∀ b, b < 8 → a ≠ b → (TX3 a).2.1 ≠ (TX3 b).2.1 := by decide +kernel
theorem tyX3_ok : ∀ k, k < 8 → parseFieldDescriptor (TX3 k).2.2.1 = some (tyX3 k) := by decide +kernel
def RX4 : String := "SnowKeeps$Sign"
def TX4 : u_T := fun k => match k with
  | 0 => ("SnowKeeps$Sign", "bitOf", "[I", true)
  | 1 => ("SnowKeeps$Sign", "size", "I", false)
  | 2 => ("SnowKeeps$Sign", "firstTold", "I", false)
  | 3 => ("SnowKeeps$Sign", "far", "[I", true)
  | _ => ("SnowKeeps$Sign", "queue", "[I", true)
def tyX4 : Nat → FieldType := fun k => match k with
  | 0 => .array .int
  | 1 => .int
  | 2 => .int
  | 3 => .array .int
  | _ => .array .int
abbrev wsX40 : List Cond := u_ws RX4 TX4 5
theorem nmX4 : ∀ a, a < 5 → ∀ b, b < 5 → a ≠ b → (TX4 a).2.1 ≠ (TX4 b).2.1 := by decide +kernel
theorem tyX4_ok : ∀ k, k < 5 → parseFieldDescriptor (TX4 k).2.2.1 = some (tyX4 k) := by decide +kernel
def RX5 : String := "SnowKeeps$Snow"
def TX5 : u_T := fun k => match k with
  | 0 => ("SnowKeeps$Snow", "plain", "LSnowKeeps$Plain;", false)
  | 1 => ("SnowKeeps$Snow", "mostKept", "I", false)
  | 2 => ("SnowKeeps$Snow", "kept", "I", false)
  | 3 => ("SnowKeeps$Snow", "steps", "I", false)
  | 4 => ("SnowKeeps$Snow", "logged", "I", false)
  | 5 => ("SnowKeeps$Snow", "wayLog", "[I", true)
  | 6 => ("SnowKeeps$Snow", "whoseLog", "[I", true)
  | 7 => ("SnowKeeps$Snow", "stands", "[I", true)
  | 8 => ("SnowKeeps$Snow", "made", "[I", true)
  | _ => ("SnowKeeps$Snow", "next", "[I", true)
def tyX5 : Nat → FieldType := fun k => match k with
  | 0 => .object "SnowKeeps$Plain"
  | 1 => .int
  | 2 => .int
  | 3 => .int
  | 4 => .int
  | 5 => .array .int
  | 6 => .array .int
  | 7 => .array .int
  | 8 => .array .int
  | _ => .array .int
abbrev wsX50 : List Cond := u_ws RX5 TX5 10
theorem nmX5 : ∀ a, a < 10 → ∀ b, b < 10 → a ≠ b → (TX5 a).2.1 ≠ (TX5 b).2.1 := by decide +kernel
theorem tyX5_ok : ∀ k, k < 10 → parseFieldDescriptor (TX5 k).2.2.1 = some (tyX5 k) := by decide +kernel
def RX6 : String := "SnowKeeps$Trails"
def TX6 : u_T := fun k => match k with
  | 0 => ("SnowKeeps$Trails", "plain", "LSnowKeeps$Plain;", false)
  | 1 => ("SnowKeeps$Trails", "slots", "I", false)
  | 2 => ("SnowKeeps$Trails", "full", "I", false)
  | 3 => ("SnowKeeps$Trails", "slotWay", "[I", true)
  | 4 => ("SnowKeeps$Trails", "slotTimes", "[I", true)
  | 5 => ("SnowKeeps$Trails", "shift", "[I", true)
  | 6 => ("SnowKeeps$Trails", "mask", "[I", true)
  | 7 => ("SnowKeeps$Trails", "coming", "[J", true)
  | 8 => ("SnowKeeps$Trails", "going", "[J", true)
  | _ => ("SnowKeeps$Trails", "where", "[I", true)
def tyX6 : Nat → FieldType := fun k => match k with
  | 0 => .object "SnowKeeps$Plain"
  | 1 => .int
  | 2 => .int
  | 3 => .array .int
  | 4 => .array .int
  | 5 => .array .int
  | 6 => .array .int
  | 7 => .array .long
  | 8 => .array .long
  | _ => .array .int
abbrev wsX60 : List Cond := u_ws RX6 TX6 10
theorem nmX6 : ∀ a, a < 10 → ∀ b, b < 10 → a ≠ b → (TX6 a).2.1 ≠ (TX6 b).2.1 := by decide +kernel
theorem tyX6_ok : ∀ k, k < 10 → parseFieldDescriptor (TX6 k).2.2.1 = some (tyX6 k) := by decide +kernel
def RX7 : String := "SnowKeeps$Tray"
def TX7 : u_T := fun k => match k with
  | 0 => ("SnowKeeps$Tray", "sort", "I", false)
  | 1 => ("SnowKeeps$Tray", "many", "I", false)
  | _ => ("SnowKeeps$Tray", "numbers", "[J", true)
def tyX7 : Nat → FieldType := fun k => match k with
  | 0 => .int
  | 1 => .int
  | _ => .array .long
abbrev wsX70 : List Cond := u_ws RX7 TX7 3
theorem nmX7 : ∀ a, a < 3 → ∀ b, b < 3 → a ≠ b → (TX7 a).2.1 ≠ (TX7 b).2.1 := by decide +kernel
theorem tyX7_ok : ∀ k, k < 3 → parseFieldDescriptor (TX7 k).2.2.1 = some (tyX7 k) := by decide +kernel
def RX8 : String := "SnowKeeps$Turns"
def TX8 : u_T := fun k => match k with
  | 0 => ("SnowKeeps$Turns", "states", "[[I", true)
  | 1 => ("SnowKeeps$Turns", "first", "I", false)
  | _ => ("SnowKeeps$Turns", "length", "I", false)
def tyX8 : Nat → FieldType := fun k => match k with
  | 0 => .array (.array .int)
  | 1 => .int
  | _ => .int
abbrev wsX80 : List Cond := u_ws RX8 TX8 3
theorem nmX8 : ∀ a, a < 3 → ∀ b, b < 3 → a ≠ b → (TX8 a).2.1 ≠ (TX8 b).2.1 := by decide +kernel
theorem tyX8_ok : ∀ k, k < 3 → parseFieldDescriptor (TX8 k).2.2.1 = some (tyX8 k) := by decide +kernel
def RX9 : String := "SnowKeeps$Unlike"
def TX9 : u_T := fun k => match k with
  | 0 => ("SnowKeeps$Unlike", "size", "I", false)
  | _ => ("SnowKeeps$Unlike", "sets", "[J", true)
def tyX9 : Nat → FieldType := fun k => match k with
  | 0 => .int
  | _ => .array .long
abbrev wsX90 : List Cond := u_ws RX9 TX9 2
theorem nmX9 : ∀ a, a < 2 → ∀ b, b < 2 → a ≠ b → (TX9 a).2.1 ≠ (TX9 b).2.1 := by decide +kernel
theorem tyX9_ok : ∀ k, k < 2 → parseFieldDescriptor (TX9 k).2.2.1 = some (tyX9 k) := by decide +kernel
def RX10 : String := "SnowKeeps$Wander"
def TX10 : u_T := fun k => match k with
  | 0 => ("SnowKeeps$Wander", "plain", "LSnowKeeps$Plain;", false)
  | 1 => ("SnowKeeps$Wander", "most", "I", false)
  | 2 => ("SnowKeeps$Wander", "depth", "I", false)
  | 3 => ("SnowKeeps$Wander", "places", "[I", true)
  | _ => ("SnowKeeps$Wander", "ways", "[I", true)
def tyX10 : Nat → FieldType := fun k => match k with
  | 0 => .object "SnowKeeps$Plain"
  | 1 => .int
  | 2 => .int
  | 3 => .array .int
  | _ => .array .int
abbrev wsX100 : List Cond := u_ws RX10 TX10 5
theorem nmX10 : ∀ a, a < 5 → ∀ b, b < 5 → a ≠ b → (TX10 a).2.1 ≠ (TX10 b).2.1 := by decide +kernel
theorem tyX10_ok : ∀ k, k < 5 → parseFieldDescriptor (TX10 k).2.2.1 = some (tyX10 k) := by decide +kernel
def RX11 : String := "SnowKeeps"
def TX11 : u_T := fun k => match k with
  | 0 => ("SnowKeeps", "tape", "[B", true)
  | 1 => ("SnowKeeps", "taped", "I", false)
  | 2 => ("SnowKeeps", "fault", "I", false)
  | 3 => ("SnowKeeps", "faultPlace", "I", false)
  | 4 => ("SnowKeeps", "now", "LSnowKeeps$Snow;", true)
  | 5 => ("SnowKeeps", "trial", "LSnowKeeps$Snow;", true)
  | 6 => ("SnowKeeps", "images", "[LSnowKeeps$Snow;", true)
  | 7 => ("SnowKeeps", "trays", "[LSnowKeeps$Tray;", true)
  | 8 => ("SnowKeeps", "leads", "LSnowKeeps$Leads;", true)
  | 9 => ("SnowKeeps", "wolfLeads", "LSnowKeeps$Leads;", true)
  | 10 => ("SnowKeeps", "turns", "LSnowKeeps$Turns;", true)
  | 11 => ("SnowKeeps", "guidesOut", "LSnowKeeps$Guides;", true)
  | 12 => ("SnowKeeps", "trails", "LSnowKeeps$Trails;", true)
  | 13 => ("SnowKeeps", "wander", "LSnowKeeps$Wander;", true)
  | 14 => ("SnowKeeps", "sign", "LSnowKeeps$Sign;", true)
  | 15 => ("SnowKeeps", "unlike", "LSnowKeeps$Unlike;", true)
  | 16 => ("SnowKeeps", "bag", "[I", true)
  | 17 => ("SnowKeeps", "blurRow", "[I", true)
  | 18 => ("SnowKeeps", "blurSteps", "I", false)
  | _ => ("SnowKeeps", "blurPlaces", "I", false)
def tyX11 : Nat → FieldType := fun k => match k with
  | 0 => .array .byte
  | 1 => .int
  | 2 => .int
  | 3 => .int
  | 4 => .object "SnowKeeps$Snow"
  | 5 => .object "SnowKeeps$Snow"
  | 6 => .array (.object "SnowKeeps$Snow")
  | 7 => .array (.object "SnowKeeps$Tray")
  | 8 => .object "SnowKeeps$Leads"
  | 9 => .object "SnowKeeps$Leads"
  | 10 => .object "SnowKeeps$Turns"
  | 11 => .object "SnowKeeps$Guides"
  | 12 => .object "SnowKeeps$Trails"
  | 13 => .object "SnowKeeps$Wander"
  | 14 => .object "SnowKeeps$Sign"
  | 15 => .object "SnowKeeps$Unlike"
  | 16 => .array .int
  | 17 => .array .int
  | 18 => .int
  | _ => .int
abbrev wsX110 : List Cond := u_ws RX11 TX11 20
theorem nmX11 : ∀ a, a < 20 → ∀ b, b < 20 → a ≠ b → (TX11 a).2.1 ≠ (TX11 b).2.1 := by decide +kernel
theorem tyX11_ok : ∀ k, k < 20 → parseFieldDescriptor (TX11 k).2.2.1 = some (tyX11 k) := by decide +kernel
def RX12 : String := "SnowKeepsModel"
def TX12 : u_T := fun k => match k with
  | 0 => ("SnowKeepsModel", "known", "[I", true)
  | 1 => ("SnowKeepsModel", "fresh", "[I", true)
  | 2 => ("SnowKeepsModel", "kept", "[I", true)
  | 3 => ("SnowKeepsModel", "images", "[I", true)
  | 4 => ("SnowKeepsModel", "isImage", "[Z", true)
  | 5 => ("SnowKeepsModel", "thrown", "I", false)
  | 6 => ("SnowKeepsModel", "tape", "[I", true)
  | 7 => ("SnowKeepsModel", "taped", "I", false)
  | 8 => ("SnowKeepsModel", "length", "I", false)
  | 9 => ("SnowKeepsModel", "at", "I", false)
  | 10 => ("SnowKeepsModel", "begin", "I", false)
  | 11 => ("SnowKeepsModel", "token", "I", false)
  | 12 => ("SnowKeepsModel", "value", "I", false)
  | 13 => ("SnowKeepsModel", "bad", "I", false)
  | 14 => ("SnowKeepsModel", "badPlace", "I", false)
  | 15 => ("SnowKeepsModel", "faultKind", "I", false)
  | 16 => ("SnowKeepsModel", "faultPlace", "I", false)
  | 17 => ("SnowKeepsModel", "far", "[I", true)
  | 18 => ("SnowKeepsModel", "isCalm", "Z", false)
  | 19 => ("SnowKeepsModel", "state", "I", false)
  | 20 => ("SnowKeepsModel", "back", "[I", true)
  | 21 => ("SnowKeepsModel", "ownPrint", "[I", true)
  | 22 => ("SnowKeepsModel", "backWhere", "I", false)
  | 23 => ("SnowKeepsModel", "states", "[I", true)
  | 24 => ("SnowKeepsModel", "blurs", "[I", true)
  | 25 => ("SnowKeepsModel", "bestBlurs", "[I", true)
  | 26 => ("SnowKeepsModel", "levels", "[I", true)
  | 27 => ("SnowKeepsModel", "blurFrom", "I", false)
  | 28 => ("SnowKeepsModel", "blurMost", "I", false)
  | 29 => ("SnowKeepsModel", "blurSteps", "I", false)
  | 30 => ("SnowKeepsModel", "outs", "[I", true)
  | 31 => ("SnowKeepsModel", "guidePrint", "[I", true)
  | 32 => ("SnowKeepsModel", "left", "[I", true)
  | 33 => ("SnowKeepsModel", "taken", "[I", true)
  | 34 => ("SnowKeepsModel", "rowPlaces", "[I", true)
  | 35 => ("SnowKeepsModel", "leftMany", "I", false)
  | 36 => ("SnowKeepsModel", "rowDeep", "I", false)
  | 37 => ("SnowKeepsModel", "sureFirst", "I", false)
  | 38 => ("SnowKeepsModel", "sureLast", "I", false)
  | 39 => ("SnowKeepsModel", "rowsFound", "J", false)
  | 40 => ("SnowKeepsModel", "rowWanted", "J", false)
  | 41 => ("SnowKeepsModel", "isStopped", "Z", false)
  | 42 => ("SnowKeepsModel", "signs", "[I", true)
  | 43 => ("SnowKeepsModel", "steps", "[I", true)
  | 44 => ("SnowKeepsModel", "isSign", "[Z", true)
  | 45 => ("SnowKeepsModel", "signMany", "I", false)
  | 46 => ("SnowKeepsModel", "sign", "[I", true)
  | 47 => ("SnowKeepsModel", "queue", "[I", true)
  | 48 => ("SnowKeepsModel", "farther", "[I", true)
  | 49 => ("SnowKeepsModel", "signWays", "I", false)
  | 50 => ("SnowKeepsModel", "clearMany", "J", false)
  | 51 => ("SnowKeepsModel", "gone", "[I", true)
  | 52 => ("SnowKeepsModel", "goneMany", "I", false)
  | 53 => ("SnowKeepsModel", "tSort", "[I", true)
  | 54 => ("SnowKeepsModel", "tMany", "[I", true)
  | _ => ("SnowKeepsModel", "numbers", "[J", true)
def tyX12 : Nat → FieldType := fun k => match k with
  | 0 => .array .int
  | 1 => .array .int
  | 2 => .array .int
  | 3 => .array .int
  | 4 => .array .boolean
  | 5 => .int
  | 6 => .array .int
  | 7 => .int
  | 8 => .int
  | 9 => .int
  | 10 => .int
  | 11 => .int
  | 12 => .int
  | 13 => .int
  | 14 => .int
  | 15 => .int
  | 16 => .int
  | 17 => .array .int
  | 18 => .boolean
  | 19 => .int
  | 20 => .array .int
  | 21 => .array .int
  | 22 => .int
  | 23 => .array .int
  | 24 => .array .int
  | 25 => .array .int
  | 26 => .array .int
  | 27 => .int
  | 28 => .int
  | 29 => .int
  | 30 => .array .int
  | 31 => .array .int
  | 32 => .array .int
  | 33 => .array .int
  | 34 => .array .int
  | 35 => .int
  | 36 => .int
  | 37 => .int
  | 38 => .int
  | 39 => .long
  | 40 => .long
  | 41 => .boolean
  | 42 => .array .int
  | 43 => .array .int
  | 44 => .array .boolean
  | 45 => .int
  | 46 => .array .int
  | 47 => .array .int
  | 48 => .array .int
  | 49 => .int
  | 50 => .long
  | 51 => .array .int
  | 52 => .int
  | 53 => .array .int
  | 54 => .array .int
  | _ => .array .long
abbrev wsX120 : List Cond := u_ws RX12 TX12 56
theorem nmX12 : ∀ a, a < 56 → ∀ b, b < 56 → a ≠ b → (TX12 a).2.1 ≠ (TX12 b).2.1 := by decide +kernel
theorem tyX12_ok : ∀ k, k < 56 → parseFieldDescriptor (TX12 k).2.2.1 = some (tyX12 k) := by decide +kernel
def clsP : List vw_C := [(RX0, TX0, 2), (RX1, TX1, 1), (RX2, TX2, 13), (RX3, TX3, 8), (RX4, TX4, 5), (RX5, TX5, 10), (RX6, TX6, 10), (RX7, TX7, 3), (RX8, TX8, 3), (RX9, TX9, 2), (RX10, TX10, 5), (RX11, TX11, 20), (RX12, TX12, 56)]
set_option maxRecDepth 100000 in
theorem inX0 : ∀ w ∈ wsX00, w ∈ lw_tbl := by decide +kernel
set_option maxRecDepth 100000 in
theorem inX1 : ∀ w ∈ wsX10, w ∈ lw_tbl := by decide +kernel
set_option maxRecDepth 100000 in
theorem inX2 : ∀ w ∈ wsX20, w ∈ lw_tbl := by decide +kernel
set_option maxRecDepth 100000 in
theorem inX3 : ∀ w ∈ wsX30, w ∈ lw_tbl := by decide +kernel
set_option maxRecDepth 100000 in
theorem inX4 : ∀ w ∈ wsX40, w ∈ lw_tbl := by decide +kernel
set_option maxRecDepth 100000 in
theorem inX5 : ∀ w ∈ wsX50, w ∈ lw_tbl := by decide +kernel
set_option maxRecDepth 100000 in
theorem inX6 : ∀ w ∈ wsX60, w ∈ lw_tbl := by decide +kernel
set_option maxRecDepth 100000 in
theorem inX7 : ∀ w ∈ wsX70, w ∈ lw_tbl := by decide +kernel
set_option maxRecDepth 100000 in
theorem inX8 : ∀ w ∈ wsX80, w ∈ lw_tbl := by decide +kernel
set_option maxRecDepth 100000 in
theorem inX9 : ∀ w ∈ wsX90, w ∈ lw_tbl := by decide +kernel
set_option maxRecDepth 100000 in
theorem inX10 : ∀ w ∈ wsX100, w ∈ lw_tbl := by decide +kernel
set_option maxRecDepth 100000 in
theorem inX11 : ∀ w ∈ wsX110, w ∈ lw_tbl := by decide +kernel
set_option maxRecDepth 100000 in
theorem inX12 : ∀ w ∈ wsX120, w ∈ lw_tbl := by decide +kernel
