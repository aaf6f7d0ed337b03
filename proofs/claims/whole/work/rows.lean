section
-- ===== PART A: goes FIRST, ahead of the names: the tables' words, and 'selects' of the private methods out of them =====
/-- a private method of a class that the tables say can be made, by its rows of tables_1 -/
def lw_okq (q : MethodName × Nat) : Prop := (q.1.cls ≠ "java/lang/invoke/MethodHandle" ∧ q.1.cls ≠ "java/lang/invoke/VarHandle") ∧ Cond.instantiable q.1.cls q.2 ∈ tables_1 ∧ Cond.privateMethod q.1 ∈ tables_1 ∧ Cond.instanceMethod q.1 ∈ tables_1
theorem lw_p0 : lw_okq (⟨"HexBroadsides$History", "dropOldest", "()V"⟩, 2) := ⟨⟨by decide +kernel, by decide +kernel⟩, List.mem_of_getElem? (i := 171) (by decide +kernel), List.mem_of_getElem? (i := 287) (by decide +kernel), List.mem_of_getElem? (i := 288) (by decide +kernel)⟩
theorem lw_p1 : lw_okq (⟨"HexBroadsides$Helm", "drift", "(LHexBroadsides$Ship;)Z"⟩, 1) := ⟨⟨by decide +kernel, by decide +kernel⟩, List.mem_of_getElem? (i := 188) (by decide +kernel), List.mem_of_getElem? (i := 306) (by decide +kernel), List.mem_of_getElem? (i := 307) (by decide +kernel)⟩
theorem lw_p2 : lw_okq (⟨"HexBroadsides$Helm", "obeyAhead", "(LHexBroadsides$Ship;)Z"⟩, 1) := ⟨⟨by decide +kernel, by decide +kernel⟩, List.mem_of_getElem? (i := 188) (by decide +kernel), List.mem_of_getElem? (i := 407) (by decide +kernel), List.mem_of_getElem? (i := 408) (by decide +kernel)⟩
theorem lw_p3 : lw_okq (⟨"HexBroadsides$Helm", "obeyTurn", "(LHexBroadsides$Ship;Z)Z"⟩, 1) := ⟨⟨by decide +kernel, by decide +kernel⟩, List.mem_of_getElem? (i := 188) (by decide +kernel), List.mem_of_getElem? (i := 429) (by decide +kernel), List.mem_of_getElem? (i := 430) (by decide +kernel)⟩
theorem lw_p4 : lw_okq (⟨"HexBroadsides$Sea", "shipsAfloat", "(I)I"⟩, 8) := ⟨⟨by decide +kernel, by decide +kernel⟩, List.mem_of_getElem? (i := 29) (by decide +kernel), List.mem_of_getElem? (i := 457) (by decide +kernel), List.mem_of_getElem? (i := 458) (by decide +kernel)⟩
theorem lw_p5 : lw_okq (⟨"HexBroadsides$Sea", "rockCount", "()I"⟩, 8) := ⟨⟨by decide +kernel, by decide +kernel⟩, List.mem_of_getElem? (i := 29) (by decide +kernel), List.mem_of_getElem? (i := 461) (by decide +kernel), List.mem_of_getElem? (i := 462) (by decide +kernel)⟩
theorem lw_p6 : lw_okq (⟨"HexBroadsides$Sea", "lastRock", "()I"⟩, 8) := ⟨⟨by decide +kernel, by decide +kernel⟩, List.mem_of_getElem? (i := 29) (by decide +kernel), List.mem_of_getElem? (i := 469) (by decide +kernel), List.mem_of_getElem? (i := 470) (by decide +kernel)⟩
theorem lw_p7 : lw_okq (⟨"HexBroadsides$Chart", "explore", "(LHexBroadsides$Ship;)V"⟩, 6) := ⟨⟨by decide +kernel, by decide +kernel⟩, List.mem_of_getElem? (i := 218) (by decide +kernel), List.mem_of_getElem? (i := 483) (by decide +kernel), List.mem_of_getElem? (i := 484) (by decide +kernel)⟩
theorem lw_p8 : lw_okq (⟨"HexBroadsides$Chart", "note", "(IIZI)V"⟩, 6) := ⟨⟨by decide +kernel, by decide +kernel⟩, List.mem_of_getElem? (i := 218) (by decide +kernel), List.mem_of_getElem? (i := 489) (by decide +kernel), List.mem_of_getElem? (i := 490) (by decide +kernel)⟩
theorem lw_p9 : lw_okq (⟨"HexBroadsides$Chart", "spread", "(LHexBroadsides$Ship;II)V"⟩, 6) := ⟨⟨by decide +kernel, by decide +kernel⟩, List.mem_of_getElem? (i := 218) (by decide +kernel), List.mem_of_getElem? (i := 495) (by decide +kernel), List.mem_of_getElem? (i := 496) (by decide +kernel)⟩
theorem lw_p10 : lw_okq (⟨"java/lang/Throwable", "fillInStackTrace", "(I)Ljava/lang/Throwable;"⟩, 6) := ⟨⟨by decide +kernel, by decide +kernel⟩, List.mem_of_getElem? (i := 556) (by decide +kernel), List.mem_of_getElem? (i := 554) (by decide +kernel), List.mem_of_getElem? (i := 555) (by decide +kernel)⟩
theorem lw_p11 : lw_okq (⟨"HexBroadsides", "needCell", "(I)V"⟩, 7) := ⟨⟨by decide +kernel, by decide +kernel⟩, List.mem_of_getElem? (i := 21) (by decide +kernel), List.mem_of_getElem? (i := 596) (by decide +kernel), List.mem_of_getElem? (i := 597) (by decide +kernel)⟩
theorem lw_p12 : lw_okq (⟨"HexBroadsides", "needShip", "(I)V"⟩, 7) := ⟨⟨by decide +kernel, by decide +kernel⟩, List.mem_of_getElem? (i := 21) (by decide +kernel), List.mem_of_getElem? (i := 684) (by decide +kernel), List.mem_of_getElem? (i := 685) (by decide +kernel)⟩
theorem lw_p13 : lw_okq (⟨"HexBroadsides", "needTwoShips", "(II)V"⟩, 7) := ⟨⟨by decide +kernel, by decide +kernel⟩, List.mem_of_getElem? (i := 21) (by decide +kernel), List.mem_of_getElem? (i := 754) (by decide +kernel), List.mem_of_getElem? (i := 755) (by decide +kernel)⟩
theorem lw_p14 : lw_okq (⟨"HexBroadsides$Gunnery", "isHidden", "(II)Z"⟩, 1) := ⟨⟨by decide +kernel, by decide +kernel⟩, List.mem_of_getElem? (i := 198) (by decide +kernel), List.mem_of_getElem? (i := 770) (by decide +kernel), List.mem_of_getElem? (i := 771) (by decide +kernel)⟩
theorem lw_p15 : lw_okq (⟨"HexBroadsides$Gunnery", "rakes", "(LHexBroadsides$Ship;LHexBroadsides$Ship;)Z"⟩, 1) := ⟨⟨by decide +kernel, by decide +kernel⟩, List.mem_of_getElem? (i := 198) (by decide +kernel), List.mem_of_getElem? (i := 780) (by decide +kernel), List.mem_of_getElem? (i := 781) (by decide +kernel)⟩
def lw_privs_1 : List (MethodName × Nat) := [(⟨"HexBroadsides$History", "dropOldest", "()V"⟩, 2), (⟨"HexBroadsides$Helm", "drift", "(LHexBroadsides$Ship;)Z"⟩, 1), (⟨"HexBroadsides$Helm", "obeyAhead", "(LHexBroadsides$Ship;)Z"⟩, 1), (⟨"HexBroadsides$Helm", "obeyTurn", "(LHexBroadsides$Ship;Z)Z"⟩, 1), (⟨"HexBroadsides$Sea", "shipsAfloat", "(I)I"⟩, 8), (⟨"HexBroadsides$Sea", "rockCount", "()I"⟩, 8), (⟨"HexBroadsides$Sea", "lastRock", "()I"⟩, 8), (⟨"HexBroadsides$Chart", "explore", "(LHexBroadsides$Ship;)V"⟩, 6), (⟨"HexBroadsides$Chart", "note", "(IIZI)V"⟩, 6), (⟨"HexBroadsides$Chart", "spread", "(LHexBroadsides$Ship;II)V"⟩, 6), (⟨"java/lang/Throwable", "fillInStackTrace", "(I)Ljava/lang/Throwable;"⟩, 6), (⟨"HexBroadsides", "needCell", "(I)V"⟩, 7), (⟨"HexBroadsides", "needShip", "(I)V"⟩, 7), (⟨"HexBroadsides", "needTwoShips", "(II)V"⟩, 7), (⟨"HexBroadsides$Gunnery", "isHidden", "(II)Z"⟩, 1), (⟨"HexBroadsides$Gunnery", "rakes", "(LHexBroadsides$Ship;LHexBroadsides$Ship;)Z"⟩, 1)]
theorem lw_r1 : ∀ q ∈ lw_privs_1, lw_okq q := List.forall_mem_cons.mpr ⟨lw_p0, List.forall_mem_cons.mpr ⟨lw_p1, List.forall_mem_cons.mpr ⟨lw_p2, List.forall_mem_cons.mpr ⟨lw_p3, List.forall_mem_cons.mpr ⟨lw_p4, List.forall_mem_cons.mpr ⟨lw_p5, List.forall_mem_cons.mpr ⟨lw_p6, List.forall_mem_cons.mpr ⟨lw_p7, List.forall_mem_cons.mpr ⟨lw_p8, List.forall_mem_cons.mpr ⟨lw_p9, List.forall_mem_cons.mpr ⟨lw_p10, List.forall_mem_cons.mpr ⟨lw_p11, List.forall_mem_cons.mpr ⟨lw_p12, List.forall_mem_cons.mpr ⟨lw_p13, List.forall_mem_cons.mpr ⟨lw_p14, List.forall_mem_cons.mpr ⟨lw_p15, fun _ h => absurd h List.not_mem_nil⟩⟩⟩⟩⟩⟩⟩⟩⟩⟩⟩⟩⟩⟩⟩⟩
theorem lw_p16 : lw_okq (⟨"HexBroadsides$Gunnery", "hitHull", "(LHexBroadsides$Ship;LHexBroadsides$Ship;I)I"⟩, 1) := ⟨⟨by decide +kernel, by decide +kernel⟩, List.mem_of_getElem? (i := 198) (by decide +kernel), List.mem_of_getElem? (i := 810) (by decide +kernel), List.mem_of_getElem? (i := 811) (by decide +kernel)⟩
theorem lw_p17 : lw_okq (⟨"HexBroadsides$Crews", "seize", "(LHexBroadsides$Ship;LHexBroadsides$Ship;)V"⟩, 1) := ⟨⟨by decide +kernel, by decide +kernel⟩, List.mem_of_getElem? (i := 208) (by decide +kernel), List.mem_of_getElem? (i := 863) (by decide +kernel), List.mem_of_getElem? (i := 864) (by decide +kernel)⟩
theorem lw_p18 : lw_okq (⟨"HexBroadsidesModel", "anew", "(II)V"⟩, 11) := ⟨⟨by decide +kernel, by decide +kernel⟩, List.mem_of_getElem? (i := 951) (by decide +kernel), List.mem_of_getElem? (i := 957) (by decide +kernel), List.mem_of_getElem? (i := 958) (by decide +kernel)⟩
theorem lw_p19 : lw_okq (⟨"HexBroadsidesModel", "keep", "()V"⟩, 11) := ⟨⟨by decide +kernel, by decide +kernel⟩, List.mem_of_getElem? (i := 951) (by decide +kernel), List.mem_of_getElem? (i := 1006) (by decide +kernel), List.mem_of_getElem? (i := 1007) (by decide +kernel)⟩
theorem lw_p20 : lw_okq (⟨"HexBroadsidesModel", "isCell", "(I)Z"⟩, 11) := ⟨⟨by decide +kernel, by decide +kernel⟩, List.mem_of_getElem? (i := 951) (by decide +kernel), List.mem_of_getElem? (i := 1014) (by decide +kernel), List.mem_of_getElem? (i := 1015) (by decide +kernel)⟩
theorem lw_p21 : lw_okq (⟨"HexBroadsidesModel", "cells", "()I"⟩, 11) := ⟨⟨by decide +kernel, by decide +kernel⟩, List.mem_of_getElem? (i := 951) (by decide +kernel), List.mem_of_getElem? (i := 1018) (by decide +kernel), List.mem_of_getElem? (i := 1019) (by decide +kernel)⟩
theorem lw_p22 : lw_okq (⟨"HexBroadsidesModel", "shipOn", "(I)I"⟩, 11) := ⟨⟨by decide +kernel, by decide +kernel⟩, List.mem_of_getElem? (i := 951) (by decide +kernel), List.mem_of_getElem? (i := 1022) (by decide +kernel), List.mem_of_getElem? (i := 1023) (by decide +kernel)⟩
theorem lw_p23 : lw_okq (⟨"HexBroadsidesModel", "isAfloat", "(I)Z"⟩, 11) := ⟨⟨by decide +kernel, by decide +kernel⟩, List.mem_of_getElem? (i := 951) (by decide +kernel), List.mem_of_getElem? (i := 1026) (by decide +kernel), List.mem_of_getElem? (i := 1027) (by decide +kernel)⟩
theorem lw_p24 : lw_okq (⟨"HexBroadsidesModel", "of", "(II)I"⟩, 11) := ⟨⟨by decide +kernel, by decide +kernel⟩, List.mem_of_getElem? (i := 951) (by decide +kernel), List.mem_of_getElem? (i := 1030) (by decide +kernel), List.mem_of_getElem? (i := 1031) (by decide +kernel)⟩
theorem lw_p25 : lw_okq (⟨"HexBroadsidesModel", "isGiven", "(IIIII)Z"⟩, 11) := ⟨⟨by decide +kernel, by decide +kernel⟩, List.mem_of_getElem? (i := 951) (by decide +kernel), List.mem_of_getElem? (i := 1042) (by decide +kernel), List.mem_of_getElem? (i := 1043) (by decide +kernel)⟩
theorem lw_p26 : lw_okq (⟨"HexBroadsidesModel", "isFree", "(I)Z"⟩, 11) := ⟨⟨by decide +kernel, by decide +kernel⟩, List.mem_of_getElem? (i := 951) (by decide +kernel), List.mem_of_getElem? (i := 1046) (by decide +kernel), List.mem_of_getElem? (i := 1047) (by decide +kernel)⟩
theorem lw_p27 : lw_okq (⟨"HexBroadsidesModel", "thing", "(I)I"⟩, 11) := ⟨⟨by decide +kernel, by decide +kernel⟩, List.mem_of_getElem? (i := 951) (by decide +kernel), List.mem_of_getElem? (i := 1050) (by decide +kernel), List.mem_of_getElem? (i := 1051) (by decide +kernel)⟩
theorem lw_p28 : lw_okq (⟨"HexBroadsidesModel", "put", "(III)V"⟩, 11) := ⟨⟨by decide +kernel, by decide +kernel⟩, List.mem_of_getElem? (i := 951) (by decide +kernel), List.mem_of_getElem? (i := 1054) (by decide +kernel), List.mem_of_getElem? (i := 1055) (by decide +kernel)⟩
theorem lw_p29 : lw_okq (⟨"HexBroadsidesModel", "begins", "(I)V"⟩, 11) := ⟨⟨by decide +kernel, by decide +kernel⟩, List.mem_of_getElem? (i := 951) (by decide +kernel), List.mem_of_getElem? (i := 1058) (by decide +kernel), List.mem_of_getElem? (i := 1059) (by decide +kernel)⟩
theorem lw_p30 : lw_okq (⟨"HexBroadsidesModel", "speed", "(I)I"⟩, 11) := ⟨⟨by decide +kernel, by decide +kernel⟩, List.mem_of_getElem? (i := 951) (by decide +kernel), List.mem_of_getElem? (i := 1062) (by decide +kernel), List.mem_of_getElem? (i := 1063) (by decide +kernel)⟩
theorem lw_p31 : lw_okq (⟨"HexBroadsidesModel", "speedIn", "(II)I"⟩, 11) := ⟨⟨by decide +kernel, by decide +kernel⟩, List.mem_of_getElem? (i := 951) (by decide +kernel), List.mem_of_getElem? (i := 1066) (by decide +kernel), List.mem_of_getElem? (i := 1067) (by decide +kernel)⟩
def lw_privs_2 : List (MethodName × Nat) := [(⟨"HexBroadsides$Gunnery", "hitHull", "(LHexBroadsides$Ship;LHexBroadsides$Ship;I)I"⟩, 1), (⟨"HexBroadsides$Crews", "seize", "(LHexBroadsides$Ship;LHexBroadsides$Ship;)V"⟩, 1), (⟨"HexBroadsidesModel", "anew", "(II)V"⟩, 11), (⟨"HexBroadsidesModel", "keep", "()V"⟩, 11), (⟨"HexBroadsidesModel", "isCell", "(I)Z"⟩, 11), (⟨"HexBroadsidesModel", "cells", "()I"⟩, 11), (⟨"HexBroadsidesModel", "shipOn", "(I)I"⟩, 11), (⟨"HexBroadsidesModel", "isAfloat", "(I)Z"⟩, 11), (⟨"HexBroadsidesModel", "of", "(II)I"⟩, 11), (⟨"HexBroadsidesModel", "isGiven", "(IIIII)Z"⟩, 11), (⟨"HexBroadsidesModel", "isFree", "(I)Z"⟩, 11), (⟨"HexBroadsidesModel", "thing", "(I)I"⟩, 11), (⟨"HexBroadsidesModel", "put", "(III)V"⟩, 11), (⟨"HexBroadsidesModel", "begins", "(I)V"⟩, 11), (⟨"HexBroadsidesModel", "speed", "(I)I"⟩, 11), (⟨"HexBroadsidesModel", "speedIn", "(II)I"⟩, 11)]
theorem lw_r2 : ∀ q ∈ lw_privs_2, lw_okq q := List.forall_mem_cons.mpr ⟨lw_p16, List.forall_mem_cons.mpr ⟨lw_p17, List.forall_mem_cons.mpr ⟨lw_p18, List.forall_mem_cons.mpr ⟨lw_p19, List.forall_mem_cons.mpr ⟨lw_p20, List.forall_mem_cons.mpr ⟨lw_p21, List.forall_mem_cons.mpr ⟨lw_p22, List.forall_mem_cons.mpr ⟨lw_p23, List.forall_mem_cons.mpr ⟨lw_p24, List.forall_mem_cons.mpr ⟨lw_p25, List.forall_mem_cons.mpr ⟨lw_p26, List.forall_mem_cons.mpr ⟨lw_p27, List.forall_mem_cons.mpr ⟨lw_p28, List.forall_mem_cons.mpr ⟨lw_p29, List.forall_mem_cons.mpr ⟨lw_p30, List.forall_mem_cons.mpr ⟨lw_p31, fun _ h => absurd h List.not_mem_nil⟩⟩⟩⟩⟩⟩⟩⟩⟩⟩⟩⟩⟩⟩⟩⟩
theorem lw_p32 : lw_okq (⟨"HexBroadsidesModel", "valueOf", "(I)I"⟩, 11) := ⟨⟨by decide +kernel, by decide +kernel⟩, List.mem_of_getElem? (i := 951) (by decide +kernel), List.mem_of_getElem? (i := 1077) (by decide +kernel), List.mem_of_getElem? (i := 1078) (by decide +kernel)⟩
theorem lw_p33 : lw_okq (⟨"HexBroadsidesModel", "afloat", "(I)I"⟩, 11) := ⟨⟨by decide +kernel, by decide +kernel⟩, List.mem_of_getElem? (i := 951) (by decide +kernel), List.mem_of_getElem? (i := 1081) (by decide +kernel), List.mem_of_getElem? (i := 1082) (by decide +kernel)⟩
theorem lw_p34 : lw_okq (⟨"HexBroadsidesModel", "rocks", "(Z)I"⟩, 11) := ⟨⟨by decide +kernel, by decide +kernel⟩, List.mem_of_getElem? (i := 951) (by decide +kernel), List.mem_of_getElem? (i := 1085) (by decide +kernel), List.mem_of_getElem? (i := 1086) (by decide +kernel)⟩
theorem lw_p35 : lw_okq (⟨"HexBroadsidesModel", "isShip", "(I)Z"⟩, 11) := ⟨⟨by decide +kernel, by decide +kernel⟩, List.mem_of_getElem? (i := 951) (by decide +kernel), List.mem_of_getElem? (i := 1093) (by decide +kernel), List.mem_of_getElem? (i := 1094) (by decide +kernel)⟩
theorem lw_p36 : lw_okq (⟨"HexBroadsidesModel", "shipOf", "(II)I"⟩, 11) := ⟨⟨by decide +kernel, by decide +kernel⟩, List.mem_of_getElem? (i := 951) (by decide +kernel), List.mem_of_getElem? (i := 1097) (by decide +kernel), List.mem_of_getElem? (i := 1098) (by decide +kernel)⟩
theorem lw_p37 : lw_okq (⟨"HexBroadsidesModel", "far", "(II)I"⟩, 11) := ⟨⟨by decide +kernel, by decide +kernel⟩, List.mem_of_getElem? (i := 951) (by decide +kernel), List.mem_of_getElem? (i := 1109) (by decide +kernel), List.mem_of_getElem? (i := 1110) (by decide +kernel)⟩
theorem lw_p38 : lw_okq (⟨"HexBroadsidesModel", "down", "(II)I"⟩, 11) := ⟨⟨by decide +kernel, by decide +kernel⟩, List.mem_of_getElem? (i := 951) (by decide +kernel), List.mem_of_getElem? (i := 1113) (by decide +kernel), List.mem_of_getElem? (i := 1114) (by decide +kernel)⟩
theorem lw_p39 : lw_okq (⟨"HexBroadsidesModel", "right", "(II)I"⟩, 11) := ⟨⟨by decide +kernel, by decide +kernel⟩, List.mem_of_getElem? (i := 951) (by decide +kernel), List.mem_of_getElem? (i := 1120) (by decide +kernel), List.mem_of_getElem? (i := 1121) (by decide +kernel)⟩
theorem lw_p40 : lw_okq (⟨"HexBroadsidesModel", "bears", "(II)I"⟩, 11) := ⟨⟨by decide +kernel, by decide +kernel⟩, List.mem_of_getElem? (i := 951) (by decide +kernel), List.mem_of_getElem? (i := 1128) (by decide +kernel), List.mem_of_getElem? (i := 1129) (by decide +kernel)⟩
theorem lw_p41 : lw_okq (⟨"HexBroadsidesModel", "notAhead", "(I)I"⟩, 11) := ⟨⟨by decide +kernel, by decide +kernel⟩, List.mem_of_getElem? (i := 951) (by decide +kernel), List.mem_of_getElem? (i := 1142) (by decide +kernel), List.mem_of_getElem? (i := 1143) (by decide +kernel)⟩
theorem lw_p42 : lw_okq (⟨"HexBroadsidesModel", "canSail", "(I)Z"⟩, 11) := ⟨⟨by decide +kernel, by decide +kernel⟩, List.mem_of_getElem? (i := 951) (by decide +kernel), List.mem_of_getElem? (i := 1146) (by decide +kernel), List.mem_of_getElem? (i := 1147) (by decide +kernel)⟩
theorem lw_p43 : lw_okq (⟨"HexBroadsidesModel", "next", "(II)I"⟩, 11) := ⟨⟨by decide +kernel, by decide +kernel⟩, List.mem_of_getElem? (i := 951) (by decide +kernel), List.mem_of_getElem? (i := 1150) (by decide +kernel), List.mem_of_getElem? (i := 1151) (by decide +kernel)⟩
theorem lw_p44 : lw_okq (⟨"HexBroadsidesModel", "goes", "(I)I"⟩, 11) := ⟨⟨by decide +kernel, by decide +kernel⟩, List.mem_of_getElem? (i := 951) (by decide +kernel), List.mem_of_getElem? (i := 1154) (by decide +kernel), List.mem_of_getElem? (i := 1155) (by decide +kernel)⟩
theorem lw_p45 : lw_okq (⟨"HexBroadsidesModel", "notTurn", "(IZ)I"⟩, 11) := ⟨⟨by decide +kernel, by decide +kernel⟩, List.mem_of_getElem? (i := 951) (by decide +kernel), List.mem_of_getElem? (i := 1162) (by decide +kernel), List.mem_of_getElem? (i := 1163) (by decide +kernel)⟩
theorem lw_p46 : lw_okq (⟨"HexBroadsidesModel", "turns", "(IZ)I"⟩, 11) := ⟨⟨by decide +kernel, by decide +kernel⟩, List.mem_of_getElem? (i := 951) (by decide +kernel), List.mem_of_getElem? (i := 1169) (by decide +kernel), List.mem_of_getElem? (i := 1170) (by decide +kernel)⟩
theorem lw_p47 : lw_okq (⟨"HexBroadsidesModel", "ends", "()I"⟩, 11) := ⟨⟨by decide +kernel, by decide +kernel⟩, List.mem_of_getElem? (i := 951) (by decide +kernel), List.mem_of_getElem? (i := 1177) (by decide +kernel), List.mem_of_getElem? (i := 1178) (by decide +kernel)⟩
def lw_privs_3 : List (MethodName × Nat) := [(⟨"HexBroadsidesModel", "valueOf", "(I)I"⟩, 11), (⟨"HexBroadsidesModel", "afloat", "(I)I"⟩, 11), (⟨"HexBroadsidesModel", "rocks", "(Z)I"⟩, 11), (⟨"HexBroadsidesModel", "isShip", "(I)Z"⟩, 11), (⟨"HexBroadsidesModel", "shipOf", "(II)I"⟩, 11), (⟨"HexBroadsidesModel", "far", "(II)I"⟩, 11), (⟨"HexBroadsidesModel", "down", "(II)I"⟩, 11), (⟨"HexBroadsidesModel", "right", "(II)I"⟩, 11), (⟨"HexBroadsidesModel", "bears", "(II)I"⟩, 11), (⟨"HexBroadsidesModel", "notAhead", "(I)I"⟩, 11), (⟨"HexBroadsidesModel", "canSail", "(I)Z"⟩, 11), (⟨"HexBroadsidesModel", "next", "(II)I"⟩, 11), (⟨"HexBroadsidesModel", "goes", "(I)I"⟩, 11), (⟨"HexBroadsidesModel", "notTurn", "(IZ)I"⟩, 11), (⟨"HexBroadsidesModel", "turns", "(IZ)I"⟩, 11), (⟨"HexBroadsidesModel", "ends", "()I"⟩, 11)]
theorem lw_r3 : ∀ q ∈ lw_privs_3, lw_okq q := List.forall_mem_cons.mpr ⟨lw_p32, List.forall_mem_cons.mpr ⟨lw_p33, List.forall_mem_cons.mpr ⟨lw_p34, List.forall_mem_cons.mpr ⟨lw_p35, List.forall_mem_cons.mpr ⟨lw_p36, List.forall_mem_cons.mpr ⟨lw_p37, List.forall_mem_cons.mpr ⟨lw_p38, List.forall_mem_cons.mpr ⟨lw_p39, List.forall_mem_cons.mpr ⟨lw_p40, List.forall_mem_cons.mpr ⟨lw_p41, List.forall_mem_cons.mpr ⟨lw_p42, List.forall_mem_cons.mpr ⟨lw_p43, List.forall_mem_cons.mpr ⟨lw_p44, List.forall_mem_cons.mpr ⟨lw_p45, List.forall_mem_cons.mpr ⟨lw_p46, List.forall_mem_cons.mpr ⟨lw_p47, fun _ h => absurd h List.not_mem_nil⟩⟩⟩⟩⟩⟩⟩⟩⟩⟩⟩⟩⟩⟩⟩⟩
theorem lw_p48 : lw_okq (⟨"HexBroadsidesModel", "notPair", "(II)I"⟩, 11) := ⟨⟨by decide +kernel, by decide +kernel⟩, List.mem_of_getElem? (i := 951) (by decide +kernel), List.mem_of_getElem? (i := 1185) (by decide +kernel), List.mem_of_getElem? (i := 1186) (by decide +kernel)⟩
theorem lw_p49 : lw_okq (⟨"HexBroadsidesModel", "forceOf", "(III)I"⟩, 11) := ⟨⟨by decide +kernel, by decide +kernel⟩, List.mem_of_getElem? (i := 951) (by decide +kernel), List.mem_of_getElem? (i := 1189) (by decide +kernel), List.mem_of_getElem? (i := 1190) (by decide +kernel)⟩
theorem lw_p50 : lw_okq (⟨"HexBroadsidesModel", "arc", "(II)I"⟩, 11) := ⟨⟨by decide +kernel, by decide +kernel⟩, List.mem_of_getElem? (i := 951) (by decide +kernel), List.mem_of_getElem? (i := 1193) (by decide +kernel), List.mem_of_getElem? (i := 1194) (by decide +kernel)⟩
theorem lw_p51 : lw_okq (⟨"HexBroadsidesModel", "isHidden", "(II)Z"⟩, 11) := ⟨⟨by decide +kernel, by decide +kernel⟩, List.mem_of_getElem? (i := 951) (by decide +kernel), List.mem_of_getElem? (i := 1197) (by decide +kernel), List.mem_of_getElem? (i := 1198) (by decide +kernel)⟩
theorem lw_p52 : lw_okq (⟨"HexBroadsidesModel", "isRaking", "(II)Z"⟩, 11) := ⟨⟨by decide +kernel, by decide +kernel⟩, List.mem_of_getElem? (i := 951) (by decide +kernel), List.mem_of_getElem? (i := 1201) (by decide +kernel), List.mem_of_getElem? (i := 1202) (by decide +kernel)⟩
theorem lw_p53 : lw_okq (⟨"HexBroadsidesModel", "notFire", "(IIII)I"⟩, 11) := ⟨⟨by decide +kernel, by decide +kernel⟩, List.mem_of_getElem? (i := 951) (by decide +kernel), List.mem_of_getElem? (i := 1209) (by decide +kernel), List.mem_of_getElem? (i := 1210) (by decide +kernel)⟩
theorem lw_p54 : lw_okq (⟨"HexBroadsidesModel", "fires", "(IIII)I"⟩, 11) := ⟨⟨by decide +kernel, by decide +kernel⟩, List.mem_of_getElem? (i := 951) (by decide +kernel), List.mem_of_getElem? (i := 1213) (by decide +kernel), List.mem_of_getElem? (i := 1214) (by decide +kernel)⟩
theorem lw_p55 : lw_okq (⟨"HexBroadsidesModel", "loses", "(IIII)I"⟩, 11) := ⟨⟨by decide +kernel, by decide +kernel⟩, List.mem_of_getElem? (i := 951) (by decide +kernel), List.mem_of_getElem? (i := 1217) (by decide +kernel), List.mem_of_getElem? (i := 1218) (by decide +kernel)⟩
theorem lw_p56 : lw_okq (⟨"HexBroadsidesModel", "loose", "(I)V"⟩, 11) := ⟨⟨by decide +kernel, by decide +kernel⟩, List.mem_of_getElem? (i := 951) (by decide +kernel), List.mem_of_getElem? (i := 1224) (by decide +kernel), List.mem_of_getElem? (i := 1225) (by decide +kernel)⟩
theorem lw_p57 : lw_okq (⟨"HexBroadsidesModel", "canGrapple", "(II)Z"⟩, 11) := ⟨⟨by decide +kernel, by decide +kernel⟩, List.mem_of_getElem? (i := 951) (by decide +kernel), List.mem_of_getElem? (i := 1232) (by decide +kernel), List.mem_of_getElem? (i := 1233) (by decide +kernel)⟩
theorem lw_p58 : lw_okq (⟨"HexBroadsidesModel", "grappled", "()I"⟩, 11) := ⟨⟨by decide +kernel, by decide +kernel⟩, List.mem_of_getElem? (i := 951) (by decide +kernel), List.mem_of_getElem? (i := 1236) (by decide +kernel), List.mem_of_getElem? (i := 1237) (by decide +kernel)⟩
theorem lw_p59 : lw_okq (⟨"HexBroadsidesModel", "boards", "(I)I"⟩, 11) := ⟨⟨by decide +kernel, by decide +kernel⟩, List.mem_of_getElem? (i := 951) (by decide +kernel), List.mem_of_getElem? (i := 1248) (by decide +kernel), List.mem_of_getElem? (i := 1249) (by decide +kernel)⟩
theorem lw_p60 : lw_okq (⟨"HexBroadsidesModel", "reached", "(I)I"⟩, 11) := ⟨⟨by decide +kernel, by decide +kernel⟩, List.mem_of_getElem? (i := 951) (by decide +kernel), List.mem_of_getElem? (i := 1256) (by decide +kernel), List.mem_of_getElem? (i := 1257) (by decide +kernel)⟩
theorem lw_p61 : lw_okq (⟨"HexBroadsidesModel", "spread", "(I)V"⟩, 11) := ⟨⟨by decide +kernel, by decide +kernel⟩, List.mem_of_getElem? (i := 951) (by decide +kernel), List.mem_of_getElem? (i := 1260) (by decide +kernel), List.mem_of_getElem? (i := 1261) (by decide +kernel)⟩
theorem lw_p62 : lw_okq (⟨"HexBroadsidesModel", "stand", "(III)I"⟩, 11) := ⟨⟨by decide +kernel, by decide +kernel⟩, List.mem_of_getElem? (i := 951) (by decide +kernel), List.mem_of_getElem? (i := 1264) (by decide +kernel), List.mem_of_getElem? (i := 1265) (by decide +kernel)⟩
theorem lw_p63 : lw_okq (⟨"HexBroadsidesModel", "goOn", "(III)V"⟩, 11) := ⟨⟨by decide +kernel, by decide +kernel⟩, List.mem_of_getElem? (i := 951) (by decide +kernel), List.mem_of_getElem? (i := 1268) (by decide +kernel), List.mem_of_getElem? (i := 1269) (by decide +kernel)⟩
def lw_privs_4 : List (MethodName × Nat) := [(⟨"HexBroadsidesModel", "notPair", "(II)I"⟩, 11), (⟨"HexBroadsidesModel", "forceOf", "(III)I"⟩, 11), (⟨"HexBroadsidesModel", "arc", "(II)I"⟩, 11), (⟨"HexBroadsidesModel", "isHidden", "(II)Z"⟩, 11), (⟨"HexBroadsidesModel", "isRaking", "(II)Z"⟩, 11), (⟨"HexBroadsidesModel", "notFire", "(IIII)I"⟩, 11), (⟨"HexBroadsidesModel", "fires", "(IIII)I"⟩, 11), (⟨"HexBroadsidesModel", "loses", "(IIII)I"⟩, 11), (⟨"HexBroadsidesModel", "loose", "(I)V"⟩, 11), (⟨"HexBroadsidesModel", "canGrapple", "(II)Z"⟩, 11), (⟨"HexBroadsidesModel", "grappled", "()I"⟩, 11), (⟨"HexBroadsidesModel", "boards", "(I)I"⟩, 11), (⟨"HexBroadsidesModel", "reached", "(I)I"⟩, 11), (⟨"HexBroadsidesModel", "spread", "(I)V"⟩, 11), (⟨"HexBroadsidesModel", "stand", "(III)I"⟩, 11), (⟨"HexBroadsidesModel", "goOn", "(III)V"⟩, 11)]
theorem lw_r4 : ∀ q ∈ lw_privs_4, lw_okq q := List.forall_mem_cons.mpr ⟨lw_p48, List.forall_mem_cons.mpr ⟨lw_p49, List.forall_mem_cons.mpr ⟨lw_p50, List.forall_mem_cons.mpr ⟨lw_p51, List.forall_mem_cons.mpr ⟨lw_p52, List.forall_mem_cons.mpr ⟨lw_p53, List.forall_mem_cons.mpr ⟨lw_p54, List.forall_mem_cons.mpr ⟨lw_p55, List.forall_mem_cons.mpr ⟨lw_p56, List.forall_mem_cons.mpr ⟨lw_p57, List.forall_mem_cons.mpr ⟨lw_p58, List.forall_mem_cons.mpr ⟨lw_p59, List.forall_mem_cons.mpr ⟨lw_p60, List.forall_mem_cons.mpr ⟨lw_p61, List.forall_mem_cons.mpr ⟨lw_p62, List.forall_mem_cons.mpr ⟨lw_p63, fun _ h => absurd h List.not_mem_nil⟩⟩⟩⟩⟩⟩⟩⟩⟩⟩⟩⟩⟩⟩⟩⟩
theorem lw_p64 : lw_okq (⟨"HexBroadsidesModel", "isOpen", "(II)Z"⟩, 11) := ⟨⟨by decide +kernel, by decide +kernel⟩, List.mem_of_getElem? (i := 951) (by decide +kernel), List.mem_of_getElem? (i := 1272) (by decide +kernel), List.mem_of_getElem? (i := 1273) (by decide +kernel)⟩
theorem lw_p65 : lw_okq (⟨"HexBroadsidesModel", "arrive", "(II)V"⟩, 11) := ⟨⟨by decide +kernel, by decide +kernel⟩, List.mem_of_getElem? (i := 951) (by decide +kernel), List.mem_of_getElem? (i := 1276) (by decide +kernel), List.mem_of_getElem? (i := 1277) (by decide +kernel)⟩
theorem lw_p66 : lw_okq (⟨"HexBroadsidesModel", "pointsOn", "(I)I"⟩, 11) := ⟨⟨by decide +kernel, by decide +kernel⟩, List.mem_of_getElem? (i := 951) (by decide +kernel), List.mem_of_getElem? (i := 1280) (by decide +kernel), List.mem_of_getElem? (i := 1281) (by decide +kernel)⟩
theorem lw_p67 : lw_okq (⟨"HexBroadsidesModel", "isText", "()Z"⟩, 11) := ⟨⟨by decide +kernel, by decide +kernel⟩, List.mem_of_getElem? (i := 951) (by decide +kernel), List.mem_of_getElem? (i := 1313) (by decide +kernel), List.mem_of_getElem? (i := 1314) (by decide +kernel)⟩
theorem lw_p68 : lw_okq (⟨"HexBroadsidesModel", "readOrder", "()Z"⟩, 11) := ⟨⟨by decide +kernel, by decide +kernel⟩, List.mem_of_getElem? (i := 951) (by decide +kernel), List.mem_of_getElem? (i := 1317) (by decide +kernel), List.mem_of_getElem? (i := 1318) (by decide +kernel)⟩
theorem lw_p69 : lw_okq (⟨"HexBroadsidesModel", "here", "()I"⟩, 11) := ⟨⟨by decide +kernel, by decide +kernel⟩, List.mem_of_getElem? (i := 951) (by decide +kernel), List.mem_of_getElem? (i := 1321) (by decide +kernel), List.mem_of_getElem? (i := 1322) (by decide +kernel)⟩
theorem lw_p70 : lw_okq (⟨"HexBroadsidesModel", "takesLetter", "(Z)Z"⟩, 11) := ⟨⟨by decide +kernel, by decide +kernel⟩, List.mem_of_getElem? (i := 951) (by decide +kernel), List.mem_of_getElem? (i := 1325) (by decide +kernel), List.mem_of_getElem? (i := 1326) (by decide +kernel)⟩
theorem lw_p71 : lw_okq (⟨"HexBroadsidesModel", "takesDigit", "(I)Z"⟩, 11) := ⟨⟨by decide +kernel, by decide +kernel⟩, List.mem_of_getElem? (i := 951) (by decide +kernel), List.mem_of_getElem? (i := 1329) (by decide +kernel), List.mem_of_getElem? (i := 1330) (by decide +kernel)⟩
theorem lw_p72 : lw_okq (⟨"HexBroadsidesModel", "canCarryOut", "()Z"⟩, 11) := ⟨⟨by decide +kernel, by decide +kernel⟩, List.mem_of_getElem? (i := 951) (by decide +kernel), List.mem_of_getElem? (i := 1333) (by decide +kernel), List.mem_of_getElem? (i := 1334) (by decide +kernel)⟩
theorem lw_p73 : lw_okq (⟨"HexBroadsidesModel", "order", "()I"⟩, 11) := ⟨⟨by decide +kernel, by decide +kernel⟩, List.mem_of_getElem? (i := 951) (by decide +kernel), List.mem_of_getElem? (i := 1337) (by decide +kernel), List.mem_of_getElem? (i := 1338) (by decide +kernel)⟩
theorem lw_p74 : lw_okq (⟨"HexBroadsidesModel", "mix", "(J)V"⟩, 11) := ⟨⟨by decide +kernel, by decide +kernel⟩, List.mem_of_getElem? (i := 951) (by decide +kernel), List.mem_of_getElem? (i := 1350) (by decide +kernel), List.mem_of_getElem? (i := 1351) (by decide +kernel)⟩
def lw_privs_5 : List (MethodName × Nat) := [(⟨"HexBroadsidesModel", "isOpen", "(II)Z"⟩, 11), (⟨"HexBroadsidesModel", "arrive", "(II)V"⟩, 11), (⟨"HexBroadsidesModel", "pointsOn", "(I)I"⟩, 11), (⟨"HexBroadsidesModel", "isText", "()Z"⟩, 11), (⟨"HexBroadsidesModel", "readOrder", "()Z"⟩, 11), (⟨"HexBroadsidesModel", "here", "()I"⟩, 11), (⟨"HexBroadsidesModel", "takesLetter", "(Z)Z"⟩, 11), (⟨"HexBroadsidesModel", "takesDigit", "(I)Z"⟩, 11), (⟨"HexBroadsidesModel", "canCarryOut", "()Z"⟩, 11), (⟨"HexBroadsidesModel", "order", "()I"⟩, 11), (⟨"HexBroadsidesModel", "mix", "(J)V"⟩, 11)]
theorem lw_r5 : ∀ q ∈ lw_privs_5, lw_okq q := List.forall_mem_cons.mpr ⟨lw_p64, List.forall_mem_cons.mpr ⟨lw_p65, List.forall_mem_cons.mpr ⟨lw_p66, List.forall_mem_cons.mpr ⟨lw_p67, List.forall_mem_cons.mpr ⟨lw_p68, List.forall_mem_cons.mpr ⟨lw_p69, List.forall_mem_cons.mpr ⟨lw_p70, List.forall_mem_cons.mpr ⟨lw_p71, List.forall_mem_cons.mpr ⟨lw_p72, List.forall_mem_cons.mpr ⟨lw_p73, List.forall_mem_cons.mpr ⟨lw_p74, fun _ h => absurd h List.not_mem_nil⟩⟩⟩⟩⟩⟩⟩⟩⟩⟩⟩
def lw_privs : List (MethodName × Nat) := lw_privs_1 ++ (lw_privs_2 ++ (lw_privs_3 ++ (lw_privs_4 ++ (lw_privs_5))))
def lw_tbl : List Cond := k2_sels lw_privs ++ tables_1
theorem lw_privs_ok : ∀ q ∈ lw_privs, lw_okq q := by
  show ∀ q ∈ lw_privs_1 ++ (lw_privs_2 ++ (lw_privs_3 ++ (lw_privs_4 ++ (lw_privs_5)))), lw_okq q
  exact List.forall_mem_append.mpr ⟨lw_r1, List.forall_mem_append.mpr ⟨lw_r2, List.forall_mem_append.mpr ⟨lw_r3, List.forall_mem_append.mpr ⟨lw_r4, lw_r5⟩⟩⟩⟩
/-- the streams that the claim lets the run draw from -/
abbrev lw_cs : List Choice := [Jvm.Choice.named "NaN.bits"]
theorem lw_bits : nanBits ∈ lw_cs := by first | decide | exact List.mem_cons_self | simp [lw_cs, nanBits]
-- ===== end of PART A; then your names; then what follows =====
end
section
/-! ===== BEGIN words of one list among another's, by their places ===== -/
theorem goodIn_r {big : List Cond} (ws : List Cond) (ps : List Nat) (hp : ws = ps.filterMap (fun i => big[i]?)) (h : ws.all goodWord = true) : GoodIn big ws := by
  intro w hw
  have h1 := List.all_eq_true.mp h w hw
  rw [hp] at hw
  obtain ⟨i, -, hi⟩ := List.mem_filterMap.mp hw
  have hm : w ∈ big := by first | exact List.mem_of_getElem? hi | exact List.getElem?_mem hi
  exact ⟨hm, good_of_word h1⟩
theorem goodIn_app {big a b : List Cond} (ha : GoodIn big a) (hb : GoodIn big b) : GoodIn big (a ++ b) := fun w h => (List.mem_append.mp h).elim (ha w) (hb w)
theorem goodIn_ca {big a b : List Cond} {c : Cond} (ha : GoodIn big (c :: a)) (hb : GoodIn big b) : GoodIn big (c :: (a ++ b)) := fun w h => (List.mem_cons.mp h).elim (fun e => ha w (List.mem_cons.mpr (Or.inl e))) (fun h => (List.mem_append.mp h).elim (fun h => ha w (List.mem_cons.mpr (Or.inr h))) (hb w))
theorem goodIn_sub {big ws : List Cond} (hm : ∀ w ∈ ws, w ∈ big) (h : ws.all goodWord = true) : GoodIn big ws := fun w hw => ⟨hm w hw, good_of_word (List.all_eq_true.mp h w hw)⟩
/-! ===== END ===== -/
/-! ===== BEGIN exceptions that leave a method, and their catching by the caller (launches without stack traces) ===== -/
section VXA
/-! The laws vx_back, vx_callV, vx_callS, vx_callSW, vx_throw0, vx_throwS follow proofs of the library, with one case more: JvmDerived/Free/Laws.lean (Back.of_free), Shelf42/LK1.lean (callV, callS), Shelf/KitTraced.lean (throwNew0V, throwNewS). -/
/-- where a method has thrown q: the class by its name, the cell, what was written, the world -/
def vx_T (XC : String → State → State → Prop) (st : State) (q : Addr) (t : State) (mc ms : Nat) (free : Addr → Prop) : Prop :=
  ∃ (E : String) (ce : Cell) (L : List Loc), XC E st t ∧ t.heap[q]? = some ce ∧ ce.vm = .none ∧ st.vm.findClass E = some ce.cls ∧ st.WarmedH t.vm ∧ st.sameButNew ({ t with vm := st.vm } : State) L mc ms ∧ ∀ z ∈ L, free z.base
def vx_Q (Qc : Array Value → State → Outcome → State → Prop) (XC : String → State → State → Prop) (mc ms : Nat) (free : Addr → Prop) : Array Value → State → Outcome → State → Prop := fun a st o t =>
  (Qc a st o t ∧ ∃ L, FrameEnd st o t L mc ms ∧ ∀ q ∈ L, free q.base) ∨ ∃ q, o = .threw q ∧ vx_T XC st q t mc ms free
/-- a callee that returns or throws -/
def vx_Met (l : Launch) (y : MethodName) (ws : List Cond) (rm : Room) (Pc : Array Value → State → Prop) (Qc : Array Value → State → Outcome → State → Prop) (XC : String → State → State → Prop) (mc ms : Nat) (free : Addr → Prop) : Prop :=
  MetFree l y (headSpec ws rm) Pc (fun _ _ _ _ _ => True) (vx_Q Qc XC mc ms free)
def vx_Post (XC : String → State → State → Prop) (mc ms : Nat) (free : Addr → Prop) : Pt → Array Value → Addr → Pt → Prop := fun A a q B =>
  ∃ (g : JFrame) (mk : MethodId) (t : State) (L : List Loc) (E : String) (ce : Cell), B.U.heap = t.heap ∧ B.U.vm = t.vm ∧ XC E (A.U.calling g mk a) t ∧ t.heap[q]? = some ce ∧ ce.vm = .none ∧ A.U.vm.findClass E = some ce.cls ∧ B.locs = A.locs ++ L ∧ (∀ z ∈ L, free z.base) ∧ B.cells = A.cells + mc ∧ B.slots = A.slots + ms
def vx_Back (l : Launch) (R : Room) (p : Program) (e : Env) (below : List Frame) (s : State) (sargs : Array Value) (y : MethodName) (len W9 : Nat)
    (Pre : Pt → Array Value → Prop) (Post : Pt → Array Value → Option Value → Pt → Prop) (PostX : Pt → Array Value → Addr → Pt → Prop) : Prop :=
  ∀ (m : MethodId) (meth : Method) (c : Code) (A : Pt) (g : JFrame) (ig : Instr) (mk : MethodId) (a : Array Value),
    Stand p l e R s m sargs below meth c A.U A.locs A.cells A.slots → g.method = m → g.locals.size = c.maxLocals → decode c.code g.pc = .ok (ig, len) →
    2 * g.monitorRoom + (g.stack.map fun v => v.category).sum ≤ W9 → A.U.methodNamed? y = some mk → Pre A a →
    (∃ (v : Option Value) (B : Pt), Stand p l e R s m sargs below meth c B.U B.locs B.cells B.slots ∧ Post A a v B ∧
      Steps p.tables e below (doInvoke e (A.U.setTop g) [] mk a).1 (B.U.setTop { g with pc := g.pc + len, stack := v.toList ++ g.stack })) ∨
    (∃ (q : Addr) (B : Pt), Stand p l e R s m sargs below meth c B.U B.locs B.cells B.slots ∧ PostX A a q B ∧
      Steps p.tables e below (doInvoke e (A.U.setTop g) [] mk a).1 ((B.U.setTop g).pushFrame (.throwing q)))
section Payer
variable {l : Launch} {R : Room} {p : Program} {e : Env} {below : List Frame} {s : State} {sargs : Array Value} {y : MethodName} {len W9 : Nat}
theorem vx_back {ws : List Cond} {rm : Room} {Pc : Array Value → State → Prop} {Qc : Array Value → State → Outcome → State → Prop} {XC : String → State → State → Prop} {mc ms : Nat} {free : Addr → Prop} {bytes : ByteArray} {maxL : Nat} {ret : Option FieldType}
    (hM : vx_Met l y ws rm Pc Qc XC mc ms free) (hblind : FrameBlind Pc) (hrc : rm.cells = mc) (hrs : rm.slots = ms)
    (hframes : rm.frames + 1 ≤ R.frames) (hlocals : W9 + (maxL + 11) + rm.locals ≤ R.locals)
    (hws : ∀ w ∈ ws, ∀ a' U, s.WarmedH U.vm → w.before a' U = true) (hcode : Cond.code y bytes maxL ret ∈ ws) (hinit : ∀ a' U, s.WarmedH U.vm → (Cond.initialized y.cls).before a' U = true) :
    vx_Back l R p e below s sargs y len W9 (PreOf R mc ms Pc) (PostOf Qc mc ms free) (vx_Post XC mc ms free) := by
  intro m meth c A g ig mk a X hg hsize hdg hW hn hp
  have h1 : (headSpec ws rm).pre.before a A.U = true := atoms_intro fun w hw => hws w hw _ _ X.warmed
  have h2 : (Cond.code y bytes maxL ret).before a A.U = true := hws _ hcode _ _ X.warmed
  have h3 : (Cond.initialized y.cls).before a A.U = true := hinit _ _ X.warmed
  have h4 : A.cells + (headSpec ws rm).room.cells ≤ R.cells := by rw [show (headSpec ws rm).room.cells = mc from hrc]; exact hp.1
  have h5 : A.slots + (headSpec ws rm).room.slots ≤ R.slots := by rw [show (headSpec ws rm).room.slots = ms from hrs]; exact hp.2.1
  have hPc : Pc a (A.U.calling g mk a) := hblind _ _ _ _ hp.2.2
  obtain ⟨U, Ls, c0, s0⟩ := A
  dsimp only [Pt.U, Pt.locs, Pt.cells, Pt.slots] at h1 h2 h3 h4 h5 X hn hPc ⊢
  obtain ⟨methY, cY, hmY, hcY, -, hlY, -, -, -, -⟩ := Cond.code_spec hn h2
  obtain ⟨kY, hkY, -⟩ := className_of_methodNamed hn
  have hinitY : kY.init = .initialized := Cond.initialized_spec (findClass_of_methodNamed hn) hkY h3
  have h : At U g.method c below := by rw [hg]; exact X.here
  have hlocals9 : W9 + (maxL + 11) + (headSpec ws rm).room.locals ≤ R.locals := hlocals
  have happ : (headSpec ws rm).appliesLoose y e.platform (U.calling g mk a) = true :=
    Spec.appliesLoose_calling (g := g) h hdg hn hkY hinitY
      (X.room_calling (g := g) (R' := (headSpec ws rm).room) hsize hmY hcY hframes (by rw [hlY]; omega) h4 h5) h1
  obtain ⟨mid, hmid⟩ := h.above
  have hfr : (U.setTop g).frames = (.java g :: mid) ++ below := by rw [State.frames_setTop' g h.top, hmid]; rfl
  obtain ⟨o, s₂, hsteps, -, hend, hq⟩ := Steps.callFree hM p X.admits X.cas X.clock (acts := []) hfr happ hPc trivial
  have hq' : vx_Q Qc XC mc ms free a (U.calling g mk a) o s₂ := hq
  rw [State.frames_setTop' g h.top] at hend
  obtain ⟨g₀, hg0⟩ := Option.isSome_iff_exists.mp h.top
  obtain ⟨r, hr⟩ := State.topJava?_eq_some.mp hg0
  have hr' : (({ U with heap := s₂.heap, slotsUsed := s₂.slotsUsed } : State).setVm s₂.vm).frames = .java g₀ :: r := hr
  rcases hq' with ⟨hqc, L, hfe, hL⟩ | ⟨q, rfl, E, ce, L, hx, hce, hcv, hcl, hW₂, hsm, hL⟩
  · obtain ⟨⟨v, rfl⟩, hW₂, e2, q2, q3, q4, q5, q6⟩ := id hfe
    have e3 : s₂ = ({ (U.calling g mk a).setFrames s₂.frames with heap := s₂.heap, slotsUsed := s₂.slotsUsed } : State).setVm s₂.vm := by
      have : s₂ = ({ s₂ with vm := (U.calling g mk a).vm } : State).setVm s₂.vm := rfl
      rw [e2] at this
      exact this
    obtain ⟨c₂, i₂, len₂, hc₂, hd₂, hf₂⟩ := hend
    have hW' : U.WarmedH s₂.vm := hW₂
    have hcc : c₂ = c := by
      have h1 : s₂.code? g.method = U.code? g.method := by
        rw [State.code?_eq, State.code?_eq, hW'.alike.method?]
      exact Option.some.inj (hc₂.symm.trans (h1.trans h.code))
    subst hcc
    have hlen : len₂ = len := by rw [hdg] at hd₂; cases hd₂; rfl
    subst hlen
    have hs₂ : s₂ = (({ U with heap := s₂.heap, slotsUsed := s₂.slotsUsed } : State).setVm s₂.vm).setTop { g with pc := g.pc + len₂, stack := v.toList ++ g.stack } := by
      refine e3.trans ?_
      rw [hf₂, State.calling_eq h.top, State.setFrames_setFrames, State.setTop_of_frames _ hr', hr]
      rfl
    have hsame : U.sameButNew ({ U with heap := s₂.heap, slotsUsed := s₂.slotsUsed } : State) L mc ms := by
      refine ⟨?_, q2, q3, q4, q5, q6⟩
      obtain ⟨t, ht, -⟩ := State.frames_cons hr
      show ({ U with heap := s₂.heap, slotsUsed := s₂.slotsUsed } : State) = { U.setFrames U.frames with heap := s₂.heap, slotsUsed := s₂.slotsUsed }
      rw [State.setFrames_self ht]
    subst hg
    refine Or.inl ⟨v, ⟨(({ U with heap := s₂.heap, slotsUsed := s₂.slotsUsed } : State).setVm s₂.vm), Ls ++ L, c0 + mc, s0 + ms⟩,
      ⟨X.admits, X.cas, X.clock, X.frames, X.room, X.hears, X.method, X.code, (X.here.setHeapUsed s₂.heap s₂.slotsUsed).setVm hW'.alike, X.tail, State.WarmedH.trans X.warmed hW', X.limits, X.bytes, X.same.trans (hsame.setVm s.vm)⟩,
      ⟨g, mk, s₂, L, rfl, rfl, hqc, rfl, hL, rfl, rfl⟩, ?_⟩
    show Steps p.tables e below _ ((({ U with heap := s₂.heap, slotsUsed := s₂.slotsUsed } : State).setVm s₂.vm).setTop { g with pc := g.pc + len₂, stack := v.toList ++ g.stack })
    rw [← hs₂]
    exact hsteps
  · obtain ⟨e2, q2, q3, q4, q5, q6⟩ := id hsm
    have e3 : s₂ = ({ (U.calling g mk a).setFrames s₂.frames with heap := s₂.heap, slotsUsed := s₂.slotsUsed } : State).setVm s₂.vm := by
      have : s₂ = ({ s₂ with vm := (U.calling g mk a).vm } : State).setVm s₂.vm := rfl
      rw [e2] at this
      exact this
    have hf₂ : s₂.frames = .throwing q :: .java g :: U.frames.tail := hend
    have hW' : U.WarmedH s₂.vm := hW₂
    have hs₂ : s₂ = ((({ U with heap := s₂.heap, slotsUsed := s₂.slotsUsed } : State).setVm s₂.vm).setTop g).pushFrame (.throwing q) := by
      refine e3.trans ?_
      rw [hf₂, State.calling_eq h.top, State.setFrames_setFrames, State.pushFrame, State.frames_setTop _ hr', State.setTop_of_frames _ hr', State.setFrames_setFrames, hr]
      rfl
    have hsame : U.sameButNew ({ U with heap := s₂.heap, slotsUsed := s₂.slotsUsed } : State) L mc ms := by
      refine ⟨?_, q2, q3, q4, q5, q6⟩
      obtain ⟨t, ht, -⟩ := State.frames_cons hr
      show ({ U with heap := s₂.heap, slotsUsed := s₂.slotsUsed } : State) = { U.setFrames U.frames with heap := s₂.heap, slotsUsed := s₂.slotsUsed }
      rw [State.setFrames_self ht]
    subst hg
    refine Or.inr ⟨q, ⟨(({ U with heap := s₂.heap, slotsUsed := s₂.slotsUsed } : State).setVm s₂.vm), Ls ++ L, c0 + mc, s0 + ms⟩,
      ⟨X.admits, X.cas, X.clock, X.frames, X.room, X.hears, X.method, X.code, (X.here.setHeapUsed s₂.heap s₂.slotsUsed).setVm hW'.alike, X.tail, State.WarmedH.trans X.warmed hW', X.limits, X.bytes, X.same.trans (hsame.setVm s.vm)⟩,
      ⟨g, mk, s₂, L, E, ce, rfl, rfl, hx, hce, hcv, hcl, rfl, hL, rfl, rfl⟩, ?_⟩
    show Steps p.tables e below _ (((({ U with heap := s₂.heap, slotsUsed := s₂.slotsUsed } : State).setVm s₂.vm).setTop g).pushFrame (.throwing q))
    rw [← hs₂]
    exact hsteps
end Payer
section Calls
variable {p : Program} {l : Launch} {e : Env} {R : Room} {s : State} {m : MethodId} {args : Array Value} {below : List Frame} {meth : Method} {c : Code} {T : State} {locs : List Loc} {cells slots : Nat}
theorem vx_callV (X : Stand p l e R s m args below meth c T locs cells slots) (hexec : p.tables.exec = Jvm.exec) {own C : String} {index : Nat} {y : MethodName} {bytes : ByteArray} {maxL : Nat} {ret : Option FieldType}
    (hown : s.vm.findClass own = some m.cls) (hlink : (Cond.methodLink own index y).before args s = true) (hinst : (Cond.instanceMethod y).before args s = true) (hsel : (Cond.selects C y y).before args s = true)
    (hcode : (Cond.code y bytes maxL ret).before args s = true) (hy : y.cls ≠ "java/lang/invoke/MethodHandle" ∧ y.cls ≠ "java/lang/invoke/VarHandle")
    {W9 : Nat} {Pre : Pt → Array Value → Prop} {Post : Pt → Array Value → Option Value → Pt → Prop} {PostX : Pt → Array Value → Addr → Pt → Prop} (hK : vx_Back l R p e below s args y 3 W9 Pre Post PostX)
    {b : Addr} {cellB : Cell} (hcell : T.heap[b]? = some cellB) (hobj : cellB.vm.isStatics = false) (hcls : s.vm.findClass C = some cellB.cls)
    {g : JFrame} (hg : g.method = m) (hsize : g.locals.size = c.maxLocals) {argsL rest : List Value} (hlen : ∀ sig, parseMethodDescriptor y.desc = some sig → argsL.length = sig.parameters.length)
    (hstack : g.stack = argsL.reverse ++ .ref b :: rest) (hW : 2 * g.monitorRoom + (rest.map fun v => v.category).sum ≤ W9) (hdg : decode c.code g.pc = .ok (.invokevirtual index, 3))
    (hpre : ∀ vm₁, s.WarmedH vm₁ → Pre ⟨T.setVm vm₁, locs, cells, slots⟩ (Value.ref b :: argsL).toArray) :
    (∃ (v : Option Value) (vm₁ : Vm) (B : Pt), s.WarmedH vm₁ ∧ Stand p l e R s m args below meth c B.U B.locs B.cells B.slots ∧ Post ⟨T.setVm vm₁, locs, cells, slots⟩ (Value.ref b :: argsL).toArray v B ∧
      ∀ target, Steps p.tables e below (B.U.setTop { g with pc := g.pc + 3, stack := v.toList ++ rest }) target → Steps p.tables e below (T.setTop g) target) ∨
    (∃ (q : Addr) (vm₁ : Vm) (B : Pt), s.WarmedH vm₁ ∧ Stand p l e R s m args below meth c B.U B.locs B.cells B.slots ∧ PostX ⟨T.setVm vm₁, locs, cells, slots⟩ (Value.ref b :: argsL).toArray q B ∧
      Steps p.tables e below (T.setTop g) ((B.U.setTop { g with stack := rest }).pushFrame (.throwing q))) := by
  obtain ⟨mk, methM, hnamed, hmethM, hstM, habM⟩ := Cond.instanceMethod_spec hinst
  obtain ⟨methM', cM, hmethM', -, -, -, -, -, -, hsigM⟩ := Cond.code_spec hnamed hcode
  cases hmethM.symm.trans hmethM'
  obtain ⟨c2, r2, m2, q1, q2, q3, q4, kP, hkP, hkPi⟩ := Cond.selects_spec hsel
  cases hcls.symm.trans q1
  cases (State.methodFound?_of_named hnamed hy).symm.trans q2
  cases hnamed.symm.trans q3
  have hselP : selectMethod e.platform s.vm cellB.cls mk = .method mk := by rw [Launch.admits_selectMethod X.admits]; exact q4
  obtain ⟨vm₁, X₁, hstep₁⟩ := X.invokevirtual hexec hown hlink hnamed hmethM hstM hkP hkPi hy (a := b) (cell := cellB) hcell
    (fun z h => by rw [h] at hobj; cases hobj) hselP hmethM habM hkP hkPi (g := g) hg (argsL := argsL) (rest := rest) (hlen _ hsigM) hstack hdg
  rcases hK m meth c ⟨T.setVm vm₁, locs, cells, slots⟩ { g with stack := rest } (.invokevirtual index) mk (Value.ref b :: argsL).toArray X₁ hg hsize hdg hW (X₁.named hnamed) (hpre vm₁ X₁.warmed) with ⟨v, B, X', hpost, hsteps⟩ | ⟨q, B, X', hpost, hsteps⟩
  · exact Or.inl ⟨v, vm₁, B, X₁.warmed, X', hpost, fun target h => hstep₁ _ fun acts => by rw [doInvoke_state]; exact hsteps.trans h⟩
  · exact Or.inr ⟨q, vm₁, B, X₁.warmed, X', hpost, hstep₁ _ fun acts => by rw [doInvoke_state]; exact hsteps⟩
theorem vx_callS (X : Stand p l e R s m args below meth c T locs cells slots) (hexec : p.tables.exec = Jvm.exec) {own : String} {index : Nat} {y : MethodName} {bytes : ByteArray} {maxL : Nat} {ret : Option FieldType}
    (hown : s.vm.findClass own = some m.cls) (hlink : (Cond.methodLink own index y).before args s = true) (hstat : (Cond.static y).before args s = true) (hinit : (Cond.initialized y.cls).before args s = true)
    (hcode : (Cond.code y bytes maxL ret).before args s = true) (hy : y.cls ≠ "java/lang/invoke/MethodHandle" ∧ y.cls ≠ "java/lang/invoke/VarHandle")
    {W9 : Nat} {Pre : Pt → Array Value → Prop} {Post : Pt → Array Value → Option Value → Pt → Prop} {PostX : Pt → Array Value → Addr → Pt → Prop} (hK : vx_Back l R p e below s args y 3 W9 Pre Post PostX)
    {g : JFrame} (hg : g.method = m) (hsize : g.locals.size = c.maxLocals) {argsL rest : List Value} (hlen : ∀ sig, parseMethodDescriptor y.desc = some sig → argsL.length = sig.parameters.length)
    (hstack : g.stack = argsL.reverse ++ rest) (hW : 2 * g.monitorRoom + (rest.map fun v => v.category).sum ≤ W9) (hdg : decode c.code g.pc = .ok (.invokestatic index, 3))
    (hpre : ∀ vm₁, s.WarmedH vm₁ → Pre ⟨T.setVm vm₁, locs, cells, slots⟩ argsL.toArray) :
    (∃ (v : Option Value) (vm₁ : Vm) (B : Pt), s.WarmedH vm₁ ∧ Stand p l e R s m args below meth c B.U B.locs B.cells B.slots ∧ Post ⟨T.setVm vm₁, locs, cells, slots⟩ argsL.toArray v B ∧
      ∀ target, Steps p.tables e below (B.U.setTop { g with pc := g.pc + 3, stack := v.toList ++ rest }) target → Steps p.tables e below (T.setTop g) target) ∨
    (∃ (q : Addr) (vm₁ : Vm) (B : Pt), s.WarmedH vm₁ ∧ Stand p l e R s m args below meth c B.U B.locs B.cells B.slots ∧ PostX ⟨T.setVm vm₁, locs, cells, slots⟩ argsL.toArray q B ∧
      Steps p.tables e below (T.setTop g) ((B.U.setTop { g with stack := rest }).pushFrame (.throwing q))) := by
  obtain ⟨mk, hnamed⟩ := Cond.code_named hcode
  obtain ⟨methM, cM, hmethM, -, -, -, -, -, -, hsigM⟩ := Cond.code_spec hnamed hcode
  have hstatic : methM.isStatic = true := Cond.static_spec hnamed hmethM hstat
  obtain ⟨kP, hkP, -⟩ := className_of_methodNamed hnamed
  have hinitP : kP.init = .initialized := Cond.initialized_spec (findClass_of_methodNamed hnamed) hkP hinit
  obtain ⟨vm₁, X₁, hstep₁⟩ := X.invokestatic hexec hown hlink hnamed hmethM hstatic hkP hinitP hy (g := g) hg (argsL := argsL) (rest := rest) (hlen _ hsigM) hstack hdg
  rcases hK m meth c ⟨T.setVm vm₁, locs, cells, slots⟩ { g with stack := rest } (.invokestatic index) mk argsL.toArray X₁ hg hsize hdg hW (X₁.named hnamed) (hpre vm₁ X₁.warmed) with ⟨v, B, X', hpost, hsteps⟩ | ⟨q, B, X', hpost, hsteps⟩
  · exact Or.inl ⟨v, vm₁, B, X₁.warmed, X', hpost, fun target h => hstep₁ _ fun acts => by rw [doInvoke_state]; exact hsteps.trans h⟩
  · exact Or.inr ⟨q, vm₁, B, X₁.warmed, X', hpost, hstep₁ _ fun acts => by rw [doInvoke_state]; exact hsteps⟩
end Calls
theorem vx_cls {s : State} {T : State} {vm₁ : Vm} {E : String} {k : ClassId} (hW : s.WarmedH vm₁) (h : (T.setVm vm₁).vm.findClass E = some k) : s.vm.findClass E = some k := by
  have h1 : vm₁.findClass E = some k := h
  rw [hW.alike.findClass] at h1
  exact h1
/-- the method's frame g, with q thrown over it -/
def vx_W (p : Program) (l : Launch) (e : Env) (R : Room) (s : State) (m : MethodId) (args : Array Value) (below : List Frame) (meth : Method) (c : Code) (H : Heap) (locs : List Loc) (cells slots : Nat) (Q : State → Prop) (g : JFrame) (q : Addr) : Prop :=
  ∀ T : State, T.heap = H → Stand p l e R s m args below meth c T locs cells slots → ∃ t, Steps p.tables e below ((T.setTop g).pushFrame (.throwing q)) t ∧ Q t
def vx_Run (p : Program) (l : Launch) (e : Env) (R : Room) (s : State) (m : MethodId) (args : Array Value) (below : List Frame) (meth : Method) (c : Code) (H : Heap) (locs : List Loc) (cells slots mc ms : Nat) (g : JFrame) (rest : List Value) (Qa : State → Outcome → State → Prop) (XC : String → State → State → Prop) (free : Addr → Prop) : Prop :=
  ∀ T : State, T.heap = H → Stand p l e R s m args below meth c T locs cells slots →
    (∃ (v : Option Value) (st₀ t T' : State) (L : List Loc), st₀.heap = H ∧ Stand p l e R s m args below meth c T' (locs ++ L) (cells + mc) (slots + ms) ∧ (∀ q ∈ L, free q.base) ∧ T'.heap = t.heap ∧ T'.vm = t.vm ∧ Qa st₀ (.returned v) t ∧
      Goes p e below T g T' { g with pc := g.pc + 3, stack := v.toList ++ rest }) ∨
    (∃ (q : Addr) (st₀ t T' : State) (L : List Loc) (E : String) (ce : Cell), st₀.heap = H ∧ Stand p l e R s m args below meth c T' (locs ++ L) (cells + mc) (slots + ms) ∧ (∀ z ∈ L, free z.base) ∧ T'.heap = t.heap ∧ T'.vm = t.vm ∧ XC E st₀ t ∧ t.heap[q]? = some ce ∧ ce.vm = .none ∧ s.vm.findClass E = some ce.cls ∧
      Steps p.tables e below (T.setTop g) ((T'.setTop { g with stack := rest }).pushFrame (.throwing q)))
def vx_X {S : Type} (px : S → Prop) (B : String → S → State → Prop) (A : Nat → Prop) : String → State → State → Prop := fun E st t => ∃ u : S, px u ∧ B E u t ∧ va_F A st t
section Runs
variable {p : Program} {l : Launch} {e : Env} {R : Room} {s : State} {m : MethodId} {args : Array Value} {below : List Frame} {meth : Method} {c : Code} {H : Heap} {locs : List Loc} {cells slots : Nat}
variable {y : MethodName} {bytes cc : ByteArray} {maxL nL mc ms n index : Nat} {ret : Option FieldType} {ws : List Cond} {rm : Room} {Pc : Array Value → State → Prop} {Qc : Array Value → State → Outcome → State → Prop} {XC : String → State → State → Prop} {free : Addr → Prop} {Ts : List Cond} {own C : String} {b : Addr} {As rest : List Value} {g : JFrame}
theorem vx_callBack (cb : CallB R s args own index y bytes maxL ret ws rm mc ms n) (hM : vx_Met l y ws rm Pc Qc XC mc ms free) (hbl : FrameBlind Pc) : vx_Back l R p e below s args y 3 8 (PreOf R mc ms Pc) (PostOf Qc mc ms free) (vx_Post XC mc ms free) := by
  obtain ⟨hrc, hrs, hfr, hlo, hws, hcw, -, hini, -⟩ := cb
  exact vx_back (bytes := bytes) (maxL := maxL) (ret := ret) hM hbl hrc hrs hfr hlo hws hcw (fun a' U hW => word_at hW (Or.inl (by first | rfl | simp [Cond.onTables, Cond.keeps, Cond.steady])) hini)
theorem vx_runV (S : CallFix p m c cc nL s args Ts own) (hM : vx_Met l y ws rm Pc Qc XC mc ms free) (cw : CallW R s args own C index y bytes maxL ret ws rm mc ms n) (hp : PreV s H C b Pc As)
    (hg : g.method = m) (hn : As.length = n) (hsize : g.locals.size = nL) (hstack : g.stack = As.reverse ++ .ref b :: rest) (hW : 2 * g.monitorRoom + (rest.map fun v => v.category).sum ≤ 8) (hdg : decode cc g.pc = .ok (.invokevirtual index, 3)) (hf : cells + mc ≤ R.cells ∧ slots + ms ≤ R.slots) :
    vx_Run p l e R s m args below meth c H locs cells slots mc ms g rest (Qc (Value.ref b :: As).toArray) XC free := by
  have hK : vx_Back l R p e below s args y 3 8 (PreOf R mc ms Pc) (PostOf Qc mc ms free) (vx_Post XC mc ms free) := vx_callBack cw.1 hM hp.1
  obtain ⟨⟨-, -, -, -, -, -, hcode, -, hy, hlen, hl⟩, hin, hse⟩ := cw
  obtain ⟨hx, hb, hml, ho, -⟩ := S
  obtain ⟨-, ⟨cellB, hcB, hoB, hclB⟩, hPc⟩ := hp
  intro T hT X
  rcases vx_callV X hx (C := C) (bytes := bytes) (maxL := maxL) (ret := ret) ho hl hin hse hcode hy hK (by rw [hT]; exact hcB) hoB hclB hg (hsize.trans hml.symm) (argsL := As) (rest := rest) (fun sig h => hn.trans (hlen sig h)) hstack hW (by rw [hb]; exact hdg)
    (fun vm₁ hW₁ => ⟨hf.1, hf.2, hPc (T.setVm vm₁) hT hW₁⟩) with ⟨v, vm₁, ⟨U', l2, c2, s2⟩, hW₁, X', ⟨g', mk, t, L, e1, e2, hq, h1, hL, h2, h3⟩, st⟩ | ⟨q, vm₁, ⟨U', l2, c2, s2⟩, hW₁, X', ⟨g', mk, t, L, E, ce, e1, e2, hq, hce, hcv, hcl, h1, hL, h2, h3⟩, st⟩
  · dsimp only [Pt.U, Pt.locs, Pt.cells, Pt.slots] at X' e1 e2 h1 h2 h3 st
    subst h1; subst h2; subst h3
    exact Or.inl ⟨v, (T.setVm vm₁).calling g' mk (Value.ref b :: As).toArray, t, U', L, hT, X', hL, e1, e2, hq, st⟩
  · dsimp only [Pt.U, Pt.locs, Pt.cells, Pt.slots] at X' e1 e2 h1 h2 h3 st hcl
    subst h1; subst h2; subst h3
    exact Or.inr ⟨q, (T.setVm vm₁).calling g' mk (Value.ref b :: As).toArray, t, U', L, E, ce, hT, X', hL, e1, e2, hq, hce, hcv, vx_cls hW₁ hcl, st⟩
theorem vx_runS (S : CallFix p m c cc nL s args Ts own) (hM : vx_Met l y ws rm Pc Qc XC mc ms free) (cw : CallB R s args own index y bytes maxL ret ws rm mc ms n ∧ (Cond.static y).before args s = true) (hp : PreS s H Pc As)
    (hg : g.method = m) (hn : As.length = n) (hsize : g.locals.size = nL) (hstack : g.stack = As.reverse ++ rest) (hW : 2 * g.monitorRoom + (rest.map fun v => v.category).sum ≤ 8) (hdg : decode cc g.pc = .ok (.invokestatic index, 3)) (hf : cells + mc ≤ R.cells ∧ slots + ms ≤ R.slots) :
    vx_Run p l e R s m args below meth c H locs cells slots mc ms g rest (Qc As.toArray) XC free := by
  have hK : vx_Back l R p e below s args y 3 8 (PreOf R mc ms Pc) (PostOf Qc mc ms free) (vx_Post XC mc ms free) := vx_callBack cw.1 hM hp.1
  obtain ⟨⟨-, -, -, -, -, -, hcode, hini, hy, hlen, hl⟩, hstt⟩ := cw
  obtain ⟨hx, hb, hml, ho, -⟩ := S
  intro T hT X
  rcases vx_callS X hx (bytes := bytes) (maxL := maxL) (ret := ret) ho hl hstt hini hcode hy hK hg (hsize.trans hml.symm) (argsL := As) (rest := rest) (fun sig h => hn.trans (hlen sig h)) hstack hW (by rw [hb]; exact hdg)
    (fun vm₁ hW₁ => ⟨hf.1, hf.2, hp.2 (T.setVm vm₁) hT hW₁⟩) with ⟨v, vm₁, ⟨U', l2, c2, s2⟩, hW₁, X', ⟨g', mk, t, L, e1, e2, hq, h1, hL, h2, h3⟩, st⟩ | ⟨q, vm₁, ⟨U', l2, c2, s2⟩, hW₁, X', ⟨g', mk, t, L, E, ce, e1, e2, hq, hce, hcv, hcl, h1, hL, h2, h3⟩, st⟩
  · dsimp only [Pt.U, Pt.locs, Pt.cells, Pt.slots] at X' e1 e2 h1 h2 h3 st
    subst h1; subst h2; subst h3
    exact Or.inl ⟨v, (T.setVm vm₁).calling g' mk As.toArray, t, U', L, hT, X', hL, e1, e2, hq, st⟩
  · dsimp only [Pt.U, Pt.locs, Pt.cells, Pt.slots] at X' e1 e2 h1 h2 h3 st hcl
    subst h1; subst h2; subst h3
    exact Or.inr ⟨q, (T.setVm vm₁).calling g' mk As.toArray, t, U', L, E, ce, hT, X', hL, e1, e2, hq, hce, hcv, vx_cls hW₁ hcl, st⟩
end Runs
section Rows
variable {p : Program} {l : Launch} {e : Env} {R : Room} {s : State} {m : MethodId} {args : Array Value} {below : List Frame} {meth : Method} {c : Code} {H : Heap} {locs : List Loc} {cells slots : Nat} {Q : State → Prop}
variable {mc ms : Nat} {free : Addr → Prop} {A0 A1 : Nat → Prop} {H0 : Heap} {a : Array Value} {pc : Nat} {ls : Array Slot} {st0 rest : List Value}
theorem vx_keep {st₀ t T' : State} {L : List Loc} (h0 : st₀.heap = H) (e1 : T'.heap = t.heap) (hS : va_S A0 H0 H locs) (hA : ∀ q, q < H.size → A1 q → A0 q) (hf : ∀ q, free q → A0 q) (hL : ∀ q ∈ L, free q.base) (hF : va_F A1 st₀ t) :
    H.size ≤ T'.heap.size ∧ (∀ q : Nat, q < H.size → ¬ A1 q → T'.heap[q]? = H[q]?) ∧ va_S A0 H0 T'.heap (locs ++ L) := by
  obtain ⟨hz, hk⟩ := hF
  rw [h0] at hz hk
  exact ⟨by rw [e1]; exact hz, fun q h1 h2 => by rw [e1]; exact hk q h1 h2,
    ⟨Nat.le_trans hS.1 (by rw [e1]; exact hz), fun q h1 h2 => by rw [e1, hk q (Nat.lt_of_lt_of_le h1 hS.1) (fun z => h2 (hA q (Nat.lt_of_lt_of_le h1 hS.1) z))]; exact hS.2.1 q h1 h2, fun q hq => by
      rcases List.mem_append.mp hq with h | h
      · exact hS.2.2 q h
      · exact hf _ (hL q h)⟩⟩
theorem vx_calli {S SX : Type} {post : Int32 → S → Prop} {px : SX → Prop} {B : S → State → Prop} {BX : String → SX → State → Prop} {AX : Nat → Prop} (hr : vx_Run p l e R s m args below meth c H locs cells slots mc ms (F0 m pc ls st0) rest (va_Qi post B A1 a) (vx_X px BX AX) free) (hS : va_S A0 H0 H locs) (hA : ∀ q, q < H.size → A1 q → A0 q) (hf : ∀ q, free q → A0 q) (hAX : ∀ q, q < H.size → AX q → A0 q)
    (kx : ∀ (E : String) (ce : Cell) (q9 : Addr) (u : SX) (t : State) (H1 : Heap) (locs1 : List Loc), t.heap = H1 → s.vm.Alike t.vm → px u → BX E u t → H.size ≤ H1.size → (∀ q : Nat, q < H.size → ¬ AX q → H1[q]? = H[q]?) → va_S A0 H0 H1 locs1 → H1[q9]? = some ce → ce.vm = .none → s.vm.findClass E = some ce.cls → vx_W p l e R s m args below meth c H1 locs1 (cells + mc) (slots + ms) Q (F0 m pc ls rest) q9)
    (kk : ∀ (r : Int32) (u : S) (t : State) (H1 : Heap) (locs1 : List Loc), t.heap = H1 → s.vm.Alike t.vm → post r u → B u t → H.size ≤ H1.size → (∀ q : Nat, q < H.size → ¬ A1 q → H1[q]? = H[q]?) → va_S A0 H0 H1 locs1 → W p l e R s m args below meth c H1 locs1 (cells + mc) (slots + ms) Q (F0 m (pc + 3) ls (.int r :: rest))) : W p l e R s m args below meth c H locs cells slots Q (F0 m pc ls st0) := by
  intro T hT X
  rcases hr T hT X with ⟨v, st₀, t, T', L, h0, X', hL, e1, e2, ⟨⟨r, u, hv, hp, hb⟩, hF⟩, st⟩ | ⟨q, st₀, t, T', L, E, ce, h0, X', hL, e1, e2, ⟨u, hp, hb, hF⟩, hce, hcv, hcl, st⟩
  · cases hv
    obtain ⟨k1, k2, k3⟩ := vx_keep h0 e1 hS hA hf hL hF
    obtain ⟨t2, a1, b1⟩ := kk r u t T'.heap (locs ++ L) e1.symm (by rw [← e2]; exact X'.warmed.alike) hp hb k1 k2 k3 T' rfl X'
    exact ⟨t2, st t2 a1, b1⟩
  · obtain ⟨k1, k2, k3⟩ := vx_keep h0 e1 hS hAX hf hL hF
    obtain ⟨t2, a1, b1⟩ := kx E ce q u t T'.heap (locs ++ L) e1.symm (by rw [← e2]; exact X'.warmed.alike) hp hb k1 k2 k3 (by rw [e1]; exact hce) hcv hcl T' rfl X'
    exact ⟨t2, st.trans a1, b1⟩
theorem vx_calll {S SX : Type} {post : Int64 → S → Prop} {px : SX → Prop} {B : S → State → Prop} {BX : String → SX → State → Prop} {AX : Nat → Prop} (hr : vx_Run p l e R s m args below meth c H locs cells slots mc ms (F0 m pc ls st0) rest (va_Ql post B A1 a) (vx_X px BX AX) free) (hS : va_S A0 H0 H locs) (hA : ∀ q, q < H.size → A1 q → A0 q) (hf : ∀ q, free q → A0 q) (hAX : ∀ q, q < H.size → AX q → A0 q)
    (kx : ∀ (E : String) (ce : Cell) (q9 : Addr) (u : SX) (t : State) (H1 : Heap) (locs1 : List Loc), t.heap = H1 → s.vm.Alike t.vm → px u → BX E u t → H.size ≤ H1.size → (∀ q : Nat, q < H.size → ¬ AX q → H1[q]? = H[q]?) → va_S A0 H0 H1 locs1 → H1[q9]? = some ce → ce.vm = .none → s.vm.findClass E = some ce.cls → vx_W p l e R s m args below meth c H1 locs1 (cells + mc) (slots + ms) Q (F0 m pc ls rest) q9)
    (kk : ∀ (r : Int64) (u : S) (t : State) (H1 : Heap) (locs1 : List Loc), t.heap = H1 → s.vm.Alike t.vm → post r u → B u t → H.size ≤ H1.size → (∀ q : Nat, q < H.size → ¬ A1 q → H1[q]? = H[q]?) → va_S A0 H0 H1 locs1 → W p l e R s m args below meth c H1 locs1 (cells + mc) (slots + ms) Q (F0 m (pc + 3) ls (.long r :: rest))) : W p l e R s m args below meth c H locs cells slots Q (F0 m pc ls st0) := by
  intro T hT X
  rcases hr T hT X with ⟨v, st₀, t, T', L, h0, X', hL, e1, e2, ⟨⟨r, u, hv, hp, hb⟩, hF⟩, st⟩ | ⟨q, st₀, t, T', L, E, ce, h0, X', hL, e1, e2, ⟨u, hp, hb, hF⟩, hce, hcv, hcl, st⟩
  · cases hv
    obtain ⟨k1, k2, k3⟩ := vx_keep h0 e1 hS hA hf hL hF
    obtain ⟨t2, a1, b1⟩ := kk r u t T'.heap (locs ++ L) e1.symm (by rw [← e2]; exact X'.warmed.alike) hp hb k1 k2 k3 T' rfl X'
    exact ⟨t2, st t2 a1, b1⟩
  · obtain ⟨k1, k2, k3⟩ := vx_keep h0 e1 hS hAX hf hL hF
    obtain ⟨t2, a1, b1⟩ := kx E ce q u t T'.heap (locs ++ L) e1.symm (by rw [← e2]; exact X'.warmed.alike) hp hb k1 k2 k3 (by rw [e1]; exact hce) hcv hcl T' rfl X'
    exact ⟨t2, st.trans a1, b1⟩
theorem vx_callf {S SX : Type} {post : UInt32 → S → Prop} {px : SX → Prop} {B : S → State → Prop} {BX : String → SX → State → Prop} {AX : Nat → Prop} (hr : vx_Run p l e R s m args below meth c H locs cells slots mc ms (F0 m pc ls st0) rest (va_Qf post B A1 a) (vx_X px BX AX) free) (hS : va_S A0 H0 H locs) (hA : ∀ q, q < H.size → A1 q → A0 q) (hf : ∀ q, free q → A0 q) (hAX : ∀ q, q < H.size → AX q → A0 q)
    (kx : ∀ (E : String) (ce : Cell) (q9 : Addr) (u : SX) (t : State) (H1 : Heap) (locs1 : List Loc), t.heap = H1 → s.vm.Alike t.vm → px u → BX E u t → H.size ≤ H1.size → (∀ q : Nat, q < H.size → ¬ AX q → H1[q]? = H[q]?) → va_S A0 H0 H1 locs1 → H1[q9]? = some ce → ce.vm = .none → s.vm.findClass E = some ce.cls → vx_W p l e R s m args below meth c H1 locs1 (cells + mc) (slots + ms) Q (F0 m pc ls rest) q9)
    (kk : ∀ (r : UInt32) (u : S) (t : State) (H1 : Heap) (locs1 : List Loc), t.heap = H1 → s.vm.Alike t.vm → post r u → B u t → H.size ≤ H1.size → (∀ q : Nat, q < H.size → ¬ A1 q → H1[q]? = H[q]?) → va_S A0 H0 H1 locs1 → W p l e R s m args below meth c H1 locs1 (cells + mc) (slots + ms) Q (F0 m (pc + 3) ls (.float r :: rest))) : W p l e R s m args below meth c H locs cells slots Q (F0 m pc ls st0) := by
  intro T hT X
  rcases hr T hT X with ⟨v, st₀, t, T', L, h0, X', hL, e1, e2, ⟨⟨r, u, hv, hp, hb⟩, hF⟩, st⟩ | ⟨q, st₀, t, T', L, E, ce, h0, X', hL, e1, e2, ⟨u, hp, hb, hF⟩, hce, hcv, hcl, st⟩
  · cases hv
    obtain ⟨k1, k2, k3⟩ := vx_keep h0 e1 hS hA hf hL hF
    obtain ⟨t2, a1, b1⟩ := kk r u t T'.heap (locs ++ L) e1.symm (by rw [← e2]; exact X'.warmed.alike) hp hb k1 k2 k3 T' rfl X'
    exact ⟨t2, st t2 a1, b1⟩
  · obtain ⟨k1, k2, k3⟩ := vx_keep h0 e1 hS hAX hf hL hF
    obtain ⟨t2, a1, b1⟩ := kx E ce q u t T'.heap (locs ++ L) e1.symm (by rw [← e2]; exact X'.warmed.alike) hp hb k1 k2 k3 (by rw [e1]; exact hce) hcv hcl T' rfl X'
    exact ⟨t2, st.trans a1, b1⟩
theorem vx_calld {S SX : Type} {post : UInt64 → S → Prop} {px : SX → Prop} {B : S → State → Prop} {BX : String → SX → State → Prop} {AX : Nat → Prop} (hr : vx_Run p l e R s m args below meth c H locs cells slots mc ms (F0 m pc ls st0) rest (va_Qd post B A1 a) (vx_X px BX AX) free) (hS : va_S A0 H0 H locs) (hA : ∀ q, q < H.size → A1 q → A0 q) (hf : ∀ q, free q → A0 q) (hAX : ∀ q, q < H.size → AX q → A0 q)
    (kx : ∀ (E : String) (ce : Cell) (q9 : Addr) (u : SX) (t : State) (H1 : Heap) (locs1 : List Loc), t.heap = H1 → s.vm.Alike t.vm → px u → BX E u t → H.size ≤ H1.size → (∀ q : Nat, q < H.size → ¬ AX q → H1[q]? = H[q]?) → va_S A0 H0 H1 locs1 → H1[q9]? = some ce → ce.vm = .none → s.vm.findClass E = some ce.cls → vx_W p l e R s m args below meth c H1 locs1 (cells + mc) (slots + ms) Q (F0 m pc ls rest) q9)
    (kk : ∀ (r : UInt64) (u : S) (t : State) (H1 : Heap) (locs1 : List Loc), t.heap = H1 → s.vm.Alike t.vm → post r u → B u t → H.size ≤ H1.size → (∀ q : Nat, q < H.size → ¬ A1 q → H1[q]? = H[q]?) → va_S A0 H0 H1 locs1 → W p l e R s m args below meth c H1 locs1 (cells + mc) (slots + ms) Q (F0 m (pc + 3) ls (.double r :: rest))) : W p l e R s m args below meth c H locs cells slots Q (F0 m pc ls st0) := by
  intro T hT X
  rcases hr T hT X with ⟨v, st₀, t, T', L, h0, X', hL, e1, e2, ⟨⟨r, u, hv, hp, hb⟩, hF⟩, st⟩ | ⟨q, st₀, t, T', L, E, ce, h0, X', hL, e1, e2, ⟨u, hp, hb, hF⟩, hce, hcv, hcl, st⟩
  · cases hv
    obtain ⟨k1, k2, k3⟩ := vx_keep h0 e1 hS hA hf hL hF
    obtain ⟨t2, a1, b1⟩ := kk r u t T'.heap (locs ++ L) e1.symm (by rw [← e2]; exact X'.warmed.alike) hp hb k1 k2 k3 T' rfl X'
    exact ⟨t2, st t2 a1, b1⟩
  · obtain ⟨k1, k2, k3⟩ := vx_keep h0 e1 hS hAX hf hL hF
    obtain ⟨t2, a1, b1⟩ := kx E ce q u t T'.heap (locs ++ L) e1.symm (by rw [← e2]; exact X'.warmed.alike) hp hb k1 k2 k3 (by rw [e1]; exact hce) hcv hcl T' rfl X'
    exact ⟨t2, st.trans a1, b1⟩
theorem vx_callv {S SX : Type} {post : S → Prop} {px : SX → Prop} {B : S → State → Prop} {BX : String → SX → State → Prop} {AX : Nat → Prop} (hr : vx_Run p l e R s m args below meth c H locs cells slots mc ms (F0 m pc ls st0) rest (va_Qv post B A1 a) (vx_X px BX AX) free) (hS : va_S A0 H0 H locs) (hA : ∀ q, q < H.size → A1 q → A0 q) (hf : ∀ q, free q → A0 q) (hAX : ∀ q, q < H.size → AX q → A0 q)
    (kx : ∀ (E : String) (ce : Cell) (q9 : Addr) (u : SX) (t : State) (H1 : Heap) (locs1 : List Loc), t.heap = H1 → s.vm.Alike t.vm → px u → BX E u t → H.size ≤ H1.size → (∀ q : Nat, q < H.size → ¬ AX q → H1[q]? = H[q]?) → va_S A0 H0 H1 locs1 → H1[q9]? = some ce → ce.vm = .none → s.vm.findClass E = some ce.cls → vx_W p l e R s m args below meth c H1 locs1 (cells + mc) (slots + ms) Q (F0 m pc ls rest) q9)
    (kk : ∀ (u : S) (t : State) (H1 : Heap) (locs1 : List Loc), t.heap = H1 → s.vm.Alike t.vm → post u → B u t → H.size ≤ H1.size → (∀ q : Nat, q < H.size → ¬ A1 q → H1[q]? = H[q]?) → va_S A0 H0 H1 locs1 → W p l e R s m args below meth c H1 locs1 (cells + mc) (slots + ms) Q (F0 m (pc + 3) ls (rest))) : W p l e R s m args below meth c H locs cells slots Q (F0 m pc ls st0) := by
  intro T hT X
  rcases hr T hT X with ⟨v, st₀, t, T', L, h0, X', hL, e1, e2, ⟨⟨u, hv, hp, hb⟩, hF⟩, st⟩ | ⟨q, st₀, t, T', L, E, ce, h0, X', hL, e1, e2, ⟨u, hp, hb, hF⟩, hce, hcv, hcl, st⟩
  · cases hv
    obtain ⟨k1, k2, k3⟩ := vx_keep h0 e1 hS hA hf hL hF
    obtain ⟨t2, a1, b1⟩ := kk u t T'.heap (locs ++ L) e1.symm (by rw [← e2]; exact X'.warmed.alike) hp hb k1 k2 k3 T' rfl X'
    exact ⟨t2, st t2 a1, b1⟩
  · obtain ⟨k1, k2, k3⟩ := vx_keep h0 e1 hS hAX hf hL hF
    obtain ⟨t2, a1, b1⟩ := kx E ce q u t T'.heap (locs ++ L) e1.symm (by rw [← e2]; exact X'.warmed.alike) hp hb k1 k2 k3 (by rw [e1]; exact hce) hcv hcl T' rfl X'
    exact ⟨t2, st.trans a1, b1⟩
/-- caught by the row x of this method's table; the rows ahead don't take it -/
theorem vx_catch {own name : String} {E : String} {ce : Cell} {q : Addr} (hown : s.vm.findClass own = some m.cls) (pre : List ExceptionTableEntry) (x : ExceptionTableEntry) (suf : List ExceptionTableEntry) (hsplit : c.exceptionTable.toList = pre ++ x :: suf)
    (hpass : ∀ z ∈ pre, covers z pc = false ∨ (z.catchType ≠ 0 ∧ ∃ nm : String, (Cond.classLink own z.catchType nm).before args s = true ∧ va_Nc E nm s)) (hx : covers x pc = true) (h0 : x.catchType ≠ 0)
    (hlink : (Cond.classLink own x.catchType name).before args s = true) (hcast : (Cond.castable E name).before args s = true) (hcell : H[q]? = some ce) (hv : ce.vm = .none) (hcl : s.vm.findClass E = some ce.cls)
    (kk : W p l e R s m args below meth c H locs cells slots Q (F0 m x.handlerPc ls [.ref q])) : vx_W p l e R s m args below meth c H locs cells slots Q (F0 m pc ls rest) q := by
  intro T hT X
  have hpl : e.platform.magicAccessors = ({} : Platform).magicAccessors := by rw [X.admits.platform]
  obtain ⟨c3, c4, hc3, hc4, hasg⟩ := Cond.castable_spec hcast
  cases Option.some.inj (hc3.symm.trans hcl)
  obtain ⟨c5, hc5, hcl5⟩ := Cond.classLink_spec hown hlink e.platform hpl
  cases Option.some.inj (hc4.symm.trans hc5)
  obtain ⟨vm', X', st⟩ := X.thenCaughtThrough q (g := F0 m pc ls rest) rfl (Steps.refl _) (by rw [hT]; exact hcell) (by rw [hv]; rfl) (by obtain ⟨k9, h9, -⟩ := Vm.findClass_spec hcl; exact ⟨k9, h9⟩) pre x suf hsplit
    (fun z hz => by
      rcases hpass z hz with h | ⟨hz0, nm, hl1, hn1⟩
      · exact Or.inl h
      · obtain ⟨c6, hc6, hcl6⟩ := Cond.classLink_spec hown hl1 e.platform hpl
        obtain ⟨a8, b8, h1, h2, h3⟩ := hn1
        cases Option.some.inj (h1.symm.trans hcl)
        cases Option.some.inj (h2.symm.trans hc6)
        exact Or.inr ⟨hz0, _, hcl6, h3⟩) hx (Or.inr ⟨h0, c4, hcl5, hasg⟩)
  obtain ⟨t, a1, b1⟩ := kk (T.setVm vm') hT X'
  exact ⟨t, st.trans a1, b1⟩
end Rows
section Ends
variable {p : Program} {l : Launch} {e : Env} {R : Room} {s : State} {m : MethodId} {args : Array Value} {below : List Frame} {meth : Method} {c : Code} {H : Heap} {locs : List Loc} {cells slots : Nat} {Q : State → Prop}
variable {mc ms : Nat} {free : Addr → Prop} {A0 A1 : Nat → Prop} {H0 : Heap} {a : Array Value} {ls : Array Slot} {st0 rest : List Value}
variable {Qc : Array Value → State → Outcome → State → Prop} {XC : String → State → State → Prop}
/-- what a body that may throw owes at its end -/
def vx_MQ (below : List Frame) (Qc : Array Value → State → Outcome → State → Prop) (XC : String → State → State → Prop) (a : Array Value) (s : State) (mc ms : Nat) (free : Addr → Prop) : State → Prop := fun t =>
  ∃ o, t.status = .running ∧ Ended t below o ∧ vx_Q Qc XC mc ms free a s o t
theorem vx_ret {g : JFrame} {mc ms : Nat} (k : W p l e R s m args below meth c H locs cells slots (MQ below Qc args s mc ms free) g) : W p l e R s m args below meth c H locs cells slots (vx_MQ below Qc XC args s mc ms free) g := by
  intro T hT X
  obtain ⟨t, a1, o, b1, b2, b3, b4⟩ := k T hT X
  exact ⟨t, a1, o, b1, b2, Or.inl ⟨b3, b4⟩⟩
/-- not caught here: it goes on to the caller -/
theorem vx_widen {g : JFrame} {q : Addr} {k n : Nat} (h1 : cells ≤ k) (h2 : slots ≤ n) (kk : vx_W p l e R s m args below meth c H locs k n Q g q) : vx_W p l e R s m args below meth c H locs cells slots Q g q := fun T hT X => kk T hT (stand_widen X h1 h2)
theorem vx_out {pc : Nat} {E : String} {ce : Cell} {q : Addr} {mc ms : Nat} (hout : ∀ x ∈ c.exceptionTable.toList, covers x pc = false) (hlocks : meth.locks = false) (hcell : H[q]? = some ce) (hv : ce.vm = .none) (hcl : s.vm.findClass E = some ce.cls)
    (hx : ∀ t : State, t.heap = H → s.vm.Alike t.vm → XC E s t) (hf : ∀ z ∈ locs, free z.base) (hc : cells ≤ mc) (hs : slots ≤ ms) :
    vx_W p l e R s m args below meth c H locs cells slots (vx_MQ below Qc XC args s mc ms free) (F0 m pc ls rest) q := by
  intro T hT X
  obtain ⟨st1, hrun, hend, hW, hsm⟩ := X.leaveThrown q (g := F0 m pc ls rest) rfl rfl rfl hout hlocks
  have hcell9 : (T.setFrames (.throwing q :: below)).heap[q]? = some ce := by
    show T.heap[q]? = some ce
    rw [hT]; exact hcell
  exact ⟨_, st1, .threw q, hrun, hend, Or.inr ⟨q, rfl, E, ce, locs, hx _ hT hW.alike, hcell9, hv, hcl, hW, hsm.mono hc hs, hf⟩⟩
theorem vx_frame {U : State} {k n : Nat} (h : s.sameButNew ({ U with vm := s.vm } : State) locs k n) : s.heap.size ≤ U.heap.size ∧ ∀ q : Nat, q < s.heap.size → (∀ z ∈ locs, z.base ≠ q) → U.heap[q]? = s.heap[q]? := by
  obtain ⟨-, h2, -, -, -, h6⟩ := h
  refine ⟨h2, fun q hq hz => ?_⟩
  obtain ⟨c9, e1, e2, e3, e4⟩ := h6 q _ (Array.getElem?_eq_getElem hq)
  have hs : c9.slots = (s.heap[q]).slots := Array.ext_getElem? fun i => e4 i fun hm => hz _ hm rfl
  have h9 : c9 = s.heap[q] := by
    rw [hs] at e2
    exact e2
  have e5 : U.heap[q]? = some c9 := e1
  rw [e5, h9, Array.getElem?_eq_getElem hq]
/-- the words of a throw but the four that speak of the heap -/
def vx_no (w : Cond) : Bool := decide (w ≠ .isRef (.static Bundle.tN "UNASSIGNED_STACK" Bundle.steD)) && decide (w ≠ .isRef (.static Bundle.tN "SUPPRESSED_SENTINEL" Bundle.listD)) && decide (w ≠ .laysStatic Bundle.tN "UNASSIGNED_STACK" Bundle.steD) && decide (w ≠ .laysStatic Bundle.tN "SUPPRESSED_SENTINEL" Bundle.listD)
def vx_at0 (own : String) (ic : Nat) (X : String) (names : List String) : List Cond := (Bundle.ownAtoms0 own ic X names).filter vx_no
def vx_atS (own : String) (ic : Nat) (X : String) (names : List String) : List Cond := (Bundle.ownAtoms own ic X names).filter vx_no
/-- a word that the tables alone decide, or a good one -/
def vx_ot (w : Cond) : Bool := w.onTables || goodWord w
theorem vx_ot_at {args a' : Array Value} {s U : State} {w : Cond} (hW : s.WarmedH U.vm) (hvm : s.vm = U.vm) (hg : vx_ot w = true) (h : w.before args s = true) : w.before a' U = true := by
  simp only [vx_ot, Bool.or_eq_true] at hg
  rcases hg with hg | hg
  · exact va_tabs hg hvm h
  · exact word_at hW (good_of_word hg) h
/-- a list's words: the good ones out of the method's own list, the others by premises of their own -/
theorem vx_hat {args : Array Value} {s : State} {L B : List Cond} (h1 : ∀ w ∈ L.filter goodWord, w.before args s = true) (h2 : ∀ w ∈ L.filter (fun w => !goodWord w), w ∈ B) (h3 : ∀ w ∈ B, w.before args s = true) : ∀ w ∈ L, w.before args s = true := by
  intro w hw
  by_cases g : goodWord w = true
  · exact h1 w (List.mem_filter.mpr ⟨hw, g⟩)
  · refine h3 w (h2 w (List.mem_filter.mpr ⟨hw, ?_⟩))
    show (!goodWord w) = true
    cases hgw : goodWord w
    · rfl
    · exact absurd hgw g
theorem vx_c {args : Array Value} {s : State} {w : Cond} {B : List Cond} (h : w.before args s = true) (t : ∀ w ∈ B, w.before args s = true) : ∀ w' ∈ w :: B, w'.before args s = true := fun w' h' => (List.mem_cons.mp h').elim (fun e => by rw [e]; exact h) (t w')
theorem vx_n {args : Array Value} {s : State} : ∀ w ∈ ([] : List Cond), w.before args s = true := fun _ h => nomatch h
theorem vx_own {args : Array Value} {s : State} {L : List Cond} (h1 : ∀ w ∈ L.filter vx_no, w.before args s = true)
    (hU : (Cond.isRef (.static Bundle.tN "UNASSIGNED_STACK" Bundle.steD)).before args s = true) (hN : (Cond.isRef (.static Bundle.tN "SUPPRESSED_SENTINEL" Bundle.listD)).before args s = true)
    (lU : (Cond.laysStatic Bundle.tN "UNASSIGNED_STACK" Bundle.steD).before args s = true) (lN : (Cond.laysStatic Bundle.tN "SUPPRESSED_SENTINEL" Bundle.listD).before args s = true) : ∀ w ∈ L, w.before args s = true := by
  intro w hw
  by_cases e1 : w = .isRef (.static Bundle.tN "UNASSIGNED_STACK" Bundle.steD)
  · rw [e1]; exact hU
  · by_cases e2 : w = .isRef (.static Bundle.tN "SUPPRESSED_SENTINEL" Bundle.listD)
    · rw [e2]; exact hN
    · by_cases e3 : w = .laysStatic Bundle.tN "UNASSIGNED_STACK" Bundle.steD
      · rw [e3]; exact lU
      · by_cases e4 : w = .laysStatic Bundle.tN "SUPPRESSED_SENTINEL" Bundle.listD
        · rw [e4]; exact lN
        · exact h1 w (List.mem_filter.mpr ⟨hw, by unfold vx_no; rw [decide_eq_true e1, decide_eq_true e2, decide_eq_true e3, decide_eq_true e4]; rfl⟩)
/-- where a static field lies, its class's statics cell in H -/
def vx_L (C n d : String) (A : Nat → Prop) (U : State) (H : Heap) : Prop := ∃ (c : ClassId) (k : Class) (i : Nat) (f : Field) (a : Nat) (cell : Cell), U.vm.findClass C = some c ∧ U.fieldFound? C n d = some (c, k, i, f) ∧ f.isStatic = true ∧ k.statics = some a ∧ H[a]? = some cell ∧ cell.vm.isStatics = true ∧ cell.cls = c ∧ f.slot < cell.slots.size ∧ k.staticTypes[f.slot]? = some f.type ∧ ¬ A a
theorem vx_L.moved {C n d : String} {A : Nat → Prop} {u U : State} {H : Heap} (hvm : u.vm.Alike U.vm) (h : vx_L C n d A u H) : vx_L C n d A U H := by
  obtain ⟨c, k, i, f, a, cell, h1, h2, h3, h4, h5, h6, h7, h8, h9, h10⟩ := h
  obtain ⟨k', hi', he⟩ := State.fieldFound?_setVm hvm h2
  exact ⟨c, k', i, f, a, cell, by rw [hvm.findClass]; exact h1, hi', h3, by rw [he]; exact h4, h5, h6, h7, h8, by rw [he]; exact h9, h10⟩
theorem vx_L.kept {C n d : String} {A : Nat → Prop} {U : State} {H H1 : Heap} (h : vx_L C n d A U H) (hq : ∀ a : Nat, a < H.size → ¬ A a → H1[a]? = H[a]?) : vx_L C n d A U H1 := by
  obtain ⟨c, k, i, f, a, cell, h1, h2, h3, h4, h5, h6, h7, h8, h9, h10⟩ := h
  exact ⟨c, k, i, f, a, cell, h1, h2, h3, h4, by rw [hq a (Array.getElem?_eq_some_iff.mp h5).1 h10]; exact h5, h6, h7, h8, h9, h10⟩
theorem vx_L.narrow {C n d : String} {A B : Nat → Prop} {U : State} {H : Heap} (h : vx_L C n d A U H) (hAB : ∀ q, B q → A q) : vx_L C n d B U H := by
  obtain ⟨c, k, i, f, a, cell, h1, h2, h3, h4, h5, h6, h7, h8, h9, h10⟩ := h
  exact ⟨c, k, i, f, a, cell, h1, h2, h3, h4, h5, h6, h7, h8, h9, fun z => h10 (hAB _ z)⟩
theorem vx_L.word {C n d : String} {A : Nat → Prop} {s : State} {args : Array Value} (h : vx_L C n d A s s.heap) : (Cond.laysStatic C n d).before args s = true := by
  obtain ⟨c, k, i, f, a, cell, h1, h2, h3, h4, h5, h6, h7, h8, h9, -⟩ := h
  show (Cond.laysStatic C n d).holds args s none s [] = true
  exact Cond.laysStatic_of h1 h2 h3 h4 h5 h6 h7 h8 h9
/-- .. and what it holds: null or some reference -/
def vx_Zq (C n d : String) (A : Nat → Prop) (U : State) (H : Heap) : Prop := va_Zq C n d A U H ∧ vx_L C n d A U H
theorem vx_Zq.moved {C n d : String} {A : Nat → Prop} {u U : State} {H : Heap} (hvm : u.vm.Alike U.vm) (h : vx_Zq C n d A u H) : vx_Zq C n d A U H := ⟨va_Zq.moved hvm h.1, vx_L.moved hvm h.2⟩
theorem vx_Zq.kept {C n d : String} {A : Nat → Prop} {U : State} {H H1 : Heap} (h : vx_Zq C n d A U H) (hq : ∀ a : Nat, a < H.size → ¬ A a → H1[a]? = H[a]?) : vx_Zq C n d A U H1 := ⟨va_Zq.kept h.1 hq, vx_L.kept h.2 hq⟩
theorem vx_Zq.narrow {C n d : String} {A B : Nat → Prop} {U : State} {H : Heap} (h : vx_Zq C n d A U H) (hAB : ∀ q, B q → A q) : vx_Zq C n d B U H := ⟨va_Zq.narrow h.1 hAB, vx_L.narrow h.2 hAB⟩
theorem vx_Zqof {args : Array Value} {s : State} {C n d : String} {A : Nat → Prop} (hl : (Cond.laysStatic C n d).before args s = true) (hini : (Cond.initialized C).before args s = true) (h : (Cond.isRef (.static C n d)).before args s = true) (hA : ∀ a : Nat, a < s.heap.size → ¬ A a) : vx_Zq C n d A s s.heap := by
  refine ⟨va_Zqof hl hini h hA, ?_⟩
  obtain ⟨c, k, i, f, a, cell, h1, h2, h3, h4, h5, h6, h7, h8, h9⟩ := Cond.laysStatic_spec hl
  exact ⟨c, k, i, f, a, cell, h1, h2, h3, h4, h5, h6, h7, h8, h9, hA a (Array.getElem?_eq_some_iff.mp h5).1⟩
theorem vx_isRef {C n d : String} {v : Value} {A : Nat → Prop} {s : State} {args : Array Value} (h : va_Z C n d v A s s.heap) (hv : v.isRef = true) : (Cond.isRef (.static C n d)).before args s = true := by
  obtain ⟨cf, kf, fi, f, a, cell, h1, h2, h3, h4, h5, h6, h7, -⟩ := h
  have he : (Term.static C n d).eval args s none [] s = some v := by
    simp [Term.eval, State.fieldNamed?, h1, h2, h4, h5, h6, h7]
  simp only [Cond.before, Cond.holds, Cond.value, he]
  cases v <;> simp_all [Value.isRef]
theorem vx_isRefq {C n d : String} {A : Nat → Prop} {s : State} {args : Array Value} (h : va_Zq C n d A s s.heap) : (Cond.isRef (.static C n d)).before args s = true := by
  rcases h with h | ⟨t, h⟩
  · exact vx_isRef h rfl
  · exact vx_isRef h rfl
/-- the same frame, seen from here: as if the method were called anew in this heap -/
theorem vx_rebase {T : State} (X : Stand p l e R s m args below meth c T locs cells slots) {R' : Room} (hf : R'.frames ≤ R.frames) (hl : R'.locals ≤ R.locals) (hc : cells + R'.cells ≤ R.cells) (hs : slots + R'.slots ≤ R.slots) :
    Stand p l e R' ((T.setVm s.vm).setFrames (.invoking m args :: below)) m args below meth c T [] 0 0 := by
  have htop : (T.setVm s.vm).topJava?.isSome := X.here.top
  have hF : ((T.setVm s.vm).setFrames (.invoking m args :: below)).frames = .invoking m args :: below := State.frames_setFrames _ (State.cur_lt_of_top htop)
  obtain ⟨g₀, hg0⟩ := Option.isSome_iff_exists.mp htop
  obtain ⟨r, hr⟩ := State.topJava?_eq_some.mp hg0
  have hl9 : e.platform.stackLimits (T.setVm s.vm).me = e.platform.stackLimits s.me := X.limits
  have hb9 : (T.setVm s.vm).me.stackBytes = s.me.stackBytes := X.bytes
  refine ⟨X.admits, X.cas, X.clock, hF, ?_, X.hears, X.method, X.code, X.here, X.tail, X.warmed, ?_, ?_, ?_⟩
  · have h := X.room
    have hU : ((T.setVm s.vm).setFrames (.invoking m args :: below)).localsInUse = s.localsInUse := by
      rw [State.localsInUse_invoking hF (meth := meth) (c := c) X.method X.code, State.localsInUse_invoking X.frames X.method X.code]
    simp only [State.hasRoom, Bool.and_eq_true, decide_eq_true_eq] at h ⊢
    obtain ⟨⟨⟨⟨h1, h2, h3, h4, h5, h6⟩, h7⟩, h8⟩, h9⟩ := h
    rw [X.frames, List.length_cons] at h2 h3
    have q1 := X.heapSize
    have q2 := X.used
    simp only [hF, hU, List.length_cons, State.stackLimits_setFrames, State.stackBytes_setFrames, hl9, hb9]
    refine ⟨⟨⟨⟨by omega, by omega, by omega, by omega, by omega, h6⟩, ?_⟩, ?_⟩, X.book⟩
    · show T.heap.size + R'.cells ≤ e.platform.maxCells
      omega
    · show T.slotsUsed + R'.slots ≤ e.platform.maxSlots
      omega
  · rw [State.stackLimits_setFrames]; rfl
  · rw [State.stackBytes_setFrames]; rfl
  · refine ⟨?_, Nat.le_refl _, Nat.le_refl _, ?_, ?_, fun a c9 h9 => ⟨c9, h9, rfl, rfl, fun _ _ => rfl⟩⟩
    · obtain ⟨t, ht, -⟩ := State.frames_cons hr
      show T.setVm s.vm = { ((T.setVm s.vm).setFrames (.invoking m args :: below)).setFrames (T.setVm s.vm).frames with heap := T.heap, slotsUsed := T.slotsUsed }
      rw [State.setFrames_setFrames, State.setFrames_self ht]
      rfl
    · show T.slotsUsed = T.slotsUsed + ((T.heap.toList.drop T.heap.size).map (·.slots.size)).sum
      rw [List.drop_eq_nil_of_le (Nat.le_of_eq Array.length_toList)]
      rfl
    · show ((T.heap.toList.drop T.heap.size).map (·.slots.size)).sum ≤ 0
      rw [List.drop_eq_nil_of_le (Nat.le_of_eq Array.length_toList)]
      exact Nat.le_refl _
/-- 'throw new E()': new; dup; invokespecial; athrow -/
theorem vx_throw0 {cc : ByteArray} {pc : Nat} (hexec : p.tables.exec = Jvm.exec) (hb : c.code = cc) (hl : l.stackTraces = false) {own cls : String} {names : List String} {ik ic mc ms : Nat} {A : Nat → Prop}
    (hown : s.vm.findClass own = some m.cls) (hcls : Bundle.fit cls = true) (hnames : ∀ n ∈ names, Bundle.fit n = true)
    (hk : (Cond.classLink own ik cls).before args s = true) (hini : (Cond.initialized cls).before args s = true) (hat : ∀ w ∈ vx_at0 own ic cls names, w.before args s = true)
    (hgood : ∀ w ∈ Cond.classLink own ik cls :: Cond.initialized cls :: vx_at0 own ic cls names, vx_ot w = true)
    (hU : vx_Zq Bundle.tN "UNASSIGNED_STACK" Bundle.steD A s s.heap) (hN : vx_Zq Bundle.tN "SUPPRESSED_SENTINEL" Bundle.listD A s s.heap) (hS : va_S A s.heap H locs) (hsize : ls.size = c.maxLocals)
    (d0 : decode cc pc = .ok (.new ik, 3)) (d3 : decode cc (pc + 3) = .ok (.dup, 1)) (d4 : decode cc (pc + 4) = .ok (.invokespecial ic, 3)) (d7 : decode cc (pc + 7) = .ok (.athrow, 1))
    (hout : ∀ x ∈ c.exceptionTable.toList, covers x (pc + 7) = false)
    (hRframes : names.length + 3 < R.frames) (hRlocals : (rest.map fun v => v.category).sum + (13 * (names.length + 1) + 42) ≤ R.locals) (hRcells : cells + 1 ≤ R.cells) (hRslots : slots + 6 ≤ R.slots) (hlocks : meth.locks = false)
    (hx : ∀ t : State, s.vm.Alike t.vm → H.size ≤ t.heap.size → (∀ q : Nat, q < H.size → t.heap[q]? = H[q]?) → XC cls s t)
    (hf : ∀ z ∈ locs, free z.base) (hc : cells + 1 ≤ mc) (hs : slots + 6 ≤ ms) :
    W p l e R s m args below meth c H locs cells slots (vx_MQ below Qc XC args s mc ms free) (F0 m pc ls rest) := by
  intro T hT X
  have htr : e.platform.stackTraces = false := (show e.platform.stackTraces = l.stackTraces by rw [X.admits.platform]).trans hl
  have Y := vx_rebase X (R' := { frames := R.frames, locals := R.locals, cells := 1, slots := 6 }) (Nat.le_refl _) (Nat.le_refl _) hRcells hRslots
  obtain ⟨s', hA⟩ : ∃ z, z = (T.setVm s.vm).setFrames (.invoking m args :: below) := ⟨_, rfl⟩
  rw [← hA] at Y
  have hvm : s'.vm = s.vm := by rw [hA]; rfl
  have hhp : s'.heap = H := by rw [hA]; exact hT
  have hW0 : s.WarmedH s'.vm := by rw [hvm]; exact State.WarmedH.refl s
  have hat' : ∀ w ∈ vx_at0 own ic cls names, w.before args s' = true := fun w hw => vx_ot_at hW0 hvm.symm (hgood w (List.mem_cons_of_mem _ (List.mem_cons_of_mem _ hw))) (hat w hw)
  have hk' : (Cond.classLink own ik cls).before args s' = true := vx_ot_at hW0 hvm.symm (hgood _ List.mem_cons_self) hk
  have hini' : (Cond.initialized cls).before args s' = true := vx_ot_at hW0 hvm.symm (hgood _ (List.mem_cons_of_mem _ List.mem_cons_self)) hini
  have hU' : vx_Zq Bundle.tN "UNASSIGNED_STACK" Bundle.steD A s' s'.heap := by rw [hhp]; exact vx_Zq.moved hW0.alike (hU.kept hS.2.1)
  have hN' : vx_Zq Bundle.tN "SUPPRESSED_SENTINEL" Bundle.listD A s' s'.heap := by rw [hhp]; exact vx_Zq.moved hW0.alike (hN.kept hS.2.1)
  have h : ∀ w ∈ Bundle.ownAtoms0 own ic cls names, w.before args s' = true := vx_own hat' (vx_isRefq hU'.1) (vx_isRefq hN'.1) hU'.2.word hN'.2.word
  have hown' : s'.vm.findClass own = some m.cls := by rw [hvm]; exact hown
  have hins : (Cond.instantiable cls 6).before args s' = true := h _ (by simp [Bundle.ownAtoms0])
  obtain ⟨vm₁, cX, kX, hfX, hkX, -, -, X₁, st1⟩ := Y.newCold hexec (own := own) (C := cls) (index := ik) (n := 6) hown' hk' hins hini'
    (g := F0 m pc ls rest) rfl (by rw [hb]; exact d0) (Nat.le_refl _) (Nat.le_refl _)
  generalize hT1 : (T.setVm vm₁).pushCell { cls := cX, slots := kX.instanceTypes.map defaultValue, vm := .none } = T1 at X₁ st1
  have hcat : (Value.ref T.heap.size).category = 1 := rfl
  have hcellA : T1.heap[T.heap.size]? = some (freshCell cX kX) := by rw [← hT1]; exact State.heap_pushCell_size _ _
  have d3' : decode c.code (pc + 3) = .ok (.dup, 1) := by rw [hb]; exact d3
  obtain ⟨U, hsteps, hrun, hend, hW, hsame, ce, hce, hO⟩ := X₁.ctorThrow0 hexec htr (own := own) (cls := cls) (names := names) (ic := ic) hown' hcls hnames h (fun x hx => nomatch hx) hfX hkX hcellA (by rw [hhp, hT]; exact Nat.le_refl _)
    (g := { method := m, pc := pc + 4, locals := ls, stack := .ref T.heap.size :: .ref T.heap.size :: rest, locked := none }) rfl hsize rfl rfl (rest := rest) rfl
    (by rw [hb]; exact d4) (by rw [hb]; exact d7) hout hRframes (by simp only [List.map_cons, List.sum_cons, hcat]; omega) hlocks
  obtain ⟨f1, f2⟩ := vx_frame hsame
  rw [hhp] at f1 f2
  have hWs : s.WarmedH U.vm := State.WarmedH.trans hW0 hW
  have hcl : s.vm.findClass cls = some ce.cls := by
    have h9 := hO.cls
    rw [hvm] at h9
    exact h9
  have hall : s.sameButNew ({ U with vm := s.vm } : State) locs mc ms := by
    subst hA
    obtain ⟨e1, e2⟩ := hsame
    rw [State.setFrames_setFrames] at e1
    have h2 : (T.setVm s.vm).sameButNew ({ U with vm := s.vm } : State) [] (0 + 1) (0 + 6) := ⟨e1, e2⟩
    have h3 := X.same.trans h2
    rw [List.append_nil] at h3
    exact h3.mono hc hs
  refine ⟨U, ?_, .threw T.heap.size, hrun, hend, Or.inr ⟨T.heap.size, rfl, cls, ce, locs, hx U hWs.alike f1 (fun q hq => f2 q hq (fun z hz => nomatch hz)), hce, hO.vm, hcl, hWs, hall, hf⟩⟩
  refine st1 _ ?_
  show Steps p.tables e below (T1.setTop { method := m, pc := pc + 3, locals := ls, stack := .ref T.heap.size :: rest, locked := none }) _
  jvm_step X₁.here [X₁.here.top, hexec, d3', Value.category]
  exact hsteps
/-- 'throw new E("text")': new; dup; ldc; invokespecial; athrow -/
theorem vx_throwS {cc : ByteArray} {pc : Nat} (hexec : p.tables.exec = Jvm.exec) (hb : c.code = cc) (hl : l.stackTraces = false) {own cls text : String} {names : List String} {ik is ic mc ms sa : Nat} {A : Nat → Prop}
    (hown : s.vm.findClass own = some m.cls) (hcls : Bundle.fit cls = true) (hnames : ∀ n ∈ names, Bundle.fit n = true)
    (hk : (Cond.classLink own ik cls).before args s = true) (hini : (Cond.initialized cls).before args s = true) (hstr : vk_R own is text sa s) (hat : ∀ w ∈ vx_atS own ic cls names, w.before args s = true)
    (hgood : ∀ w ∈ Cond.classLink own ik cls :: Cond.initialized cls :: vx_atS own ic cls names, vx_ot w = true)
    (hU : vx_Zq Bundle.tN "UNASSIGNED_STACK" Bundle.steD A s s.heap) (hN : vx_Zq Bundle.tN "SUPPRESSED_SENTINEL" Bundle.listD A s s.heap) (hS : va_S A s.heap H locs) (hsize : ls.size = c.maxLocals)
    (d0 : decode cc pc = .ok (.new ik, 3)) (d3 : decode cc (pc + 3) = .ok (.dup, 1)) (d4 : decode cc (pc + 4) = .ok (.ldc is, 2)) (d6 : decode cc (pc + 6) = .ok (.invokespecial ic, 3)) (d9 : decode cc (pc + 9) = .ok (.athrow, 1))
    (hout : ∀ x ∈ c.exceptionTable.toList, covers x (pc + 9) = false)
    (hRframes : names.length + 3 < R.frames) (hRlocals : (rest.map fun v => v.category).sum + (13 * (names.length + 1) + 43) ≤ R.locals) (hRcells : cells + 1 ≤ R.cells) (hRslots : slots + 6 ≤ R.slots) (hlocks : meth.locks = false)
    (hx : ∀ t : State, s.vm.Alike t.vm → H.size ≤ t.heap.size → (∀ q : Nat, q < H.size → t.heap[q]? = H[q]?) → XC cls s t)
    (hf : ∀ z ∈ locs, free z.base) (hc : cells + 1 ≤ mc) (hs : slots + 6 ≤ ms) :
    W p l e R s m args below meth c H locs cells slots (vx_MQ below Qc XC args s mc ms free) (F0 m pc ls rest) := by
  intro T hT X
  have htr : e.platform.stackTraces = false := (show e.platform.stackTraces = l.stackTraces by rw [X.admits.platform]).trans hl
  have Y := vx_rebase X (R' := { frames := R.frames, locals := R.locals, cells := 1, slots := 6 }) (Nat.le_refl _) (Nat.le_refl _) hRcells hRslots
  obtain ⟨s', hA⟩ : ∃ z, z = (T.setVm s.vm).setFrames (.invoking m args :: below) := ⟨_, rfl⟩
  rw [← hA] at Y
  have hvm : s'.vm = s.vm := by rw [hA]; rfl
  have hhp : s'.heap = H := by rw [hA]; exact hT
  have hW0 : s.WarmedH s'.vm := by rw [hvm]; exact State.WarmedH.refl s
  have hat' : ∀ w ∈ vx_atS own ic cls names, w.before args s' = true := fun w hw => vx_ot_at hW0 hvm.symm (hgood w (List.mem_cons_of_mem _ (List.mem_cons_of_mem _ hw))) (hat w hw)
  have hk' : (Cond.classLink own ik cls).before args s' = true := vx_ot_at hW0 hvm.symm (hgood _ List.mem_cons_self) hk
  have hini' : (Cond.initialized cls).before args s' = true := vx_ot_at hW0 hvm.symm (hgood _ (List.mem_cons_of_mem _ List.mem_cons_self)) hini
  have hU' : vx_Zq Bundle.tN "UNASSIGNED_STACK" Bundle.steD A s' s'.heap := by rw [hhp]; exact vx_Zq.moved hW0.alike (hU.kept hS.2.1)
  have hN' : vx_Zq Bundle.tN "SUPPRESSED_SENTINEL" Bundle.listD A s' s'.heap := by rw [hhp]; exact vx_Zq.moved hW0.alike (hN.kept hS.2.1)
  have h : ∀ w ∈ Bundle.ownAtoms own ic cls names, w.before args s' = true := vx_own hat' (vx_isRefq hU'.1) (vx_isRefq hN'.1) hU'.2.word hN'.2.word
  have hown' : s'.vm.findClass own = some m.cls := by rw [hvm]; exact hown
  have hins : (Cond.instantiable cls 6).before args s' = true := h _ (by simp [Bundle.ownAtoms])
  obtain ⟨vm₁, cX, kX, hfX, hkX, -, -, X₁, st1⟩ := Y.newCold hexec (own := own) (C := cls) (index := ik) (n := 6) hown' hk' hins hini'
    (g := F0 m pc ls rest) rfl (by rw [hb]; exact d0) (Nat.le_refl _) (Nat.le_refl _)
  generalize hT1 : (T.setVm vm₁).pushCell { cls := cX, slots := kX.instanceTypes.map defaultValue, vm := .none } = T1 at X₁ st1
  have hcat : (Value.ref T.heap.size).category = 1 := rfl
  have hcellA : T1.heap[T.heap.size]? = some (freshCell cX kX) := by rw [← hT1]; exact State.heap_pushCell_size _ _
  have d3' : decode c.code (pc + 3) = .ok (.dup, 1) := by rw [hb]; exact d3
  have d4' : decode c.code (pc + 4) = .ok (.ldc is, 2) := by rw [hb]; exact d4
  have hstr' : vk_R own is text sa s' := vk_R.warm hW0 hstr
  obtain ⟨U, hsteps, hrun, hend, hW, hsame, ce, hce, hO⟩ := X₁.ctorThrowS hexec htr (own := own) (cls := cls) (names := names) (ic := ic) hown' hcls hnames h (fun x hx => nomatch hx) hfX hkX hcellA (by rw [hhp, hT]; exact Nat.le_refl _) (msg := .ref sa) rfl
    (g := { method := m, pc := pc + 6, locals := ls, stack := .ref sa :: .ref T.heap.size :: .ref T.heap.size :: rest, locked := none }) rfl hsize rfl rfl (rest := rest) rfl
    (by rw [hb]; exact d6) (by rw [hb]; exact d9) hout hRframes (by simp only [List.map_cons, List.sum_cons, hcat]; omega) hlocks
  obtain ⟨f1, f2⟩ := vx_frame hsame
  rw [hhp] at f1 f2
  have hWs : s.WarmedH U.vm := State.WarmedH.trans hW0 hW
  have hcl : s.vm.findClass cls = some ce.cls := by
    have h9 := hO.cls
    rw [hvm] at h9
    exact h9
  have hall : s.sameButNew ({ U with vm := s.vm } : State) locs mc ms := by
    subst hA
    obtain ⟨e1, e2⟩ := hsame
    rw [State.setFrames_setFrames] at e1
    have h2 : (T.setVm s.vm).sameButNew ({ U with vm := s.vm } : State) [] (0 + 1) (0 + 6) := ⟨e1, e2⟩
    have h3 := X.same.trans h2
    rw [List.append_nil] at h3
    exact h3.mono hc hs
  refine ⟨U, ?_, .threw T.heap.size, hrun, hend, Or.inr ⟨T.heap.size, rfl, cls, ce, locs, hx U hWs.alike f1 (fun q hq => f2 q hq (fun z hz => nomatch hz)), hce, hO.vm, hcl, hWs, hall, hf⟩⟩
  refine st1 _ ?_
  show Steps p.tables e below (T1.setTop { method := m, pc := pc + 3, locals := ls, stack := .ref T.heap.size :: rest, locked := none }) _
  jvm_step X₁.here [X₁.here.top, hexec, d3', Value.category]
  exact X₁.ldcString hexec (own := own) (text := text) (index := is) (a := sa) hown' hstr'.1 hstr'.2
    (g := { method := m, pc := pc + 4, locals := ls, stack := .ref T.heap.size :: .ref T.heap.size :: rest, locked := none }) rfl d4' _ hsteps
/-- 'throw new E("text")', the text by a wide index -/
theorem vx_throwSW {cc : ByteArray} {pc : Nat} (hexec : p.tables.exec = Jvm.exec) (hb : c.code = cc) (hl : l.stackTraces = false) {own cls text : String} {names : List String} {ik is ic mc ms sa : Nat} {A : Nat → Prop}
    (hown : s.vm.findClass own = some m.cls) (hcls : Bundle.fit cls = true) (hnames : ∀ n ∈ names, Bundle.fit n = true)
    (hk : (Cond.classLink own ik cls).before args s = true) (hini : (Cond.initialized cls).before args s = true) (hstr : vk_R own is text sa s) (hat : ∀ w ∈ vx_atS own ic cls names, w.before args s = true)
    (hgood : ∀ w ∈ Cond.classLink own ik cls :: Cond.initialized cls :: vx_atS own ic cls names, vx_ot w = true)
    (hU : vx_Zq Bundle.tN "UNASSIGNED_STACK" Bundle.steD A s s.heap) (hN : vx_Zq Bundle.tN "SUPPRESSED_SENTINEL" Bundle.listD A s s.heap) (hS : va_S A s.heap H locs) (hsize : ls.size = c.maxLocals)
    (d0 : decode cc pc = .ok (.new ik, 3)) (d3 : decode cc (pc + 3) = .ok (.dup, 1)) (d4 : decode cc (pc + 4) = .ok (.ldc_w is, 3)) (d7 : decode cc (pc + 7) = .ok (.invokespecial ic, 3)) (d10 : decode cc (pc + 10) = .ok (.athrow, 1))
    (hout : ∀ x ∈ c.exceptionTable.toList, covers x (pc + 10) = false)
    (hRframes : names.length + 3 < R.frames) (hRlocals : (rest.map fun v => v.category).sum + (13 * (names.length + 1) + 43) ≤ R.locals) (hRcells : cells + 1 ≤ R.cells) (hRslots : slots + 6 ≤ R.slots) (hlocks : meth.locks = false)
    (hx : ∀ t : State, s.vm.Alike t.vm → H.size ≤ t.heap.size → (∀ q : Nat, q < H.size → t.heap[q]? = H[q]?) → XC cls s t)
    (hf : ∀ z ∈ locs, free z.base) (hc : cells + 1 ≤ mc) (hs : slots + 6 ≤ ms) :
    W p l e R s m args below meth c H locs cells slots (vx_MQ below Qc XC args s mc ms free) (F0 m pc ls rest) := by
  intro T hT X
  have htr : e.platform.stackTraces = false := (show e.platform.stackTraces = l.stackTraces by rw [X.admits.platform]).trans hl
  have Y := vx_rebase X (R' := { frames := R.frames, locals := R.locals, cells := 1, slots := 6 }) (Nat.le_refl _) (Nat.le_refl _) hRcells hRslots
  obtain ⟨s', hA⟩ : ∃ z, z = (T.setVm s.vm).setFrames (.invoking m args :: below) := ⟨_, rfl⟩
  rw [← hA] at Y
  have hvm : s'.vm = s.vm := by rw [hA]; rfl
  have hhp : s'.heap = H := by rw [hA]; exact hT
  have hW0 : s.WarmedH s'.vm := by rw [hvm]; exact State.WarmedH.refl s
  have hat' : ∀ w ∈ vx_atS own ic cls names, w.before args s' = true := fun w hw => vx_ot_at hW0 hvm.symm (hgood w (List.mem_cons_of_mem _ (List.mem_cons_of_mem _ hw))) (hat w hw)
  have hk' : (Cond.classLink own ik cls).before args s' = true := vx_ot_at hW0 hvm.symm (hgood _ List.mem_cons_self) hk
  have hini' : (Cond.initialized cls).before args s' = true := vx_ot_at hW0 hvm.symm (hgood _ (List.mem_cons_of_mem _ List.mem_cons_self)) hini
  have hU' : vx_Zq Bundle.tN "UNASSIGNED_STACK" Bundle.steD A s' s'.heap := by rw [hhp]; exact vx_Zq.moved hW0.alike (hU.kept hS.2.1)
  have hN' : vx_Zq Bundle.tN "SUPPRESSED_SENTINEL" Bundle.listD A s' s'.heap := by rw [hhp]; exact vx_Zq.moved hW0.alike (hN.kept hS.2.1)
  have h : ∀ w ∈ Bundle.ownAtoms own ic cls names, w.before args s' = true := vx_own hat' (vx_isRefq hU'.1) (vx_isRefq hN'.1) hU'.2.word hN'.2.word
  have hown' : s'.vm.findClass own = some m.cls := by rw [hvm]; exact hown
  have hins : (Cond.instantiable cls 6).before args s' = true := h _ (by simp [Bundle.ownAtoms])
  obtain ⟨vm₁, cX, kX, hfX, hkX, -, -, X₁, st1⟩ := Y.newCold hexec (own := own) (C := cls) (index := ik) (n := 6) hown' hk' hins hini'
    (g := F0 m pc ls rest) rfl (by rw [hb]; exact d0) (Nat.le_refl _) (Nat.le_refl _)
  generalize hT1 : (T.setVm vm₁).pushCell { cls := cX, slots := kX.instanceTypes.map defaultValue, vm := .none } = T1 at X₁ st1
  have hcat : (Value.ref T.heap.size).category = 1 := rfl
  have hcellA : T1.heap[T.heap.size]? = some (freshCell cX kX) := by rw [← hT1]; exact State.heap_pushCell_size _ _
  have d3' : decode c.code (pc + 3) = .ok (.dup, 1) := by rw [hb]; exact d3
  have d4' : decode c.code (pc + 4) = .ok (.ldc_w is, 3) := by rw [hb]; exact d4
  have hstr' : vk_R own is text sa s' := vk_R.warm hW0 hstr
  obtain ⟨U, hsteps, hrun, hend, hW, hsame, ce, hce, hO⟩ := X₁.ctorThrowS hexec htr (own := own) (cls := cls) (names := names) (ic := ic) hown' hcls hnames h (fun x hx => nomatch hx) hfX hkX hcellA (by rw [hhp, hT]; exact Nat.le_refl _) (msg := .ref sa) rfl
    (g := { method := m, pc := pc + 7, locals := ls, stack := .ref sa :: .ref T.heap.size :: .ref T.heap.size :: rest, locked := none }) rfl hsize rfl rfl (rest := rest) rfl
    (by rw [hb]; exact d7) (by rw [hb]; exact d10) hout hRframes (by simp only [List.map_cons, List.sum_cons, hcat]; omega) hlocks
  obtain ⟨f1, f2⟩ := vx_frame hsame
  rw [hhp] at f1 f2
  have hWs : s.WarmedH U.vm := State.WarmedH.trans hW0 hW
  have hcl : s.vm.findClass cls = some ce.cls := by
    have h9 := hO.cls
    rw [hvm] at h9
    exact h9
  have hall : s.sameButNew ({ U with vm := s.vm } : State) locs mc ms := by
    subst hA
    obtain ⟨e1, e2⟩ := hsame
    rw [State.setFrames_setFrames] at e1
    have h2 : (T.setVm s.vm).sameButNew ({ U with vm := s.vm } : State) [] (0 + 1) (0 + 6) := ⟨e1, e2⟩
    have h3 := X.same.trans h2
    rw [List.append_nil] at h3
    exact h3.mono hc hs
  refine ⟨U, ?_, .threw T.heap.size, hrun, hend, Or.inr ⟨T.heap.size, rfl, cls, ce, locs, hx U hWs.alike f1 (fun q hq => f2 q hq (fun z hz => nomatch hz)), hce, hO.vm, hcl, hWs, hall, hf⟩⟩
  refine st1 _ ?_
  show Steps p.tables e below (T1.setTop { method := m, pc := pc + 3, locals := ls, stack := .ref T.heap.size :: rest, locked := none }) _
  jvm_step X₁.here [X₁.here.top, hexec, d3', Value.category]
  exact X₁.ldcStringW hexec (own := own) (text := text) (index := is) (a := sa) hown' hstr'.1 hstr'.2
    (g := { method := m, pc := pc + 4, locals := ls, stack := .ref T.heap.size :: .ref T.heap.size :: rest, locked := none }) rfl d4' _ hsteps
end Ends
section Bodies
variable {l : Launch}
theorem vx_ofW {y : MethodName} {ws ws' : List Cond} {rm : Room} {Pc : Array Value → State → Prop} {Qc : Array Value → State → Outcome → State → Prop} {XC : String → State → State → Prop} {mc ms : Nat} {free : Addr → Prop} {cc : ByteArray} {maxL : Nat} {ret : Option FieldType}
    (hy : plainName y.cls = true) (hw : ws = Cond.code y cc maxL ret :: ws')
    (body : ∀ p e s m args below meth c s₁, BodyLoose p l y (headSpec ws rm) cc maxL ret e s m args below meth c s₁ → c.maxLocals = maxL → (∀ x ∈ c.exceptionTable.toList, False) → Pc args s →
      W p l e (headSpec ws rm).room s m args below meth c s.heap [] 0 0 (vx_MQ below Qc XC args s mc ms free) (entryFrame m args maxL)) : vx_Met l y ws rm Pc Qc XC mc ms free := by
  refine MetFree.of_bodyS (code := cc) (maxLocals := maxL) (ret := ret) hy ?_ ?_
  · intro args s m h hn
    obtain ⟨meth, c, h1, h2, h3, h4, h5, h6, -, -⟩ := Cond.code_spec hn (atoms_spec (ws := ws) h _ (by rw [hw]; exact List.mem_cons_self))
    exact ⟨meth, c, h1, h2, h3, h4, h5, h6⟩
  · intro p e s m args below meth c s₁ B hml hP _
    have hh0 : s₁.heap = s.heap := by rw [B.state]; rfl
    have ht : ∀ x ∈ c.exceptionTable.toList, False := by
      obtain ⟨meth9, c9, h1, h2, -, -, -, -, h7, -⟩ := Cond.code_spec B.named (atoms_spec (ws := ws) B.pre _ (by rw [hw]; exact List.mem_cons_self))
      cases Option.some.inj (h1.symm.trans B.method)
      cases Option.some.inj (h2.symm.trans (Stand.of_body B).code)
      intro x hx
      rw [Array.isEmpty_iff.mp h7] at hx
      cases hx
    obtain ⟨t, a1, o, b1, b2, b3⟩ := body p e s m args below meth c s₁ B hml ht hP s₁ hh0 (Stand.of_body B)
    exact ⟨t, o, a1, b1, b2, b3⟩
/-- the table of a body with handlers -/
theorem vx_table {p : Program} {x y : MethodName} {S : Spec} {cc bytes : ByteArray} {maxL maxL' : Nat} {ret ret' : Option FieldType} {e : Env} {s s₁ : State} {m : MethodId} {args : Array Value} {below : List Frame} {meth : Method} {c : Code} {hh : List (Nat × Nat × Nat × Nat)}
    (B : BodyLoose p l y S cc maxL ret e s m args below meth c s₁) (h : (Cond.codeWith y bytes maxL' ret' hh).before args s = true) : c.exceptionTable.toList = tableOf hh := by
  obtain ⟨m9, meth9, c9, hn9, h1, h2, -, -, h6, -⟩ := Cond.codeWith_spec h
  cases Option.some.inj (hn9.symm.trans B.named)
  cases Option.some.inj (h1.symm.trans B.method)
  cases Option.some.inj (h2.symm.trans (Stand.of_body B).code)
  rw [← h6, table_eq]
end Bodies
end VXA
/-! ===== END ===== -/
/-! ===== BEGIN a static call of a method with an exception table ===== -/
section VXS
variable {p : Program} {l : Launch} {e : Env} {R : Room} {s : State} {m : MethodId} {args : Array Value} {below : List Frame} {meth : Method} {c : Code} {T : State} {H : Heap} {locs : List Loc} {cells slots : Nat}
abbrev vx_CSW (R : Room) (s : State) (args : Array Value) (own : String) (index : Nat) (y : MethodName) (bytes : ByteArray) (maxL : Nat) (ret : Option FieldType) (hh : List (Nat × Nat × Nat × Nat)) (ws : List Cond) (rm : Room) (mc ms n : Nat) : Prop :=
  (rm.cells = mc ∧ rm.slots = ms ∧ rm.frames + 1 ≤ R.frames ∧ 8 + (maxL + 11) + rm.locals ≤ R.locals ∧ (∀ w ∈ ws, ∀ (a' : Array Value) (U : State), s.WarmedH U.vm → w.before a' U = true) ∧ Cond.codeWith y bytes maxL ret hh ∈ ws) ∧
  (Cond.codeWith y bytes maxL ret hh).before args s = true ∧ (Cond.initialized y.cls).before args s = true ∧ (y.cls ≠ "java/lang/invoke/MethodHandle" ∧ y.cls ≠ "java/lang/invoke/VarHandle") ∧
  (∀ sig, parseMethodDescriptor y.desc = some sig → n = sig.parameters.length) ∧ (Cond.methodLink own index y).before args s = true ∧ (Cond.static y).before args s = true
theorem vx_cwSW {own : String} {index maxL mc ms : Nat} {y : MethodName} {bytes : ByteArray} {ret : Option FieldType} {hh : List (Nat × Nat × Nat × Nat)} {Ts ws ws' : List Cond} {rm : Room} (n : Nat) (ht : ∀ w ∈ Ts, w.before args s = true) (hT : GoodIn Ts (va_wsS own index y ws)) (hw : ws = Cond.codeWith y bytes maxL ret hh :: ws') (hrc : rm.cells = mc) (hrs : rm.slots = ms)
    (hd : y.cls ≠ "java/lang/invoke/MethodHandle" ∧ y.cls ≠ "java/lang/invoke/VarHandle" ∧ (parseMethodDescriptor y.desc).map (fun d => d.parameters.length) = some n) (hR : rm.frames + 1 ≤ R.frames ∧ 8 + (maxL + 11) + rm.locals ≤ R.locals) :
    vx_CSW R s args own index y bytes maxL ret hh ws rm mc ms n := by
  have ok : ∀ w ∈ va_wsS own index y ws, w.before args s = true := fun w h => ht w (hT w h).1
  have hG : GoodIn Ts ws := fun w h => hT w (by unfold va_wsS; exact List.mem_append_right _ h)
  have hc : Cond.codeWith y bytes maxL ret hh ∈ ws := by rw [hw]; exact List.mem_cons_self
  refine ⟨⟨hrc, hrs, hR.1, hR.2, pay_in ht hG, hc⟩, ht _ (hG _ hc).1, ok _ (by simp [va_wsS]), ⟨hd.1, hd.2.1⟩, fun sig h => ?_, ok _ (by simp [va_wsS]), ok _ (by simp [va_wsS])⟩
  have h2 := hd.2.2
  rw [h] at h2
  exact (Option.some.inj h2).symm
theorem vx_callSW (X : Stand p l e R s m args below meth c T locs cells slots) (hexec : p.tables.exec = Jvm.exec) {own : String} {index : Nat} {y : MethodName} {bytes : ByteArray} {maxL : Nat} {ret : Option FieldType} {hh : List (Nat × Nat × Nat × Nat)}
    (hown : s.vm.findClass own = some m.cls) (hlink : (Cond.methodLink own index y).before args s = true) (hstat : (Cond.static y).before args s = true) (hinit : (Cond.initialized y.cls).before args s = true)
    (hcode : (Cond.codeWith y bytes maxL ret hh).before args s = true) (hy : y.cls ≠ "java/lang/invoke/MethodHandle" ∧ y.cls ≠ "java/lang/invoke/VarHandle")
    {W9 : Nat} {Pre : Pt → Array Value → Prop} {Post : Pt → Array Value → Option Value → Pt → Prop} (hK : Back l R p e below s args y 3 W9 Pre Post)
    {g : JFrame} (hg : g.method = m) (hsize : g.locals.size = c.maxLocals) {argsL rest : List Value} (hlen : ∀ sig, parseMethodDescriptor y.desc = some sig → argsL.length = sig.parameters.length)
    (hstack : g.stack = argsL.reverse ++ rest) (hW : 2 * g.monitorRoom + (rest.map fun v => v.category).sum ≤ W9) (hdg : decode c.code g.pc = .ok (.invokestatic index, 3))
    (hpre : ∀ vm₁, s.WarmedH vm₁ → Pre ⟨T.setVm vm₁, locs, cells, slots⟩ argsL.toArray) :
    ∃ (v : Option Value) (vm₁ : Vm) (B : Pt), s.WarmedH vm₁ ∧ Stand p l e R s m args below meth c B.U B.locs B.cells B.slots ∧ Post ⟨T.setVm vm₁, locs, cells, slots⟩ argsL.toArray v B ∧
      ∀ target, Steps p.tables e below (B.U.setTop { g with pc := g.pc + 3, stack := v.toList ++ rest }) target → Steps p.tables e below (T.setTop g) target := by
  obtain ⟨mk, methM, cM, hnamed, hmethM, -, -, -, -, -, -, hsigM⟩ := Cond.codeWith_spec hcode
  have hstatic : methM.isStatic = true := Cond.static_spec hnamed hmethM hstat
  obtain ⟨kP, hkP, -⟩ := className_of_methodNamed hnamed
  have hinitP : kP.init = .initialized := Cond.initialized_spec (findClass_of_methodNamed hnamed) hkP hinit
  obtain ⟨vm₁, X₁, hstep₁⟩ := X.invokestatic hexec hown hlink hnamed hmethM hstatic hkP hinitP hy (g := g) hg (argsL := argsL) (rest := rest) (hlen _ hsigM) hstack hdg
  obtain ⟨v, B, X', hpost, hsteps⟩ := hK m meth c ⟨T.setVm vm₁, locs, cells, slots⟩ { g with stack := rest } (.invokestatic index) mk argsL.toArray X₁ hg hsize hdg hW (X₁.named hnamed) (hpre vm₁ X₁.warmed)
  exact ⟨v, vm₁, B, X₁.warmed, X', hpost, fun target h => hstep₁ _ fun acts => by rw [doInvoke_state]; exact hsteps.trans h⟩
theorem vx_runSW {y : MethodName} {bytes cc : ByteArray} {maxL nL mc ms n index : Nat} {ret : Option FieldType} {hh : List (Nat × Nat × Nat × Nat)} {ws : List Cond} {rm : Room} {Pc : Array Value → State → Prop} {Qc : Array Value → State → Outcome → State → Prop} {free : Addr → Prop} {Ts : List Cond} {own : String} {As rest : List Value} {g : JFrame}
    (S : CallFix p m c cc nL s args Ts own) (hM : Met l y ws rm Pc Qc mc ms free) (cw : vx_CSW R s args own index y bytes maxL ret hh ws rm mc ms n) (hp : PreS s H Pc As)
    (hg : g.method = m) (hn : As.length = n) (hsize : g.locals.size = nL) (hstack : g.stack = As.reverse ++ rest) (hW : 2 * g.monitorRoom + (rest.map fun v => v.category).sum ≤ 8) (hdg : decode cc g.pc = .ok (.invokestatic index, 3)) (hf : cells + mc ≤ R.cells ∧ slots + ms ≤ R.slots) :
    va_Run p l e R s m args below meth c H locs cells slots mc ms g rest (Qc As.toArray) (free) := by
  obtain ⟨⟨hrc, hrs, hfr, hlo, hws, hcw⟩, hcode, hini, hy, hlen, hl, hstt⟩ := cw
  have hK : Back l R p e below s args y 3 8 (PreOf R mc ms Pc) (PostOf Qc mc ms free) := va_backW (hh := hh) (bytes := bytes) (maxL := maxL) (ret := ret) hM hp.1 hrc hrs hfr hlo hws hcw (fun a' U hW => word_at hW (Or.inl (by first | rfl | simp [Cond.onTables, Cond.keeps, Cond.steady])) hini)
  obtain ⟨hx, hb, hml, ho, -⟩ := S
  intro T hT X
  obtain ⟨v, vm₁, ⟨U', l2, c2, s2⟩, hW₁, X', ⟨g', mk, t, L, e1, e2, hq, h1, hL, h2, h3⟩, st⟩ := vx_callSW X hx (hh := hh) (bytes := bytes) (maxL := maxL) (ret := ret) ho hl hstt hini hcode hy hK hg (hsize.trans hml.symm) (argsL := As) (rest := rest) (fun sig h => hn.trans (hlen sig h)) hstack hW (by rw [hb]; exact hdg)
    (fun vm₁ hW₁ => ⟨hf.1, hf.2, hp.2 (T.setVm vm₁) hT hW₁⟩)
  dsimp only [Pt.U, Pt.locs, Pt.cells, Pt.slots] at X' e1 e2 h1 h2 h3 st
  subst h1; subst h2; subst h3
  exact ⟨v, (T.setVm vm₁).calling g' mk As.toArray, t, U', L, hT, X', hL, e1, e2, hq, st⟩
/-- not caught here, past rows that name other classes: it goes on to the caller -/
theorem vx_outP {p : Program} {l : Launch} {e : Env} {R : Room} {s : State} {m : MethodId} {args : Array Value} {below : List Frame} {meth : Method} {c : Code} {H : Heap} {locs : List Loc} {cells slots : Nat} {free : Addr → Prop} {ls : Array Slot} {rest : List Value} {Qc : Array Value → State → Outcome → State → Prop} {XC : String → State → State → Prop}
    {pc : Nat} {own E : String} {ce : Cell} {q : Addr} {mc ms : Nat} (hown : s.vm.findClass own = some m.cls) (hlocks : meth.locks = false)
    (hpass : ∀ z ∈ c.exceptionTable.toList, covers z pc = false ∨ (z.catchType ≠ 0 ∧ ∃ nm : String, (Cond.classLink own z.catchType nm).before args s = true ∧ va_Nc E nm s)) (hcell : H[q]? = some ce) (hv : ce.vm = .none) (hcl : s.vm.findClass E = some ce.cls)
    (hx : ∀ t : State, t.heap = H → s.vm.Alike t.vm → XC E s t) (hf : ∀ z ∈ locs, free z.base) (hc : cells ≤ mc) (hs : slots ≤ ms) :
    vx_W p l e R s m args below meth c H locs cells slots (vx_MQ below Qc XC args s mc ms free) (F0 m pc ls rest) q := by
  intro T hT X
  have hpl : e.platform.magicAccessors = ({} : Platform).magicAccessors := by rw [X.admits.platform]
  obtain ⟨vm', hW', X', st⟩ := X.outThrough hlocks q (g := F0 m pc ls rest) rfl rfl rfl (cell := ce) (by rw [hT]; exact hcell) (by rw [hv]; rfl)
    (by obtain ⟨k9, h9, -⟩ := Vm.findClass_spec hcl; exact ⟨k9, h9⟩) (fun z hz => by
      rcases hpass z hz with h | ⟨hz0, nm, hl1, hn1⟩
      · exact Or.inl h
      · obtain ⟨c6, hc6, hcl6⟩ := Cond.classLink_spec hown hl1 e.platform hpl
        obtain ⟨a8, b8, h1, h2, h3⟩ := hn1
        cases Option.some.inj (h1.symm.trans hcl)
        cases Option.some.inj (h2.symm.trans hc6)
        exact Or.inr ⟨hz0, _, hcl6, h3⟩)
  obtain ⟨g₀, hfr⟩ := X'.frames_eq
  have hcell9 : ((T.setVm vm').setFrames (.throwing q :: below)).heap[q]? = some ce := by
    show T.heap[q]? = some ce
    rw [hT]; exact hcell
  have hend : Ended ((T.setVm vm').setFrames (.throwing q :: below)) below (.threw q) := State.frames_setFrames _ (State.cur_lt_of_frames hfr)
  refine ⟨(T.setVm vm').setFrames (.throwing q :: below), ?_, .threw q, X'.here.running, hend, Or.inr ⟨q, rfl, E, ce, locs, hx _ hT (X'.ends _).1.alike, hcell9, hv, hcl, (X'.ends _).1, (X'.ends _).2.mono hc hs, hf⟩⟩
  rw [X.pushThrowing_eq]
  exact st
/-- a thing of a world lies in the heap -/
theorem vx_lt {D : va_G} {cl : List vw_C} {ws : va_W} {H1 : Heap} (h : va_P D cl ws H1) {k : Nat} {q : Nat × va_E} (hk : ws[k]? = some q) : q.1 < H1.size := (h k q hk).lt
end VXS
/-! ===== END ===== -/
/-! ===== BEGIN methods with a table of their own: called by a name, returning or throwing ===== -/
section VXH
/-! vx_backW, vx_callVX, vx_callSX, vx_callVW, vx_runVW, vx_runVX, vx_runSX, vx_ofWH follow the same proofs as their sisters above (Free/Laws.lean, Shelf42/LK1.lean); vx_outP calls Shelf42/NT130.lean (outThrough). -/
section
variable {l : Launch} {R : Room} {p : Program} {e : Env} {below : List Frame} {s : State} {sargs : Array Value} {y : MethodName} {len W9 : Nat}
theorem vx_backW {ws : List Cond} {rm : Room} {Pc : Array Value → State → Prop} {Qc : Array Value → State → Outcome → State → Prop} {XC : String → State → State → Prop} {mc ms : Nat} {free : Addr → Prop} {bytes : ByteArray} {maxL : Nat} {ret : Option FieldType} {hh : List (Nat × Nat × Nat × Nat)}
    (hM : vx_Met l y ws rm Pc Qc XC mc ms free) (hblind : FrameBlind Pc) (hrc : rm.cells = mc) (hrs : rm.slots = ms)
    (hframes : rm.frames + 1 ≤ R.frames) (hlocals : W9 + (maxL + 11) + rm.locals ≤ R.locals)
    (hws : ∀ w ∈ ws, ∀ a' U, s.WarmedH U.vm → w.before a' U = true) (hcode : Cond.codeWith y bytes maxL ret hh ∈ ws) (hinit : ∀ a' U, s.WarmedH U.vm → (Cond.initialized y.cls).before a' U = true) :
    vx_Back l R p e below s sargs y len W9 (PreOf R mc ms Pc) (PostOf Qc mc ms free) (vx_Post XC mc ms free) := by
  intro m meth c A g ig mk a X hg hsize hdg hW hn hp
  have h1 : (headSpec ws rm).pre.before a A.U = true := atoms_intro fun w hw => hws w hw _ _ X.warmed
  have h2 : (Cond.codeWith y bytes maxL ret hh).before a A.U = true := hws _ hcode _ _ X.warmed
  have h3 : (Cond.initialized y.cls).before a A.U = true := hinit _ _ X.warmed
  have h4 : A.cells + (headSpec ws rm).room.cells ≤ R.cells := by rw [show (headSpec ws rm).room.cells = mc from hrc]; exact hp.1
  have h5 : A.slots + (headSpec ws rm).room.slots ≤ R.slots := by rw [show (headSpec ws rm).room.slots = ms from hrs]; exact hp.2.1
  have hPc : Pc a (A.U.calling g mk a) := hblind _ _ _ _ hp.2.2
  obtain ⟨U, Ls, c0, s0⟩ := A
  dsimp only [Pt.U, Pt.locs, Pt.cells, Pt.slots] at h1 h2 h3 h4 h5 X hn hPc ⊢
  obtain ⟨m9, methY, cY, hn9, hmY, hcY, -, hlY, -⟩ := Cond.codeWith_spec h2
  cases Option.some.inj (hn9.symm.trans hn)
  obtain ⟨kY, hkY, -⟩ := className_of_methodNamed hn
  have hinitY : kY.init = .initialized := Cond.initialized_spec (findClass_of_methodNamed hn) hkY h3
  have h : At U g.method c below := by rw [hg]; exact X.here
  have hlocals9 : W9 + (maxL + 11) + (headSpec ws rm).room.locals ≤ R.locals := hlocals
  have happ : (headSpec ws rm).appliesLoose y e.platform (U.calling g mk a) = true :=
    Spec.appliesLoose_calling (g := g) h hdg hn hkY hinitY
      (X.room_calling (g := g) (R' := (headSpec ws rm).room) hsize hmY hcY hframes (by rw [hlY]; omega) h4 h5) h1
  obtain ⟨mid, hmid⟩ := h.above
  have hfr : (U.setTop g).frames = (.java g :: mid) ++ below := by rw [State.frames_setTop' g h.top, hmid]; rfl
  obtain ⟨o, s₂, hsteps, -, hend, hq⟩ := Steps.callFree hM p X.admits X.cas X.clock (acts := []) hfr happ hPc trivial
  have hq' : vx_Q Qc XC mc ms free a (U.calling g mk a) o s₂ := hq
  rw [State.frames_setTop' g h.top] at hend
  obtain ⟨g₀, hg0⟩ := Option.isSome_iff_exists.mp h.top
  obtain ⟨r, hr⟩ := State.topJava?_eq_some.mp hg0
  have hr' : (({ U with heap := s₂.heap, slotsUsed := s₂.slotsUsed } : State).setVm s₂.vm).frames = .java g₀ :: r := hr
  rcases hq' with ⟨hqc, L, hfe, hL⟩ | ⟨q, rfl, E, ce, L, hx, hce, hcv, hcl, hW₂, hsm, hL⟩
  · obtain ⟨⟨v, rfl⟩, hW₂, e2, q2, q3, q4, q5, q6⟩ := id hfe
    have e3 : s₂ = ({ (U.calling g mk a).setFrames s₂.frames with heap := s₂.heap, slotsUsed := s₂.slotsUsed } : State).setVm s₂.vm := by
      have : s₂ = ({ s₂ with vm := (U.calling g mk a).vm } : State).setVm s₂.vm := rfl
      rw [e2] at this
      exact this
    obtain ⟨c₂, i₂, len₂, hc₂, hd₂, hf₂⟩ := hend
    have hW' : U.WarmedH s₂.vm := hW₂
    have hcc : c₂ = c := by
      have h1 : s₂.code? g.method = U.code? g.method := by
        rw [State.code?_eq, State.code?_eq, hW'.alike.method?]
      exact Option.some.inj (hc₂.symm.trans (h1.trans h.code))
    subst hcc
    have hlen : len₂ = len := by rw [hdg] at hd₂; cases hd₂; rfl
    subst hlen
    have hs₂ : s₂ = (({ U with heap := s₂.heap, slotsUsed := s₂.slotsUsed } : State).setVm s₂.vm).setTop { g with pc := g.pc + len₂, stack := v.toList ++ g.stack } := by
      refine e3.trans ?_
      rw [hf₂, State.calling_eq h.top, State.setFrames_setFrames, State.setTop_of_frames _ hr', hr]
      rfl
    have hsame : U.sameButNew ({ U with heap := s₂.heap, slotsUsed := s₂.slotsUsed } : State) L mc ms := by
      refine ⟨?_, q2, q3, q4, q5, q6⟩
      obtain ⟨t, ht, -⟩ := State.frames_cons hr
      show ({ U with heap := s₂.heap, slotsUsed := s₂.slotsUsed } : State) = { U.setFrames U.frames with heap := s₂.heap, slotsUsed := s₂.slotsUsed }
      rw [State.setFrames_self ht]
    subst hg
    refine Or.inl ⟨v, ⟨(({ U with heap := s₂.heap, slotsUsed := s₂.slotsUsed } : State).setVm s₂.vm), Ls ++ L, c0 + mc, s0 + ms⟩,
      ⟨X.admits, X.cas, X.clock, X.frames, X.room, X.hears, X.method, X.code, (X.here.setHeapUsed s₂.heap s₂.slotsUsed).setVm hW'.alike, X.tail, State.WarmedH.trans X.warmed hW', X.limits, X.bytes, X.same.trans (hsame.setVm s.vm)⟩,
      ⟨g, mk, s₂, L, rfl, rfl, hqc, rfl, hL, rfl, rfl⟩, ?_⟩
    show Steps p.tables e below _ ((({ U with heap := s₂.heap, slotsUsed := s₂.slotsUsed } : State).setVm s₂.vm).setTop { g with pc := g.pc + len₂, stack := v.toList ++ g.stack })
    rw [← hs₂]
    exact hsteps
  · obtain ⟨e2, q2, q3, q4, q5, q6⟩ := id hsm
    have e3 : s₂ = ({ (U.calling g mk a).setFrames s₂.frames with heap := s₂.heap, slotsUsed := s₂.slotsUsed } : State).setVm s₂.vm := by
      have : s₂ = ({ s₂ with vm := (U.calling g mk a).vm } : State).setVm s₂.vm := rfl
      rw [e2] at this
      exact this
    have hf₂ : s₂.frames = .throwing q :: .java g :: U.frames.tail := hend
    have hW' : U.WarmedH s₂.vm := hW₂
    have hs₂ : s₂ = ((({ U with heap := s₂.heap, slotsUsed := s₂.slotsUsed } : State).setVm s₂.vm).setTop g).pushFrame (.throwing q) := by
      refine e3.trans ?_
      rw [hf₂, State.calling_eq h.top, State.setFrames_setFrames, State.pushFrame, State.frames_setTop _ hr', State.setTop_of_frames _ hr', State.setFrames_setFrames, hr]
      rfl
    have hsame : U.sameButNew ({ U with heap := s₂.heap, slotsUsed := s₂.slotsUsed } : State) L mc ms := by
      refine ⟨?_, q2, q3, q4, q5, q6⟩
      obtain ⟨t, ht, -⟩ := State.frames_cons hr
      show ({ U with heap := s₂.heap, slotsUsed := s₂.slotsUsed } : State) = { U.setFrames U.frames with heap := s₂.heap, slotsUsed := s₂.slotsUsed }
      rw [State.setFrames_self ht]
    subst hg
    refine Or.inr ⟨q, ⟨(({ U with heap := s₂.heap, slotsUsed := s₂.slotsUsed } : State).setVm s₂.vm), Ls ++ L, c0 + mc, s0 + ms⟩,
      ⟨X.admits, X.cas, X.clock, X.frames, X.room, X.hears, X.method, X.code, (X.here.setHeapUsed s₂.heap s₂.slotsUsed).setVm hW'.alike, X.tail, State.WarmedH.trans X.warmed hW', X.limits, X.bytes, X.same.trans (hsame.setVm s.vm)⟩,
      ⟨g, mk, s₂, L, E, ce, rfl, rfl, hx, hce, hcv, hcl, rfl, hL, rfl, rfl⟩, ?_⟩
    show Steps p.tables e below _ (((({ U with heap := s₂.heap, slotsUsed := s₂.slotsUsed } : State).setVm s₂.vm).setTop g).pushFrame (.throwing q))
    rw [← hs₂]
    exact hsteps
end
variable {p : Program} {l : Launch} {e : Env} {R : Room} {s : State} {m : MethodId} {args : Array Value} {below : List Frame} {meth : Method} {c : Code} {T : State} {H : Heap} {locs : List Loc} {cells slots : Nat}
theorem vx_callVX (X : Stand p l e R s m args below meth c T locs cells slots) (hexec : p.tables.exec = Jvm.exec) {own C : String} {index : Nat} {y : MethodName} {bytes : ByteArray} {maxL : Nat} {ret : Option FieldType} {hh : List (Nat × Nat × Nat × Nat)}
    (hown : s.vm.findClass own = some m.cls) (hlink : (Cond.methodLink own index y).before args s = true) (hinst : (Cond.instanceMethod y).before args s = true) (hsel : (Cond.selects C y y).before args s = true)
    (hcode : (Cond.codeWith y bytes maxL ret hh).before args s = true) (hy : y.cls ≠ "java/lang/invoke/MethodHandle" ∧ y.cls ≠ "java/lang/invoke/VarHandle")
    {W9 : Nat} {Pre : Pt → Array Value → Prop} {Post : Pt → Array Value → Option Value → Pt → Prop} {PostX : Pt → Array Value → Addr → Pt → Prop} (hK : vx_Back l R p e below s args y 3 W9 Pre Post PostX)
    {b : Addr} {cellB : Cell} (hcell : T.heap[b]? = some cellB) (hobj : cellB.vm.isStatics = false) (hcls : s.vm.findClass C = some cellB.cls)
    {g : JFrame} (hg : g.method = m) (hsize : g.locals.size = c.maxLocals) {argsL rest : List Value} (hlen : ∀ sig, parseMethodDescriptor y.desc = some sig → argsL.length = sig.parameters.length)
    (hstack : g.stack = argsL.reverse ++ .ref b :: rest) (hW : 2 * g.monitorRoom + (rest.map fun v => v.category).sum ≤ W9) (hdg : decode c.code g.pc = .ok (.invokevirtual index, 3))
    (hpre : ∀ vm₁, s.WarmedH vm₁ → Pre ⟨T.setVm vm₁, locs, cells, slots⟩ (Value.ref b :: argsL).toArray) :
    (∃ (v : Option Value) (vm₁ : Vm) (B : Pt), s.WarmedH vm₁ ∧ Stand p l e R s m args below meth c B.U B.locs B.cells B.slots ∧ Post ⟨T.setVm vm₁, locs, cells, slots⟩ (Value.ref b :: argsL).toArray v B ∧
      ∀ target, Steps p.tables e below (B.U.setTop { g with pc := g.pc + 3, stack := v.toList ++ rest }) target → Steps p.tables e below (T.setTop g) target) ∨
    (∃ (q : Addr) (vm₁ : Vm) (B : Pt), s.WarmedH vm₁ ∧ Stand p l e R s m args below meth c B.U B.locs B.cells B.slots ∧ PostX ⟨T.setVm vm₁, locs, cells, slots⟩ (Value.ref b :: argsL).toArray q B ∧
      Steps p.tables e below (T.setTop g) ((B.U.setTop { g with stack := rest }).pushFrame (.throwing q))) := by
  obtain ⟨mk, methM, hnamed, hmethM, hstM, habM⟩ := Cond.instanceMethod_spec hinst
  obtain ⟨m8, methM', cM, hn8, hmethM', -, -, -, -, -, -, hsigM⟩ := Cond.codeWith_spec hcode
  cases Option.some.inj (hn8.symm.trans hnamed)
  cases hmethM.symm.trans hmethM'
  obtain ⟨c2, r2, m2, q1, q2, q3, q4, kP, hkP, hkPi⟩ := Cond.selects_spec hsel
  cases hcls.symm.trans q1
  cases (State.methodFound?_of_named hnamed hy).symm.trans q2
  cases hnamed.symm.trans q3
  have hselP : selectMethod e.platform s.vm cellB.cls mk = .method mk := by rw [Launch.admits_selectMethod X.admits]; exact q4
  obtain ⟨vm₁, X₁, hstep₁⟩ := X.invokevirtual hexec hown hlink hnamed hmethM hstM hkP hkPi hy (a := b) (cell := cellB) hcell
    (fun z h => by rw [h] at hobj; cases hobj) hselP hmethM habM hkP hkPi (g := g) hg (argsL := argsL) (rest := rest) (hlen _ hsigM) hstack hdg
  rcases hK m meth c ⟨T.setVm vm₁, locs, cells, slots⟩ { g with stack := rest } (.invokevirtual index) mk (Value.ref b :: argsL).toArray X₁ hg hsize hdg hW (X₁.named hnamed) (hpre vm₁ X₁.warmed) with ⟨v, B, X', hpost, hsteps⟩ | ⟨q, B, X', hpost, hsteps⟩
  · exact Or.inl ⟨v, vm₁, B, X₁.warmed, X', hpost, fun target h => hstep₁ _ fun acts => by rw [doInvoke_state]; exact hsteps.trans h⟩
  · exact Or.inr ⟨q, vm₁, B, X₁.warmed, X', hpost, hstep₁ _ fun acts => by rw [doInvoke_state]; exact hsteps⟩
theorem vx_callSX (X : Stand p l e R s m args below meth c T locs cells slots) (hexec : p.tables.exec = Jvm.exec) {own : String} {index : Nat} {y : MethodName} {bytes : ByteArray} {maxL : Nat} {ret : Option FieldType} {hh : List (Nat × Nat × Nat × Nat)}
    (hown : s.vm.findClass own = some m.cls) (hlink : (Cond.methodLink own index y).before args s = true) (hstat : (Cond.static y).before args s = true) (hinit : (Cond.initialized y.cls).before args s = true)
    (hcode : (Cond.codeWith y bytes maxL ret hh).before args s = true) (hy : y.cls ≠ "java/lang/invoke/MethodHandle" ∧ y.cls ≠ "java/lang/invoke/VarHandle")
    {W9 : Nat} {Pre : Pt → Array Value → Prop} {Post : Pt → Array Value → Option Value → Pt → Prop} {PostX : Pt → Array Value → Addr → Pt → Prop} (hK : vx_Back l R p e below s args y 3 W9 Pre Post PostX)
    {g : JFrame} (hg : g.method = m) (hsize : g.locals.size = c.maxLocals) {argsL rest : List Value} (hlen : ∀ sig, parseMethodDescriptor y.desc = some sig → argsL.length = sig.parameters.length)
    (hstack : g.stack = argsL.reverse ++ rest) (hW : 2 * g.monitorRoom + (rest.map fun v => v.category).sum ≤ W9) (hdg : decode c.code g.pc = .ok (.invokestatic index, 3))
    (hpre : ∀ vm₁, s.WarmedH vm₁ → Pre ⟨T.setVm vm₁, locs, cells, slots⟩ argsL.toArray) :
    (∃ (v : Option Value) (vm₁ : Vm) (B : Pt), s.WarmedH vm₁ ∧ Stand p l e R s m args below meth c B.U B.locs B.cells B.slots ∧ Post ⟨T.setVm vm₁, locs, cells, slots⟩ argsL.toArray v B ∧
      ∀ target, Steps p.tables e below (B.U.setTop { g with pc := g.pc + 3, stack := v.toList ++ rest }) target → Steps p.tables e below (T.setTop g) target) ∨
    (∃ (q : Addr) (vm₁ : Vm) (B : Pt), s.WarmedH vm₁ ∧ Stand p l e R s m args below meth c B.U B.locs B.cells B.slots ∧ PostX ⟨T.setVm vm₁, locs, cells, slots⟩ argsL.toArray q B ∧
      Steps p.tables e below (T.setTop g) ((B.U.setTop { g with stack := rest }).pushFrame (.throwing q))) := by
  obtain ⟨mk, methM, cM, hnamed, hmethM, -, -, -, -, -, -, hsigM⟩ := Cond.codeWith_spec hcode
  have hstatic : methM.isStatic = true := Cond.static_spec hnamed hmethM hstat
  obtain ⟨kP, hkP, -⟩ := className_of_methodNamed hnamed
  have hinitP : kP.init = .initialized := Cond.initialized_spec (findClass_of_methodNamed hnamed) hkP hinit
  obtain ⟨vm₁, X₁, hstep₁⟩ := X.invokestatic hexec hown hlink hnamed hmethM hstatic hkP hinitP hy (g := g) hg (argsL := argsL) (rest := rest) (hlen _ hsigM) hstack hdg
  rcases hK m meth c ⟨T.setVm vm₁, locs, cells, slots⟩ { g with stack := rest } (.invokestatic index) mk argsL.toArray X₁ hg hsize hdg hW (X₁.named hnamed) (hpre vm₁ X₁.warmed) with ⟨v, B, X', hpost, hsteps⟩ | ⟨q, B, X', hpost, hsteps⟩
  · exact Or.inl ⟨v, vm₁, B, X₁.warmed, X', hpost, fun target h => hstep₁ _ fun acts => by rw [doInvoke_state]; exact hsteps.trans h⟩
  · exact Or.inr ⟨q, vm₁, B, X₁.warmed, X', hpost, hstep₁ _ fun acts => by rw [doInvoke_state]; exact hsteps⟩
theorem vx_callVW (X : Stand p l e R s m args below meth c T locs cells slots) (hexec : p.tables.exec = Jvm.exec) {own C : String} {index : Nat} {y : MethodName} {bytes : ByteArray} {maxL : Nat} {ret : Option FieldType} {hh : List (Nat × Nat × Nat × Nat)}
    (hown : s.vm.findClass own = some m.cls) (hlink : (Cond.methodLink own index y).before args s = true) (hinst : (Cond.instanceMethod y).before args s = true) (hsel : (Cond.selects C y y).before args s = true)
    (hcode : (Cond.codeWith y bytes maxL ret hh).before args s = true) (hy : y.cls ≠ "java/lang/invoke/MethodHandle" ∧ y.cls ≠ "java/lang/invoke/VarHandle")
    {W9 : Nat} {Pre : Pt → Array Value → Prop} {Post : Pt → Array Value → Option Value → Pt → Prop} (hK : Back l R p e below s args y 3 W9 Pre Post)
    {b : Addr} {cellB : Cell} (hcell : T.heap[b]? = some cellB) (hobj : cellB.vm.isStatics = false) (hcls : s.vm.findClass C = some cellB.cls)
    {g : JFrame} (hg : g.method = m) (hsize : g.locals.size = c.maxLocals) {argsL rest : List Value} (hlen : ∀ sig, parseMethodDescriptor y.desc = some sig → argsL.length = sig.parameters.length)
    (hstack : g.stack = argsL.reverse ++ .ref b :: rest) (hW : 2 * g.monitorRoom + (rest.map fun v => v.category).sum ≤ W9) (hdg : decode c.code g.pc = .ok (.invokevirtual index, 3))
    (hpre : ∀ vm₁, s.WarmedH vm₁ → Pre ⟨T.setVm vm₁, locs, cells, slots⟩ (Value.ref b :: argsL).toArray) :
    ∃ (v : Option Value) (vm₁ : Vm) (B : Pt), s.WarmedH vm₁ ∧ Stand p l e R s m args below meth c B.U B.locs B.cells B.slots ∧ Post ⟨T.setVm vm₁, locs, cells, slots⟩ (Value.ref b :: argsL).toArray v B ∧
      ∀ target, Steps p.tables e below (B.U.setTop { g with pc := g.pc + 3, stack := v.toList ++ rest }) target → Steps p.tables e below (T.setTop g) target := by
  obtain ⟨mk, methM, hnamed, hmethM, hstM, habM⟩ := Cond.instanceMethod_spec hinst
  obtain ⟨m8, methM', cM, hn8, hmethM', -, -, -, -, -, -, hsigM⟩ := Cond.codeWith_spec hcode
  cases Option.some.inj (hn8.symm.trans hnamed)
  cases hmethM.symm.trans hmethM'
  obtain ⟨c2, r2, m2, q1, q2, q3, q4, kP, hkP, hkPi⟩ := Cond.selects_spec hsel
  cases hcls.symm.trans q1
  cases (State.methodFound?_of_named hnamed hy).symm.trans q2
  cases hnamed.symm.trans q3
  have hselP : selectMethod e.platform s.vm cellB.cls mk = .method mk := by rw [Launch.admits_selectMethod X.admits]; exact q4
  obtain ⟨vm₁, X₁, hstep₁⟩ := X.invokevirtual hexec hown hlink hnamed hmethM hstM hkP hkPi hy (a := b) (cell := cellB) hcell
    (fun z h => by rw [h] at hobj; cases hobj) hselP hmethM habM hkP hkPi (g := g) hg (argsL := argsL) (rest := rest) (hlen _ hsigM) hstack hdg
  obtain ⟨v, B, X', hpost, hsteps⟩ := hK m meth c ⟨T.setVm vm₁, locs, cells, slots⟩ { g with stack := rest } (.invokevirtual index) mk (Value.ref b :: argsL).toArray X₁ hg hsize hdg hW (X₁.named hnamed) (hpre vm₁ X₁.warmed)
  exact ⟨v, vm₁, B, X₁.warmed, X', hpost, fun target h => hstep₁ _ fun acts => by rw [doInvoke_state]; exact hsteps.trans h⟩
abbrev vx_CVW (R : Room) (s : State) (args : Array Value) (own C : String) (index : Nat) (y : MethodName) (bytes : ByteArray) (maxL : Nat) (ret : Option FieldType) (hh : List (Nat × Nat × Nat × Nat)) (ws : List Cond) (rm : Room) (mc ms n : Nat) : Prop :=
  (rm.cells = mc ∧ rm.slots = ms ∧ rm.frames + 1 ≤ R.frames ∧ 8 + (maxL + 11) + rm.locals ≤ R.locals ∧ (∀ w ∈ ws, ∀ (a' : Array Value) (U : State), s.WarmedH U.vm → w.before a' U = true) ∧ Cond.codeWith y bytes maxL ret hh ∈ ws) ∧
  (Cond.codeWith y bytes maxL ret hh).before args s = true ∧ (Cond.initialized y.cls).before args s = true ∧ (y.cls ≠ "java/lang/invoke/MethodHandle" ∧ y.cls ≠ "java/lang/invoke/VarHandle") ∧
  (∀ sig, parseMethodDescriptor y.desc = some sig → n = sig.parameters.length) ∧ (Cond.methodLink own index y).before args s = true ∧ (Cond.instanceMethod y).before args s = true ∧ (Cond.selects C y y).before args s = true
theorem vx_cwVW {own C : String} {index maxL mc ms : Nat} {y : MethodName} {bytes : ByteArray} {ret : Option FieldType} {hh : List (Nat × Nat × Nat × Nat)} {Ts ws ws' : List Cond} {rm : Room} (n : Nat) (ht : ∀ w ∈ Ts, w.before args s = true) (hT : GoodIn Ts (wsV own index C y ws)) (hw : ws = Cond.codeWith y bytes maxL ret hh :: ws') (hrc : rm.cells = mc) (hrs : rm.slots = ms)
    (hd : y.cls = C ∧ y.cls ≠ "java/lang/invoke/MethodHandle" ∧ y.cls ≠ "java/lang/invoke/VarHandle" ∧ (parseMethodDescriptor y.desc).map (fun d => d.parameters.length) = some n) (hR : rm.frames + 1 ≤ R.frames ∧ 8 + (maxL + 11) + rm.locals ≤ R.locals) :
    vx_CVW R s args own C index y bytes maxL ret hh ws rm mc ms n := by
  obtain ⟨hC, hd⟩ := hd
  subst hC
  have ok : ∀ w ∈ wsV own index y.cls y ws, w.before args s = true := fun w h => ht w (hT w h).1
  have hG : GoodIn Ts ws := fun w h => hT w (by unfold wsV; exact List.mem_append_right _ h)
  have hc : Cond.codeWith y bytes maxL ret hh ∈ ws := by rw [hw]; exact List.mem_cons_self
  refine ⟨⟨hrc, hrs, hR.1, hR.2, pay_in ht hG, hc⟩, ht _ (hG _ hc).1, ok _ (by simp [wsV]), ⟨hd.1, hd.2.1⟩, fun sig h => ?_, ok _ (by simp [wsV]), ok _ (by simp [wsV]), ok _ (by simp [wsV])⟩
  have h2 := hd.2.2
  rw [h] at h2
  exact (Option.some.inj h2).symm
theorem vx_runVW {y : MethodName} {bytes cc : ByteArray} {maxL nL mc ms n index : Nat} {ret : Option FieldType} {hh : List (Nat × Nat × Nat × Nat)} {ws : List Cond} {rm : Room} {Pc : Array Value → State → Prop} {Qc : Array Value → State → Outcome → State → Prop} {free : Addr → Prop} {Ts : List Cond} {own C : String} {b : Addr} {As rest : List Value} {g : JFrame}
    (S : CallFix p m c cc nL s args Ts own) (hM : Met l y ws rm Pc Qc mc ms free) (cw : vx_CVW R s args own C index y bytes maxL ret hh ws rm mc ms n) (hp : PreV s H C b Pc As)
    (hg : g.method = m) (hn : As.length = n) (hsize : g.locals.size = nL) (hstack : g.stack = As.reverse ++ .ref b :: rest) (hW : 2 * g.monitorRoom + (rest.map fun v => v.category).sum ≤ 8) (hdg : decode cc g.pc = .ok (.invokevirtual index, 3)) (hf : cells + mc ≤ R.cells ∧ slots + ms ≤ R.slots) :
    va_Run p l e R s m args below meth c H locs cells slots mc ms g rest (Qc (Value.ref b :: As).toArray) free := by
  obtain ⟨⟨hrc, hrs, hfr, hlo, hws, hcw⟩, hcode, hini, hy, hlen, hl, hin, hse⟩ := cw
  have hK : Back l R p e below s args y 3 8 (PreOf R mc ms Pc) (PostOf Qc mc ms free) := va_backW (hh := hh) (bytes := bytes) (maxL := maxL) (ret := ret) hM hp.1 hrc hrs hfr hlo hws hcw (fun a' U hW => word_at hW (Or.inl (by first | rfl | simp [Cond.onTables, Cond.keeps, Cond.steady])) hini)
  obtain ⟨hx, hb, hml, ho, -⟩ := S
  obtain ⟨-, ⟨cellB, hcB, hoB, hclB⟩, hPc⟩ := hp
  intro T hT X
  obtain ⟨v, vm₁, ⟨U', l2, c2, s2⟩, hW₁, X', ⟨g', mk, t, L, e1, e2, hq, h1, hL, h2, h3⟩, st⟩ := vx_callVW X hx (C := C) (hh := hh) (bytes := bytes) (maxL := maxL) (ret := ret) ho hl hin hse hcode hy hK (by rw [hT]; exact hcB) hoB hclB hg (hsize.trans hml.symm) (argsL := As) (rest := rest) (fun sig h => hn.trans (hlen sig h)) hstack hW (by rw [hb]; exact hdg)
    (fun vm₁ hW₁ => ⟨hf.1, hf.2, hPc (T.setVm vm₁) hT hW₁⟩)
  dsimp only [Pt.U, Pt.locs, Pt.cells, Pt.slots] at X' e1 e2 h1 h2 h3 st
  subst h1; subst h2; subst h3
  exact ⟨v, (T.setVm vm₁).calling g' mk (Value.ref b :: As).toArray, t, U', L, hT, X', hL, e1, e2, hq, st⟩
section
variable {y : MethodName} {bytes cc : ByteArray} {maxL nL mc ms n index : Nat} {ret : Option FieldType} {ws : List Cond} {rm : Room} {Pc : Array Value → State → Prop} {Qc : Array Value → State → Outcome → State → Prop} {XC : String → State → State → Prop} {free : Addr → Prop} {Ts : List Cond} {own C : String} {b : Addr} {As rest : List Value} {g : JFrame}
theorem vx_runVX {hh : List (Nat × Nat × Nat × Nat)} (S : CallFix p m c cc nL s args Ts own) (hM : vx_Met l y ws rm Pc Qc XC mc ms free) (cw : vx_CVW R s args own C index y bytes maxL ret hh ws rm mc ms n) (hp : PreV s H C b Pc As)
    (hg : g.method = m) (hn : As.length = n) (hsize : g.locals.size = nL) (hstack : g.stack = As.reverse ++ .ref b :: rest) (hW : 2 * g.monitorRoom + (rest.map fun v => v.category).sum ≤ 8) (hdg : decode cc g.pc = .ok (.invokevirtual index, 3)) (hf : cells + mc ≤ R.cells ∧ slots + ms ≤ R.slots) :
    vx_Run p l e R s m args below meth c H locs cells slots mc ms g rest (Qc (Value.ref b :: As).toArray) XC free := by
  obtain ⟨⟨hrc, hrs, hfr, hlo, hws, hcw⟩, hcode, hini, hy, hlen, hl, hin, hse⟩ := cw
  have hK : vx_Back l R p e below s args y 3 8 (PreOf R mc ms Pc) (PostOf Qc mc ms free) (vx_Post XC mc ms free) := vx_backW (hh := hh) (bytes := bytes) (maxL := maxL) (ret := ret) hM hp.1 hrc hrs hfr hlo hws hcw (fun a' U hW => word_at hW (Or.inl (by first | rfl | simp [Cond.onTables, Cond.keeps, Cond.steady])) hini)
  obtain ⟨hx, hb, hml, ho, -⟩ := S
  obtain ⟨-, ⟨cellB, hcB, hoB, hclB⟩, hPc⟩ := hp
  intro T hT X
  rcases vx_callVX X hx (C := C) (hh := hh) (bytes := bytes) (maxL := maxL) (ret := ret) ho hl hin hse hcode hy hK (by rw [hT]; exact hcB) hoB hclB hg (hsize.trans hml.symm) (argsL := As) (rest := rest) (fun sig h => hn.trans (hlen sig h)) hstack hW (by rw [hb]; exact hdg)
    (fun vm₁ hW₁ => ⟨hf.1, hf.2, hPc (T.setVm vm₁) hT hW₁⟩) with ⟨v, vm₁, ⟨U', l2, c2, s2⟩, hW₁, X', ⟨g', mk, t, L, e1, e2, hq, h1, hL, h2, h3⟩, st⟩ | ⟨q, vm₁, ⟨U', l2, c2, s2⟩, hW₁, X', ⟨g', mk, t, L, E, ce, e1, e2, hq, hce, hcv, hcl, h1, hL, h2, h3⟩, st⟩
  · dsimp only [Pt.U, Pt.locs, Pt.cells, Pt.slots] at X' e1 e2 h1 h2 h3 st
    subst h1; subst h2; subst h3
    exact Or.inl ⟨v, (T.setVm vm₁).calling g' mk (Value.ref b :: As).toArray, t, U', L, hT, X', hL, e1, e2, hq, st⟩
  · dsimp only [Pt.U, Pt.locs, Pt.cells, Pt.slots] at X' e1 e2 h1 h2 h3 st hcl
    subst h1; subst h2; subst h3
    exact Or.inr ⟨q, (T.setVm vm₁).calling g' mk (Value.ref b :: As).toArray, t, U', L, E, ce, hT, X', hL, e1, e2, hq, hce, hcv, vx_cls hW₁ hcl, st⟩
theorem vx_runSX {hh : List (Nat × Nat × Nat × Nat)} (S : CallFix p m c cc nL s args Ts own) (hM : vx_Met l y ws rm Pc Qc XC mc ms free) (cw : vx_CSW R s args own index y bytes maxL ret hh ws rm mc ms n) (hp : PreS s H Pc As)
    (hg : g.method = m) (hn : As.length = n) (hsize : g.locals.size = nL) (hstack : g.stack = As.reverse ++ rest) (hW : 2 * g.monitorRoom + (rest.map fun v => v.category).sum ≤ 8) (hdg : decode cc g.pc = .ok (.invokestatic index, 3)) (hf : cells + mc ≤ R.cells ∧ slots + ms ≤ R.slots) :
    vx_Run p l e R s m args below meth c H locs cells slots mc ms g rest (Qc As.toArray) XC free := by
  obtain ⟨⟨hrc, hrs, hfr, hlo, hws, hcw⟩, hcode, hini, hy, hlen, hl, hstt⟩ := cw
  have hK : vx_Back l R p e below s args y 3 8 (PreOf R mc ms Pc) (PostOf Qc mc ms free) (vx_Post XC mc ms free) := vx_backW (hh := hh) (bytes := bytes) (maxL := maxL) (ret := ret) hM hp.1 hrc hrs hfr hlo hws hcw (fun a' U hW => word_at hW (Or.inl (by first | rfl | simp [Cond.onTables, Cond.keeps, Cond.steady])) hini)
  obtain ⟨hx, hb, hml, ho, -⟩ := S
  intro T hT X
  rcases vx_callSX X hx (hh := hh) (bytes := bytes) (maxL := maxL) (ret := ret) ho hl hstt hini hcode hy hK hg (hsize.trans hml.symm) (argsL := As) (rest := rest) (fun sig h => hn.trans (hlen sig h)) hstack hW (by rw [hb]; exact hdg)
    (fun vm₁ hW₁ => ⟨hf.1, hf.2, hp.2 (T.setVm vm₁) hT hW₁⟩) with ⟨v, vm₁, ⟨U', l2, c2, s2⟩, hW₁, X', ⟨g', mk, t, L, e1, e2, hq, h1, hL, h2, h3⟩, st⟩ | ⟨q, vm₁, ⟨U', l2, c2, s2⟩, hW₁, X', ⟨g', mk, t, L, E, ce, e1, e2, hq, hce, hcv, hcl, h1, hL, h2, h3⟩, st⟩
  · dsimp only [Pt.U, Pt.locs, Pt.cells, Pt.slots] at X' e1 e2 h1 h2 h3 st
    subst h1; subst h2; subst h3
    exact Or.inl ⟨v, (T.setVm vm₁).calling g' mk As.toArray, t, U', L, hT, X', hL, e1, e2, hq, st⟩
  · dsimp only [Pt.U, Pt.locs, Pt.cells, Pt.slots] at X' e1 e2 h1 h2 h3 st hcl
    subst h1; subst h2; subst h3
    exact Or.inr ⟨q, (T.setVm vm₁).calling g' mk As.toArray, t, U', L, E, ce, hT, X', hL, e1, e2, hq, hce, hcv, vx_cls hW₁ hcl, st⟩
end
end VXH
theorem vx_ofWH {l : Launch} {y : MethodName} {ws ws' : List Cond} {rm : Room} {Pc : Array Value → State → Prop} {Qc : Array Value → State → Outcome → State → Prop} {XC : String → State → State → Prop} {mc ms : Nat} {free : Addr → Prop} {cc : ByteArray} {maxL : Nat} {ret : Option FieldType} {hh : List (Nat × Nat × Nat × Nat)}
    (hy : plainName y.cls = true) (hw : ws = Cond.codeWith y cc maxL ret hh :: ws')
    (body : ∀ p e s m args below meth c s₁, BodyLoose p l y (headSpec ws rm) cc maxL ret e s m args below meth c s₁ → c.maxLocals = maxL → Pc args s →
      W p l e (headSpec ws rm).room s m args below meth c s.heap [] 0 0 (vx_MQ below Qc XC args s mc ms free) (entryFrame m args maxL)) : vx_Met l y ws rm Pc Qc XC mc ms free := by
  refine MetFree.of_bodyS (code := cc) (maxLocals := maxL) (ret := ret) hy ?_ ?_
  · intro args s m h hn
    obtain ⟨m9, meth, c, hn9, h1, h2, h3, h4, -, h5, h6, -⟩ := Cond.codeWith_spec (atoms_spec (ws := ws) h _ (by rw [hw]; exact List.mem_cons_self))
    cases hn.symm.trans hn9
    exact ⟨meth, c, h1, h2, h3, h4, h5, h6⟩
  · intro p e s m args below meth c s₁ B hml hP _
    have hh0 : s₁.heap = s.heap := by rw [B.state]; rfl
    obtain ⟨t, a1, o, b1, b2, b3⟩ := body p e s m args below meth c s₁ B hml hP s₁ hh0 (Stand.of_body B)
    exact ⟨t, o, a1, b1, b2, b3⟩
/-! ===== END ===== -/
/-! ===== BEGIN what the machine throws by itself, no traces kept ===== -/
section VXM
set_option maxHeartbeats 1000000 in
/-- the machine throws cls with the message text, no traces kept: from its note over the frame g to 'throwing' over the same frame (follows the proofs of Stand.vmThrowsMessage, Shelf/KitTracedVmS.lean, and Stand.throwsMessageColdBareV, StandMessageColdV.lean, without the step out of the frame) -/
theorem vx_vmAt {p : Program} {l : Launch} {e : Env} {R : Room} {s : State} {m₀ : MethodId} {args : Array Value} {below : List Frame} {meth : Method} {c : Code} {W : State} {locs : List Loc} {cells slots : Nat}
    (X : Stand p l e R s m₀ args below meth c W locs cells slots) (hexec : p.tables.exec = Jvm.exec) (htr : e.platform.stackTraces = false) {cls : String} {names : List String} {text : String}
    (hcls : Bundle.fit cls = true) (hnames : ∀ n ∈ names, Bundle.fit n = true) (hsoe : (cls == "java/lang/StackOverflowError") = false) (hoom : (cls == "java/lang/OutOfMemoryError") = false)
    (h : ∀ a ∈ Bundle.messageArmAtoms cls names, a.before args s = true)
    (hlocs : ∀ x ∈ locs, ∀ cell, s.heap[x.base]? = some cell → cell.vm.isStatics = false)
    (htext : (text == notModelled) = false) (hlimit : ¬ (stringBytes (stringToUtf16 text)).size > e.platform.arrayLengthLimit) (hheap : ¬ (stringBytes (stringToUtf16 text)).size * componentBytes .byte > e.platform.maxHeapBytes)
    {g : JFrame} (hg : g.method = m₀) (hsize : g.locals.size = c.maxLocals)
    (hRframes : names.length + 4 < R.frames) (hRlocals : 2 * g.monitorRoom + (g.stack.map fun v => v.category).sum + 10240 ≤ R.locals) (hshort : 13 * names.length + 55 ≤ 10240)
    (hRcells : cells + 3 ≤ R.cells) (hRslots : slots + ((stringBytes (stringToUtf16 text)).size + 4 + 6) ≤ R.slots) (hlocks : meth.locks = false) :
    ∃ (S : State) (q : Addr) (ce : Cell), (∀ target, Steps p.tables e below ((S.setTop g).pushFrame (.throwing q)) target → Steps p.tables e below ((W.setTop g).pushFrame (.throwNew cls (some text) none)) target) ∧
      Stand p l e R s m₀ args below meth c S locs (cells + 3) (slots + ((stringBytes (stringToUtf16 text)).size + 4 + 6)) ∧ S.heap[q]? = some ce ∧ s.vm.findClass cls = some ce.cls ∧ ce.vm = .none := by
  have howns : e.platform.frameOwnsMonitors = true := by rw [X.admits.platform]
  have hfin : e.platform.finalization = false := by rw [X.admits.platform]
  have hpl : e.platform.magicAccessors = ({} : Platform).magicAccessors := by rw [X.admits.platform]
  have a : ∀ x, x ∈ Bundle.messageArmAtoms cls names → x.holds args s none s [] = true := fun x hx => h x hx
  obtain ⟨T, Z0, L, -, Y⟩ := ThrowableC.of_atoms (args := args) howns hfin hpl (fun x hx => h x (by simp [Bundle.messageArmAtoms, hx]))
  obtain ⟨Z, M, LZ, LM, hnZ⟩ := Init0T.ofS_atoms (args := args) hpl L Y (fun x hx => h x (by simp [Bundle.messageArmAtoms, hx]))
  obtain ⟨P1, Ps, hlen, L1, hL, hP1m, hlink1, hlink⟩ := Bundle.chainS (args := args) hpl hnZ names cls hcls hnames (fun x hx => h x (by simp [Bundle.messageArmAtoms, hx]))
  obtain ⟨Zs, LZs, hn4, hfitv, hfitc⟩ := StringT.of_atoms (args := args) (fun x hx => h x (by simp [Bundle.messageArmAtoms, hx]))
  have hfound : s.vm.findClass cls = some P1.m.cls := findClass_of_methodNamed hP1m
  obtain ⟨c1, kX, hc1, hk, hord, -, -, hn6⟩ := Cond.instantiable_spec (a (.instantiable cls 6) (by simp [Bundle.messageArmAtoms]))
  cases Option.some.inj (hc1.symm.trans hfound)
  have hinit := Cond.initialized_spec hfound hk (a (.initialized cls) (by simp [Bundle.messageArmAtoms]))
  have hctor : kX.findMethod "<init>" "(Ljava/lang/String;)V" = some P1.m.idx := findMethod_of_methodNamed hP1m hk
  have hsel0 : selectMethod e.platform s.vm P1.m.cls T.fill0 = .method T.fill0 := by
    obtain ⟨c2, r2, m2, q1, q2, q3, q4, -⟩ := Cond.selects_spec (a (.selects cls Bundle.tFill0 Bundle.tFill0) (by simp [Bundle.messageArmAtoms]))
    cases Option.some.inj (q1.symm.trans hfound)
    cases Option.some.inj (q2.symm.trans (State.methodFound?_of_named Y.fill0 (by decide)))
    cases Option.some.inj (q3.symm.trans Y.fill0)
    rw [Launch.admits_selectMethod X.admits]; exact q4
  have hselF : selectMethod e.platform s.vm P1.m.cls T.fill = .method T.fill := by
    obtain ⟨c2, r2, m2, q1, q2, q3, q4, -⟩ := Cond.selects_spec (a (.selects cls Bundle.tFill Bundle.tFill) (by simp [Bundle.messageArmAtoms]))
    cases Option.some.inj (q1.symm.trans hfound)
    cases Option.some.inj (q2.symm.trans (State.methodFound?_of_named Y.fill (by decide)))
    cases Option.some.inj (q3.symm.trans Y.fill)
    rw [Launch.admits_selectMethod X.admits]; exact q4
  obtain ⟨cellS0, hcS0, hiss⟩ := Y.statics
  obtain ⟨u0, hu0⟩ := Cond.staticRefV Y.unassigned L.unassignedStatic L.statics hcS0 hiss (a (.isRef (.static Bundle.tN "UNASSIGNED_STACK" Bundle.steD)) (by simp [Bundle.messageArmAtoms]))
  obtain ⟨sen, hsen⟩ := Cond.staticRefV Y.sentinel L.sentinelStatic L.statics hcS0 hiss (a (.isRef (.static Bundle.tN "SUPPRESSED_SENTINEL" Bundle.listD)) (by simp [Bundle.messageArmAtoms]))
  obtain ⟨ci198, i198, fB, hk198, hg198, ha198, hsB, -, hnB, htB, hffB⟩ := Cond.ownField (t := .object "java/lang/Object") Y.found L.cls (by decide +kernel) (a (.fieldLink Bundle.tN 198 Bundle.tN "backtrace" "Ljava/lang/Object;") (by simp [Bundle.messageArmAtoms])) (a (.lays Bundle.tN Bundle.tN "backtrace" "Ljava/lang/Object;") (by simp [Bundle.messageArmAtoms])) e.platform hpl
  obtain ⟨cellS, hcS', heS, -, hkeep⟩ := X.same.2.2.2.2.2 T.aS cellS0 hcS0
  have hcellS : W.heap[T.aS]? = some cellS := hcS'
  have hout' : ∀ i, (⟨T.aS, i⟩ : Loc) ∉ locs := fun i hmem => by
    have := hlocs _ hmem cellS0 hcS0
    rw [hiss] at this; cases this
  have hknownS : cellS.vm ≠ .unknown := by
    rw [heS]; intro hu
    rw [show cellS0.vm = .unknown from hu] at hiss
    cases hiss
  have hvU : cellS.slots[T.fUnassigned.slot]? = some u0.v := by rw [hkeep _ (hout' _)]; exact hu0
  have hvSen : cellS.slots[T.fSentinel.slot]? = some sen.v := by rw [hkeep _ (hout' _)]; exact hsen
  obtain ⟨iM, hffM⟩ := Y.msg
  obtain ⟨tyC, dC, hdC, hdnC⟩ := Cond.laysAt hfound hk Y.cause (a (.lays cls Bundle.tN "cause" "Ljava/lang/Throwable;") (by simp [Bundle.messageArmAtoms]))
  obtain ⟨tyS, dS, hdS, hdnS⟩ := Cond.laysAt hfound hk Y.stack (a (.lays cls Bundle.tN "stackTrace" Bundle.steD) (by simp [Bundle.messageArmAtoms]))
  obtain ⟨tyP, dP, hdP, hdnP⟩ := Cond.laysAt hfound hk Y.supp (a (.lays cls Bundle.tN "suppressedExceptions" Bundle.listD) (by simp [Bundle.messageArmAtoms]))
  obtain ⟨tyM, dM, hdM, hdnM⟩ := Cond.laysAt hfound hk hffM (a (.lays cls Bundle.tN "detailMessage" "Ljava/lang/String;") (by simp [Bundle.messageArmAtoms]))
  obtain ⟨tyB, dB, hdB, hdnB⟩ := Cond.laysAt hfound hk hffB (a (.lays cls Bundle.tN "backtrace" "Ljava/lang/Object;") (by simp [Bundle.messageArmAtoms]))
  have bC := Cond.laysApart hdB hdC hdnB hdnC (by rw [hnB, Y.causeName]; decide)
  have bS := Cond.laysApart hdB hdS hdnB hdnS (by rw [hnB, Y.stackName]; decide)
  have bP := Cond.laysApart hdB hdP hdnB hdnP (by rw [hnB, Y.suppName]; decide)
  have hbk : ((preparedCellV T.toThrowableT (freshCell P1.m.cls kX) (W.heap.size + 2) u0 sen).withEntry W.cur).slots[fB.slot]? = some .null := by
    have := fresh_default (c := P1.m.cls) tyB
    rw [htB] at this
    simpa [preparedCellV, Cell.setSlot, Cell.withEntry, Array.getElem?_setIfInBounds, bC, bS, bP, bC.symm, bS.symm, bP.symm, defaultValue] using this
  have tkC := Takes.of_laid (v := .ref (W.heap.size + 2)) hk hord tyC (by rw [Y.causeType]; rfl)
  have tkS := Takes.of_laid (v := u0.v) hk hord tyS (by rw [Y.stackType]; exact fits_refV_array _ u0)
  have tkP := Takes.of_laid (v := sen.v) hk hord tyP (by rw [Y.suppType]; exact fits_refV_object _ sen)
  have tkM := Takes.of_laid (v := .ref (W.heap.size + 1)) hk hord tyM (by rw [Y.msgType]; rfl)
  have hskip : SkipFacts T e.platform s (fun u => u) u0 ((preparedCellV T.toThrowableT (freshCell P1.m.cls kX) (W.heap.size + 2) u0 sen).withEntry W.cur) := ⟨{ ci198 := ci198, i198 := i198, fBack := fB }, ⟨hk198, hg198, ha198, hsB⟩, hbk, fun _ _ => rfl⟩
  have h0 : At W g.method c below := by rw [hg]; exact X.here
  obtain ⟨hbeyond, hfreeW⟩ := X.vmMayThrow hsize (.throwNew cls (some text) none) (fun f hf => by cases hf) rfl hRlocals
  have hfr' : W.frames.length + Ps.length + 4 < (e.platform.stackLimits W.me).1 := by have := X.framesAbove hRframes; omega
  have hwd' : (stackUse (.java g :: W.frames.tail)).2 + 13 * Ps.length + 55 ≤ (e.platform.stackLimits W.me).2 := by have := X.stackAbove hsize (K := 13 * Ps.length + 55) (by omega); omega
  have hslots : W.slotsUsed + (stringBytes (stringToUtf16 text)).size + Zs.kS.instanceTypes.size + kX.instanceTypes.size ≤ e.platform.maxSlots := by
    have := X.slotsAbove hRslots
    rw [hn4, hn6]
    omega
  obtain ⟨vm', hW', st⟩ := Steps.vmThrowsMessageColdByV p (s₀ := s) (S := W) (g := g) h0 hexec T L Z LZ M LM X.warmed (t := W.cur) rfl Zs LZs P1 L1 Ps hL hlink1 hlink hsoe hoom hfound hk hinit hord hctor
    (Launch.admits_hotImplicitExceptions X.admits) hbeyond hfreeW htext hlimit hheap (X.cellsAbove hRcells) hslots (hfitv _) (hfitc _)
    (Nn := fun u => u) heapOnly_id (fun _ _ => rfl) (fun _ => rfl) (fun u x y => setCell_twice _ _ _ _) (fun _ => Nat.le_refl _) (cN := ((preparedCellV T.toThrowableT (freshCell P1.m.cls kX) (W.heap.size + 2) u0 sen).withEntry W.cur))
    hsel0 hcellS hknownS hvU tkS (fun _ hu => hu) (fun _ hu => hu) rfl rfl rfl (by simp [preparedCellV, Cell.setSlot, Cell.withEntry]) hskip (fun _ _ hA hW _ hroom _ hrest => L.nativeOff p htr hA hW hroom hrest) hselF hvSen tkC tkP tkM Y.objLocals rfl hfr' hwd'
  rw [plainBareV_eq T.toThrowableT (W.heap.size + 2) u0 sen (.ref (W.heap.size + 1)) W.cur rfl rfl] at st
  obtain ⟨-, -, w3, w4, -, -, -⟩ := withThrown_facts e.platform W Zs text P1.m.cls kX
  have X3 := ((X.pushed (bytesOf Zs.cB (stringToUtf16 text))).pushed (stringAt Zs.cS Zs.kS Zs.fv Zs.fc (stringToUtf16 text) W.heap.size)).pushed (freshCell P1.m.cls kX)
  rw [← withString_eq] at X3
  have X4 := X3.noted hW'
  have ha : (W.heap.size + 2) < ((withThrown W Zs text P1.m.cls kX).setVm vm').heap.size := by show _ < (withThrown W Zs text P1.m.cls kX).heap.size; rw [w3]; omega
  have hcell : ((withThrown W Zs text P1.m.cls kX).setVm vm').heap[(W.heap.size + 2)]? = some (freshCell P1.m.cls kX) := w4
  have X5 := ((((X4.stored hcell T.fCause.slot (.ref (W.heap.size + 2))).storedAgain ha T.fStack.slot u0.v).storedAgain ha T.fSupp.slot sen.v).storedAgain ha T.fStack.slot u0.v).storedAgain ha T.fMsg.slot (.ref (W.heap.size + 1))
  obtain ⟨g₁, hfrM⟩ := X5.frames_eq
  have hU : ((((withThrown W Zs text P1.m.cls kX).setVm vm').setCell (W.heap.size + 2) (plainBareV T.toThrowableT (freshCell P1.m.cls kX) (W.heap.size + 2) u0 sen (.ref (W.heap.size + 1)))).setTop g).pushFrame (.throwing (W.heap.size + 2)) = (((withThrown W Zs text P1.m.cls kX).setVm vm').setCell (W.heap.size + 2) (plainBareV T.toThrowableT (freshCell P1.m.cls kX) (W.heap.size + 2) u0 sen (.ref (W.heap.size + 1)))).setFrames (.throwing (W.heap.size + 2) :: .java g :: below) := by
    rw [State.pushFrame, State.frames_setTop _ hfrM, State.setTop_of_frames _ hfrM, State.setFrames_setFrames]
  have b1 : (bytesOf Zs.cB (stringToUtf16 text)).slots.size = (stringBytes (stringToUtf16 text)).size := by
    rw [(Cell.writeAll_facts _ _).2.2]; simp [bytes0]
  have b2 : (stringAt Zs.cS Zs.kS Zs.fv Zs.fc (stringToUtf16 text) W.heap.size).slots.size = 4 := by simp [string0, Cell.setSlot, hn4]
  have b3 : (freshCell P1.m.cls kX).slots.size = 6 := by simp [hn6]
  rw [b1, b2, b3] at X5
  have e9 : slots + (stringBytes (stringToUtf16 text)).size + 4 + 6 = slots + ((stringBytes (stringToUtf16 text)).size + 4 + 6) := by omega
  rw [e9] at X5
  simp only [List.append_assoc, List.cons_append, List.nil_append] at X5
  refine ⟨((withThrown W Zs text P1.m.cls kX).setVm vm').setCell (W.heap.size + 2) (plainBareV T.toThrowableT (freshCell P1.m.cls kX) (W.heap.size + 2) u0 sen (.ref (W.heap.size + 1))), W.heap.size + 2, _, fun target ht => st _ (by rw [X.tail, ← hU]; exact ht),
    X5.forget (fun y hy => ?_), heapAt_setCell_self _ ha, hfound, rfl⟩
  simp only [List.mem_cons, List.not_mem_nil, or_false] at hy
  have hge : s.heap.size ≤ W.heap.size := X.same.2.1
  rcases hy with rfl | rfl | rfl | rfl | rfl <;> exact Nat.le_trans hge (Nat.le_add_right _ 2)
set_option maxHeartbeats 1000000 in
/-- the machine throws NullPointerException, no traces kept: from its note over the frame g to 'throwing' over the same frame (follows the proof of Stand.vmThrowsNpe, Shelf42/KT2.lean; throwsNpeColdBareVAt, Shelf42/NT91.lean, called) -/
theorem vx_npeAt {p : Program} {l : Launch} {e : Env} {R : Room} {s : State} {m₀ : MethodId} {args : Array Value} {below : List Frame} {meth : Method} {c : Code} {W : State} {locs : List Loc} {cells slots : Nat}
    (X : Stand p l e R s m₀ args below meth c W locs cells slots) (hexec : p.tables.exec = Jvm.exec) (htr : e.platform.stackTraces = false) {n : Nat}
    (h : ∀ a ∈ Bundle.npeArmAtoms n, a.before args s = true)
    (hlocs : ∀ x ∈ locs, ∀ cell, s.heap[x.base]? = some cell → cell.vm.isStatics = false)
    {g : JFrame} (hg : g.method = m₀) (hsize : g.locals.size = c.maxLocals)
    (hRframes : 7 < R.frames) (hRlocals : 2 * g.monitorRoom + (g.stack.map fun v => v.category).sum + 10240 ≤ R.locals)
    (hRcells : cells + 1 ≤ R.cells) (hRslots : slots + n ≤ R.slots) (hlocks : meth.locks = false) :
    ∃ (S : State) (q : Addr) (ce : Cell), (∀ target, Steps p.tables e below ((S.setTop g).pushFrame (.throwing q)) target → Steps p.tables e below ((W.setTop g).pushFrame (.throwNew "java/lang/NullPointerException" none none)) target) ∧
      Stand p l e R s m₀ args below meth c S locs (cells + 1) (slots + n) ∧ S.heap[q]? = some ce ∧ s.vm.findClass "java/lang/NullPointerException" = some ce.cls ∧ ce.vm = .none := by
  have howns : e.platform.frameOwnsMonitors = true := by rw [X.admits.platform]
  have hfin : e.platform.finalization = false := by rw [X.admits.platform]
  have hpl : e.platform.magicAccessors = ({} : Platform).magicAccessors := by rw [X.admits.platform]
  have hpl2 : e.platform.arrayCloneIsPublic = true := by rw [X.admits.platform]
  have a' : ∀ x, x ∈ Bundle.npeArmAtoms n → x.holds args s none s [] = true := fun x hx => h x hx
  obtain ⟨T, Z, L, LZ, Y⟩ := ThrowableC.of_atoms (args := args) howns hfin hpl (fun x hx => h x (by simp [Bundle.npeArmAtoms, hx]))
  obtain ⟨N, LN, hcN, hnNF, hordN, hffS⟩ := NpeC.of_atoms (args := args) hpl hpl2 L Y (fun x hx => h x (by simp [Bundle.npeArmAtoms, hx]))
  obtain ⟨P1, L1, hP1m, hP1s⟩ := PassC.of_atoms (args := args) (s := s) hpl (X := Bundle.nN) (Y := Bundle.rN) (by decide) (by decide) LibCode.NullPointerException.Init0.at_0 LibCode.NullPointerException.Init0.at_1 LibCode.NullPointerException.Init0.at_4 (fun x hx => h x (by simp [Bundle.npeArmAtoms, hx]))
  obtain ⟨PR, LR, hPRm, hPRs⟩ := PassC.of_atoms (args := args) (s := s) hpl (X := Bundle.rN) (Y := Bundle.eN) (by decide) (by decide) LibCode.RuntimeException.Init0.at_0 LibCode.RuntimeException.Init0.at_1 LibCode.RuntimeException.Init0.at_4 (fun x hx => h x (by simp [Bundle.npeArmAtoms, hx]))
  obtain ⟨PE, LEx, hPEm, hPEs⟩ := PassC.of_atoms (args := args) (s := s) hpl (X := Bundle.eN) (Y := Bundle.tN) (by decide) (by decide) LibCode.Exception.Init0.at_0 LibCode.Exception.Init0.at_1 LibCode.Exception.Init0.at_4 (fun x hx => h x (by simp [Bundle.npeArmAtoms, hx]))
  have hfound : s.vm.findClass Bundle.nN = some P1.m.cls := findClass_of_methodNamed hP1m
  have ecls : N.cN = P1.m.cls := Option.some.inj (hcN.symm.trans hfound)
  have hk : s.vm.classes[P1.m.cls]? = some N.kN := by rw [← ecls]; exact LN.cls
  have hinit := Cond.initialized_spec hfound hk (a' (.initialized Bundle.nN) (by simp [Bundle.npeArmAtoms]))
  have hctor : N.kN.findMethod "<init>" "()V" = some P1.m.idx := findMethod_of_methodNamed hP1m hk
  obtain ⟨c1, k1, hc1, hk1, -, -, -, hn⟩ := Cond.instantiable_spec (a' (.instantiable Bundle.nN n) (by simp [Bundle.npeArmAtoms]))
  cases Option.some.inj (hc1.symm.trans hfound)
  cases Option.some.inj (hk1.symm.trans hk)
  have hfsz : (freshCell P1.m.cls N.kN).slots.size = n := by simp [hn]
  have hlink1 : P1.sup = PR.m := Option.some.inj (hP1s.symm.trans hPRm)
  have hlinkR : PR.sup = PE.m := Option.some.inj (hPRs.symm.trans hPEm)
  have hlinkE : PE.sup = Z.m T.toThrowableT := Option.some.inj (hPEs.symm.trans Y.init0)
  have hLs : ∀ P, P ∈ [PR, PE] → P.Links0 e.platform s := fun P hP => by
    simp only [List.mem_cons, List.not_mem_nil, or_false] at hP
    rcases hP with rfl | rfl
    · exact LR
    · exact LEx
  have hsel0 : selectMethod e.platform s.vm P1.m.cls T.fill0 = .method T.fill0 := by
    obtain ⟨c2, r2, m2, q1, q2, q3, q4, -⟩ := Cond.selects_spec (a' (.selects Bundle.nN Bundle.tFill0 Bundle.tFill0) (by simp [Bundle.npeArmAtoms]))
    cases Option.some.inj (q1.symm.trans hfound)
    cases Option.some.inj (q2.symm.trans (State.methodFound?_of_named Y.fill0 (by decide)))
    cases Option.some.inj (q3.symm.trans Y.fill0)
    rw [Launch.admits_selectMethod X.admits]; exact q4
  have hselF : selectMethod e.platform s.vm P1.m.cls T.fill = .method N.fill := by
    obtain ⟨c2, r2, m2, q1, q2, q3, q4, -⟩ := Cond.selects_spec (a' (.selects Bundle.nN Bundle.tFill Bundle.nFill) (by simp [Bundle.npeArmAtoms]))
    cases Option.some.inj (q1.symm.trans hfound)
    cases Option.some.inj (q2.symm.trans (State.methodFound?_of_named Y.fill (by decide)))
    cases Option.some.inj (q3.symm.trans hnNF)
    rw [Launch.admits_selectMethod X.admits]; exact q4
  obtain ⟨cellS0, hcS0, hiss⟩ := Y.statics
  obtain ⟨u0, hu0⟩ := Cond.staticRefV Y.unassigned L.unassignedStatic L.statics hcS0 hiss (a' (.isRef (.static Bundle.tN "UNASSIGNED_STACK" Bundle.steD)) (by simp [Bundle.npeArmAtoms]))
  obtain ⟨sen, hsen⟩ := Cond.staticRefV Y.sentinel L.sentinelStatic L.statics hcS0 hiss (a' (.isRef (.static Bundle.tN "SUPPRESSED_SENTINEL" Bundle.listD)) (by simp [Bundle.npeArmAtoms]))
  obtain ⟨ci198, i198, fB, hk198, hg198, ha198, hsB, -, hnB, htB, hffB⟩ := Cond.ownField (t := .object "java/lang/Object") Y.found L.cls (by decide +kernel) (a' (.fieldLink Bundle.tN 198 Bundle.tN "backtrace" Bundle.objD) (by simp [Bundle.npeArmAtoms])) (a' (.lays Bundle.tN Bundle.tN "backtrace" Bundle.objD) (by simp [Bundle.npeArmAtoms])) e.platform hpl
  obtain ⟨cellS, hcS', heS, -, hkeep⟩ := X.same.2.2.2.2.2 T.aS cellS0 hcS0
  have hcellS : W.heap[T.aS]? = some cellS := hcS'
  have hout' : ∀ i, (⟨T.aS, i⟩ : Loc) ∉ locs := fun i hmem => by
    have := hlocs _ hmem cellS0 hcS0
    rw [hiss] at this; cases this
  have hknownS : cellS.vm ≠ .unknown := by
    rw [heS]; intro hu
    rw [show cellS0.vm = .unknown from hu] at hiss
    cases hiss
  have hvU : cellS.slots[T.fUnassigned.slot]? = some u0.v := by rw [hkeep _ (hout' _)]; exact hu0
  have hvSen : cellS.slots[T.fSentinel.slot]? = some sen.v := by rw [hkeep _ (hout' _)]; exact hsen
  obtain ⟨tyC, dC, hdC, hdnC⟩ := Cond.laysAt hfound hk Y.cause (a' (.lays Bundle.nN Bundle.tN "cause" "Ljava/lang/Throwable;") (by simp [Bundle.npeArmAtoms]))
  obtain ⟨tyS, dS, hdS, hdnS⟩ := Cond.laysAt hfound hk Y.stack (a' (.lays Bundle.nN Bundle.tN "stackTrace" Bundle.steD) (by simp [Bundle.npeArmAtoms]))
  obtain ⟨tyP, dP, hdP, hdnP⟩ := Cond.laysAt hfound hk Y.supp (a' (.lays Bundle.nN Bundle.tN "suppressedExceptions" Bundle.listD) (by simp [Bundle.npeArmAtoms]))
  obtain ⟨tyX, dX, hdX, hdnX⟩ := Cond.laysAt hfound hk hffS (a' (.lays Bundle.nN Bundle.nN "extendedMessageState" "I") (by simp [Bundle.npeArmAtoms, Bundle.npeAtoms]))
  obtain ⟨hnX, htX⟩ := State.fieldFound?_type hffS (t := .int) (by decide +kernel)
  have xC := Cond.laysApart hdC hdX hdnC hdnX (by rw [hnX, Y.causeName]; decide)
  have xS := Cond.laysApart hdS hdX hdnS hdnX (by rw [hnX, Y.stackName]; decide)
  have xP := Cond.laysApart hdP hdX hdnP hdnX (by rw [hnX, Y.suppName]; decide)
  have hv0 : (freshCell P1.m.cls N.kN).slots[N.fState.slot]? = some (.int 0) := by
    have := fresh_default (c := P1.m.cls) tyX
    rw [htX] at this; exact this
  obtain ⟨tyB, dB, hdB, hdnB⟩ := Cond.laysAt hfound hk hffB (a' (.lays Bundle.nN Bundle.tN "backtrace" Bundle.objD) (by simp [Bundle.npeArmAtoms]))
  have bC := Cond.laysApart hdB hdC hdnB hdnC (by rw [hnB, Y.causeName]; decide)
  have bS := Cond.laysApart hdB hdS hdnB hdnS (by rw [hnB, Y.stackName]; decide)
  have bP := Cond.laysApart hdB hdP hdnB hdnP (by rw [hnB, Y.suppName]; decide)
  have bX := Cond.laysApart hdB hdX hdnB hdnX (by rw [hnB, hnX]; decide)
  have hbk : ((npeCell N.toNpeT (preparedCellV T.toThrowableT (freshCell P1.m.cls N.kN) W.heap.size u0 sen) W.cur).withEntry W.cur).slots[fB.slot]? = some .null := by
    have := fresh_default (c := P1.m.cls) tyB
    rw [htB] at this
    simpa [npeCell, preparedCellV, Cell.setSlot, Cell.withEntry, Array.getElem?_setIfInBounds, bC, bS, bP, bX, bC.symm, bS.symm, bP.symm, bX.symm, defaultValue] using this
  have tkC := Takes.of_laid (v := .ref W.heap.size) hk hordN tyC (by rw [Y.causeType]; rfl)
  have tkS := Takes.of_laid (v := u0.v) hk hordN tyS (by rw [Y.stackType]; exact fits_refV_array _ u0)
  have tkP := Takes.of_laid (v := sen.v) hk hordN tyP (by rw [Y.suppType]; exact fits_refV_object _ sen)
  have tkX := Takes.of_laid (v := .int 1) hk hordN tyX (by rw [htX]; rfl)
  have hskip : SkipFacts T e.platform s (fun u => u) u0 ((npeCell N.toNpeT (preparedCellV T.toThrowableT (freshCell P1.m.cls N.kN) W.heap.size u0 sen) W.cur).withEntry W.cur) := ⟨{ ci198 := ci198, i198 := i198, fBack := fB }, ⟨hk198, hg198, ha198, hsB⟩, hbk, fun _ _ => rfl⟩
  obtain ⟨vm', X3, st, -⟩ := X.throwsNpeColdBareVAt hexec hg hsize T L Z LZ N LN P1 L1 [PR, PE] hLs hlink1 ⟨hlinkR, hlinkE, trivial⟩ hfound hk hinit hordN hctor hsel0 hselF hcellS hknownS hvU hvSen
    hv0 xC xS xP tkC tkS tkP tkX Y.objLocals hskip (fun _ _ hA hW _ hroom _ hrest => L.nativeOff p htr hA hW hroom hrest) (by simpa using hRframes) hRlocals (by simp) hRcells (by rw [hn]; exact hRslots)
  have hlt : W.heap.size < ((W.pushCell (freshCell P1.m.cls N.kN)).setVm vm').heap.size := by
    show W.heap.size < (W.pushCell (freshCell P1.m.cls N.kN)).heap.size
    rw [State.heap_size_pushCell]; omega
  rw [hfsz] at X3
  obtain ⟨g₁, hfrM⟩ := X3.frames_eq
  have hU : ((((W.pushCell (freshCell P1.m.cls N.kN)).setVm vm').setCell W.heap.size (npeBareV T.toThrowableT N.toNpeT (freshCell P1.m.cls N.kN) W.heap.size u0 sen)).setTop g).pushFrame (.throwing W.heap.size) = (((W.pushCell (freshCell P1.m.cls N.kN)).setVm vm').setCell W.heap.size (npeBareV T.toThrowableT N.toNpeT (freshCell P1.m.cls N.kN) W.heap.size u0 sen)).setFrames (.throwing W.heap.size :: .java g :: below) := by
    rw [State.pushFrame, State.frames_setTop _ hfrM, State.setTop_of_frames _ hfrM, State.setFrames_setFrames]
  refine ⟨_, W.heap.size, _, fun target ht => st.trans (by rw [← hU]; exact ht), X3.forget (fun y hy => ?_), heapAt_setCell_self _ hlt, hfound, rfl⟩
  simp only [List.mem_cons, List.not_mem_nil, or_false] at hy
  have hge : s.heap.size ≤ W.heap.size := X.same.2.1
  rcases hy with rfl | rfl | rfl | rfl | rfl <;> exact hge
/-- the words of a machine's NullPointerException, but the four that speak of the heap -/
def vx_atN (n : Nat) : List Cond := (Bundle.npeArmAtoms n).filter vx_no
/-- the words of a machine's throw with a message, but the four that speak of the heap -/
def vx_atM (X : String) (names : List String) : List Cond := (Bundle.messageArmAtoms X names).filter vx_no
section
variable {p : Program} {l : Launch} {e : Env} {R : Room} {s : State} {m : MethodId} {args : Array Value} {below : List Frame} {meth : Method} {c : Code} {H : Heap} {locs : List Loc} {cells slots : Nat}
/-- a frame seen from a rebased start, seen from the first start again -/
theorem vx_back9 {T S : State} {R' : Room} {k n : Nat} (X : Stand p l e R s m args below meth c T locs cells slots) (Y : Stand p l e R' ((T.setVm s.vm).setFrames (.invoking m args :: below)) m args below meth c T [] 0 0) (Z : Stand p l e R' ((T.setVm s.vm).setFrames (.invoking m args :: below)) m args below meth c S [] k n) :
    Stand p l e R s m args below meth c S locs (cells + k) (slots + n) := by
  have hW0 : s.WarmedH ((T.setVm s.vm).setFrames (.invoking m args :: below)).vm := State.WarmedH.refl s
  refine { admits := X.admits, cas := X.cas, clock := X.clock, frames := X.frames, room := X.room, hears := X.hears, method := X.method, code := X.code, here := Z.here, tail := Z.tail, warmed := State.WarmedH.trans hW0 Z.warmed, limits := Z.limits.trans (Y.limits.symm.trans X.limits), bytes := Z.bytes.trans (Y.bytes.symm.trans X.bytes), same := ?_ }
  obtain ⟨e1, e2⟩ := Z.same
  rw [State.setFrames_setFrames] at e1
  have h2 : (T.setVm s.vm).sameButNew (S.setVm s.vm) [] k n := ⟨e1, e2⟩
  have h3 := X.same.trans h2
  rw [List.append_nil] at h3
  exact h3
/-- from the machine's note that E is thrown here with this text -/
def vx_Note (p : Program) (l : Launch) (e : Env) (R : Room) (s : State) (m : MethodId) (args : Array Value) (below : List Frame) (meth : Method) (c : Code) (H : Heap) (locs : List Loc) (cells slots : Nat) (Q : State → Prop) (g : JFrame) (E text : String) : Prop :=
  ∀ T : State, T.heap = H → Stand p l e R s m args below meth c T locs cells slots → ∃ t, Steps p.tables e below ((T.setTop g).pushFrame (.throwNew E (some text) none)) t ∧ Q t
theorem vx_vm {pc : Nat} {ls : Array Slot} {rest : List Value} {Q : State → Prop} (hexec : p.tables.exec = Jvm.exec) (hl : l.stackTraces = false) {cls text : String} {names : List String} {nb : Nat} {A : Nat → Prop}
    (hcls : Bundle.fit cls = true) (hnames : ∀ n ∈ names, Bundle.fit n = true) (hsoe : (cls == "java/lang/StackOverflowError") = false) (hoom : (cls == "java/lang/OutOfMemoryError") = false)
    (hat : ∀ w ∈ vx_atM cls names, w.before args s = true) (hgood : ∀ w ∈ vx_atM cls names, vx_ot w = true)
    (hU : vx_Zq Bundle.tN "UNASSIGNED_STACK" Bundle.steD A s s.heap) (hN : vx_Zq Bundle.tN "SUPPRESSED_SENTINEL" Bundle.listD A s s.heap) (hS : va_S A s.heap H locs) (hsize : ls.size = c.maxLocals)
    (htext : (text == notModelled) = false) (hnb : (stringBytes (stringToUtf16 text)).size ≤ nb) (hnb1 : nb ≤ 1000)
    (hRframes : names.length + 4 < R.frames) (hRlocals : (rest.map fun v => v.category).sum + 10240 ≤ R.locals) (hshort : 13 * names.length + 55 ≤ 10240) (hRcells : cells + 3 ≤ R.cells) (hRslots : slots + (nb + 10) ≤ R.slots) (hlocks : meth.locks = false)
    (k : ∀ (H1 : Heap) (q9 : Addr) (ce : Cell), H.size ≤ H1.size → (∀ q : Nat, q < H.size → H1[q]? = H[q]?) → va_S A s.heap H1 locs → H1[q9]? = some ce → ce.vm = .none → s.vm.findClass cls = some ce.cls → vx_W p l e R s m args below meth c H1 locs (cells + 3) (slots + (nb + 10)) Q (F0 m pc ls rest) q9) :
    vx_Note p l e R s m args below meth c H locs cells slots Q (F0 m pc ls rest) cls text := by
  intro T hT X
  have htr : e.platform.stackTraces = false := (show e.platform.stackTraces = l.stackTraces by rw [X.admits.platform]).trans hl
  have Y := vx_rebase X (R' := { frames := R.frames, locals := R.locals, cells := 3, slots := nb + 10 }) (Nat.le_refl _) (Nat.le_refl _) hRcells hRslots
  have hhp : ((T.setVm s.vm).setFrames (.invoking m args :: below)).heap = H := hT
  have hW0 : s.WarmedH ((T.setVm s.vm).setFrames (.invoking m args :: below)).vm := State.WarmedH.refl s
  have hat' : ∀ w ∈ vx_atM cls names, w.before args ((T.setVm s.vm).setFrames (.invoking m args :: below)) = true := fun w hw => vx_ot_at hW0 rfl (hgood w hw) (hat w hw)
  have hU' : vx_Zq Bundle.tN "UNASSIGNED_STACK" Bundle.steD A ((T.setVm s.vm).setFrames (.invoking m args :: below)) ((T.setVm s.vm).setFrames (.invoking m args :: below)).heap := by rw [hhp]; exact vx_Zq.moved hW0.alike (hU.kept hS.2.1)
  have hN' : vx_Zq Bundle.tN "SUPPRESSED_SENTINEL" Bundle.listD A ((T.setVm s.vm).setFrames (.invoking m args :: below)) ((T.setVm s.vm).setFrames (.invoking m args :: below)).heap := by rw [hhp]; exact vx_Zq.moved hW0.alike (hN.kept hS.2.1)
  obtain ⟨S, q, ce, st, Z, hce, hcl', hv⟩ := vx_vmAt Y hexec htr (cls := cls) (names := names) (text := text) hcls hnames hsoe hoom (vx_own hat' (vx_isRefq hU'.1) (vx_isRefq hN'.1) hU'.2.word hN'.2.word) (fun x hx => nomatch hx) htext
    (by rw [Launch.admits_arrayLengthLimit X.admits]; omega) (by rw [Launch.admits_maxHeapBytes X.admits]; simp only [componentBytes]; omega)
    (g := F0 m pc ls rest) rfl hsize hRframes (by show 2 * 0 + (rest.map fun v => v.category).sum + 10240 ≤ R.locals; omega) hshort (by show 0 + 3 ≤ 3; omega) (by show 0 + (_ + 4 + 6) ≤ nb + 10; omega) hlocks
  obtain ⟨f1, f2⟩ := vx_frame Z.same
  have f1' : H.size ≤ S.heap.size := by rw [← hT]; exact f1
  have f2' : ∀ q : Nat, q < H.size → S.heap[q]? = H[q]? := fun q hq => by
    rw [← hT]
    exact f2 q (by rw [← hT] at hq; exact hq) (fun z hz => nomatch hz)
  have X5 := vx_back9 X Y Z
  have X6 : Stand p l e R s m args below meth c S locs (cells + 3) (slots + (nb + 10)) := { X5 with same := X5.same.mono (by omega) (by omega) }
  obtain ⟨t, a1, b1⟩ := k S.heap q ce f1' f2' ⟨Nat.le_trans hS.1 f1', fun q h1 h2 => (f2' q (Nat.lt_of_lt_of_le h1 hS.1)).trans (hS.2.1 q h1 h2), hS.2.2⟩ hce hv hcl' S rfl X6
  exact ⟨t, st t a1, b1⟩
/-- from the machine's note that NullPointerException is thrown here -/
def vx_NoteN (p : Program) (l : Launch) (e : Env) (R : Room) (s : State) (m : MethodId) (args : Array Value) (below : List Frame) (meth : Method) (c : Code) (H : Heap) (locs : List Loc) (cells slots : Nat) (Q : State → Prop) (g : JFrame) : Prop :=
  ∀ T : State, T.heap = H → Stand p l e R s m args below meth c T locs cells slots → ∃ t, Steps p.tables e below ((T.setTop g).pushFrame (.throwNew "java/lang/NullPointerException" none none)) t ∧ Q t
theorem vx_npe {pc : Nat} {ls : Array Slot} {rest : List Value} {Q : State → Prop} (hexec : p.tables.exec = Jvm.exec) (hl : l.stackTraces = false) {nb : Nat} {A : Nat → Prop}
    (hat : ∀ w ∈ vx_atN nb, w.before args s = true) (hgood : ∀ w ∈ vx_atN nb, vx_ot w = true)
    (hU : vx_Zq Bundle.tN "UNASSIGNED_STACK" Bundle.steD A s s.heap) (hN : vx_Zq Bundle.tN "SUPPRESSED_SENTINEL" Bundle.listD A s s.heap) (hS : va_S A s.heap H locs) (hsize : ls.size = c.maxLocals)
    (hRframes : 7 < R.frames) (hRlocals : (rest.map fun v => v.category).sum + 10240 ≤ R.locals) (hRcells : cells + 1 ≤ R.cells) (hRslots : slots + nb ≤ R.slots) (hlocks : meth.locks = false)
    (k : ∀ (H1 : Heap) (q9 : Addr) (ce : Cell), H.size ≤ H1.size → (∀ q : Nat, q < H.size → H1[q]? = H[q]?) → va_S A s.heap H1 locs → H1[q9]? = some ce → ce.vm = .none → s.vm.findClass "java/lang/NullPointerException" = some ce.cls → vx_W p l e R s m args below meth c H1 locs (cells + 1) (slots + nb) Q (F0 m pc ls rest) q9) :
    vx_NoteN p l e R s m args below meth c H locs cells slots Q (F0 m pc ls rest) := by
  intro T hT X
  have htr : e.platform.stackTraces = false := (show e.platform.stackTraces = l.stackTraces by rw [X.admits.platform]).trans hl
  have Y := vx_rebase X (R' := { frames := R.frames, locals := R.locals, cells := 1, slots := nb }) (Nat.le_refl _) (Nat.le_refl _) hRcells hRslots
  have hhp : ((T.setVm s.vm).setFrames (.invoking m args :: below)).heap = H := hT
  have hW0 : s.WarmedH ((T.setVm s.vm).setFrames (.invoking m args :: below)).vm := State.WarmedH.refl s
  have hat' : ∀ w ∈ vx_atN nb, w.before args ((T.setVm s.vm).setFrames (.invoking m args :: below)) = true := fun w hw => vx_ot_at hW0 rfl (hgood w hw) (hat w hw)
  have hU' : vx_Zq Bundle.tN "UNASSIGNED_STACK" Bundle.steD A ((T.setVm s.vm).setFrames (.invoking m args :: below)) ((T.setVm s.vm).setFrames (.invoking m args :: below)).heap := by rw [hhp]; exact vx_Zq.moved hW0.alike (hU.kept hS.2.1)
  have hN' : vx_Zq Bundle.tN "SUPPRESSED_SENTINEL" Bundle.listD A ((T.setVm s.vm).setFrames (.invoking m args :: below)) ((T.setVm s.vm).setFrames (.invoking m args :: below)).heap := by rw [hhp]; exact vx_Zq.moved hW0.alike (hN.kept hS.2.1)
  obtain ⟨S, q, ce, st, Z, hce, hcl', hv⟩ := vx_npeAt Y hexec htr (n := nb) (vx_own hat' (vx_isRefq hU'.1) (vx_isRefq hN'.1) hU'.2.word hN'.2.word) (fun x hx => nomatch hx)
    (g := F0 m pc ls rest) rfl hsize hRframes (by show 2 * 0 + (rest.map fun v => v.category).sum + 10240 ≤ R.locals; omega) (by show 0 + 1 ≤ 1; omega) (by show 0 + nb ≤ nb; omega) hlocks
  obtain ⟨f1, f2⟩ := vx_frame Z.same
  have f1' : H.size ≤ S.heap.size := by rw [← hT]; exact f1
  have f2' : ∀ q : Nat, q < H.size → S.heap[q]? = H[q]? := fun q hq => by
    rw [← hT]
    exact f2 q (by rw [← hT] at hq; exact hq) (fun z hz => nomatch hz)
  have X5 := vx_back9 X Y Z
  have X6 : Stand p l e R s m args below meth c S locs (cells + 1) (slots + nb) := { X5 with same := X5.same.mono (by omega) (by omega) }
  obtain ⟨t, a1, b1⟩ := k S.heap q ce f1' f2' ⟨Nat.le_trans hS.1 f1', fun q h1 h2 => (f2' q (Nat.lt_of_lt_of_le h1 hS.1)).trans (hS.2.1 q h1 h2), hS.2.2⟩ hce hv hcl' S rfl X6
  exact ⟨t, st t a1, b1⟩
variable {Q : State → Prop} {cc : ByteArray} {pc : Nat} {ls : Array Slot} {rest : List Value}
theorem vx_idivZ (hexec : p.tables.exec = Jvm.exec) (hb : c.code = cc) {a b : Int32} (h0 : b = 0) (d : decode cc pc = .ok (.idiv, 1)) (k : vx_Note p l e R s m args below meth c H locs cells slots Q (F0 m pc ls rest) "java/lang/ArithmeticException" "/ by zero") :
    W p l e R s m args below meth c H locs cells slots Q (F0 m pc ls (.int b :: .int a :: rest)) := by
  intro T hT X
  obtain ⟨t, st, q⟩ := k T hT X
  exact ⟨t, X.idivZero hexec (g := F0 m pc ls (.int b :: .int a :: rest)) rfl (a := a) (rest := rest) (by rw [h0]) (by rw [hb]; exact d) t st, q⟩
theorem vx_iremZ (hexec : p.tables.exec = Jvm.exec) (hb : c.code = cc) {a b : Int32} (h0 : b = 0) (d : decode cc pc = .ok (.irem, 1)) (k : vx_Note p l e R s m args below meth c H locs cells slots Q (F0 m pc ls rest) "java/lang/ArithmeticException" "/ by zero") :
    W p l e R s m args below meth c H locs cells slots Q (F0 m pc ls (.int b :: .int a :: rest)) := by
  intro T hT X
  obtain ⟨t, st, q⟩ := k T hT X
  exact ⟨t, X.iremZero hexec (g := F0 m pc ls (.int b :: .int a :: rest)) rfl (a := a) (rest := rest) (by rw [h0]) (by rw [hb]; exact d) t st, q⟩
theorem vx_ldivZ (hexec : p.tables.exec = Jvm.exec) (hb : c.code = cc) {a b : Int64} (h0 : b = 0) (d : decode cc pc = .ok (.ldiv, 1)) (k : vx_Note p l e R s m args below meth c H locs cells slots Q (F0 m pc ls rest) "java/lang/ArithmeticException" "/ by zero") :
    W p l e R s m args below meth c H locs cells slots Q (F0 m pc ls (.long b :: .long a :: rest)) := by
  intro T hT X
  obtain ⟨t, st, q⟩ := k T hT X
  exact ⟨t, X.ldivZero hexec (g := F0 m pc ls (.long b :: .long a :: rest)) rfl (a := a) (rest := rest) (by rw [h0]) (by rw [hb]; exact d) t st, q⟩
theorem vx_lremZ (hexec : p.tables.exec = Jvm.exec) (hb : c.code = cc) {a b : Int64} (h0 : b = 0) (d : decode cc pc = .ok (.lrem, 1)) (k : vx_Note p l e R s m args below meth c H locs cells slots Q (F0 m pc ls rest) "java/lang/ArithmeticException" "/ by zero") :
    W p l e R s m args below meth c H locs cells slots Q (F0 m pc ls (.long b :: .long a :: rest)) := by
  intro T hT X
  obtain ⟨t, st, q⟩ := k T hT X
  exact ⟨t, X.lremZero hexec (g := F0 m pc ls (.long b :: .long a :: rest)) rfl (a := a) (rest := rest) (by rw [h0]) (by rw [hb]; exact d) t st, q⟩
theorem vx_ialdZ {D : va_G} {cl : List vw_C} {ws : va_W} {tys : List (ClassId × FieldType)} {a : Nat} (hexec : p.tables.exec = Jvm.exec) (hb : c.code = cc) (hK : va_K D cl tys s) (hP : va_P D cl ws H) (q0 t0 : Nat) {cA : ClassId} {n : Nat} {f : Nat → Int32} (ha : ws[q0]? = some (a, .inl (cA, n, .inl f))) (ht : tys[t0]? = some (cA, .int)) {i : Int32} (hout : ¬ vp_in i n) (hdg : decode cc pc = .ok (.iaload, 1))
    (k : ∀ tx : String, tx = (toString "Index " ++ toString i ++ toString " out of bounds for length " ++ toString n : String) → vx_Note p l e R s m args below meth c H locs cells slots Q (F0 m pc ls rest) "java/lang/ArrayIndexOutOfBoundsException" tx) : W p l e R s m args below meth c H locs cells slots Q (F0 m pc ls (.int i :: .ref a :: rest)) := by
  intro T hT X
  obtain ⟨t, st, q⟩ := k _ rfl T hT X
  refine ⟨t, ?_, q⟩
  have h1 := X.ialoadOut hexec (by rw [hT]; exact hP q0 _ ha) ((hK.2 t0 _ ht).1 n (fun j => .int (f j))) (j := i) (by show (i < 0 ∨ (arrV _ _ _).slots.size ≤ _); rw [arrV_size]; exact Classical.byContradiction hout) (g := F0 m pc ls (.int i :: .ref a :: rest)) rfl (rest := rest) rfl (by rw [hb]; exact hdg) t
  simp only [arrV_size] at h1
  exact h1 st
theorem vx_iastZ {D : va_G} {cl : List vw_C} {ws : va_W} {tys : List (ClassId × FieldType)} {a : Nat} (hexec : p.tables.exec = Jvm.exec) (hb : c.code = cc) (hK : va_K D cl tys s) (hP : va_P D cl ws H) (q0 t0 : Nat) {cA : ClassId} {n : Nat} {f : Nat → Int32} (ha : ws[q0]? = some (a, .inl (cA, n, .inl f))) (ht : tys[t0]? = some (cA, .int)) {i : Int32} {x : Int32} (hout : ¬ vp_in i n) (hdg : decode cc pc = .ok (.iastore, 1))
    (k : ∀ tx : String, tx = (toString "Index " ++ toString i ++ toString " out of bounds for length " ++ toString n : String) → vx_Note p l e R s m args below meth c H locs cells slots Q (F0 m pc ls rest) "java/lang/ArrayIndexOutOfBoundsException" tx) : W p l e R s m args below meth c H locs cells slots Q (F0 m pc ls (.int x :: .int i :: .ref a :: rest)) := by
  intro T hT X
  obtain ⟨t, st, q⟩ := k _ rfl T hT X
  refine ⟨t, ?_, q⟩
  have h1 := X.iastoreOut hexec (by rw [hT]; exact hP q0 _ ha) ((hK.2 t0 _ ht).1 n (fun j => .int (f j))) (j := i) (by show (i < 0 ∨ (arrV _ _ _).slots.size ≤ _); rw [arrV_size]; exact Classical.byContradiction hout) (g := F0 m pc ls (.int x :: .int i :: .ref a :: rest)) rfl (rest := rest) rfl (by rw [hb]; exact hdg) t
  simp only [arrV_size] at h1
  exact h1 st
theorem vx_baldZ {D : va_G} {cl : List vw_C} {ws : va_W} {tys : List (ClassId × FieldType)} {a : Nat} (hexec : p.tables.exec = Jvm.exec) (hb : c.code = cc) (hK : va_K D cl tys s) (hP : va_P D cl ws H) (q0 t0 : Nat) {cA : ClassId} {n : Nat} {f : Nat → Int32} (ha : ws[q0]? = some (a, .inl (cA, n, .inl f))) (ht : tys[t0]? = some (cA, .byte)) {i : Int32} (hout : ¬ vp_in i n) (hdg : decode cc pc = .ok (.baload, 1))
    (k : ∀ tx : String, tx = (toString "Index " ++ toString i ++ toString " out of bounds for length " ++ toString n : String) → vx_Note p l e R s m args below meth c H locs cells slots Q (F0 m pc ls rest) "java/lang/ArrayIndexOutOfBoundsException" tx) : W p l e R s m args below meth c H locs cells slots Q (F0 m pc ls (.int i :: .ref a :: rest)) := by
  intro T hT X
  obtain ⟨t, st, q⟩ := k _ rfl T hT X
  refine ⟨t, ?_, q⟩
  have h1 := X.baloadOut hexec (by rw [hT]; exact hP q0 _ ha) ((hK.2 t0 _ ht).1 n (fun j => .int (f j))) (j := i) (by show (i < 0 ∨ (arrV _ _ _).slots.size ≤ _); rw [arrV_size]; exact Classical.byContradiction hout) (g := F0 m pc ls (.int i :: .ref a :: rest)) rfl (rest := rest) rfl (by rw [hb]; exact hdg) t
  simp only [arrV_size] at h1
  exact h1 st
theorem vx_bastZ {D : va_G} {cl : List vw_C} {ws : va_W} {tys : List (ClassId × FieldType)} {a : Nat} (hexec : p.tables.exec = Jvm.exec) (hb : c.code = cc) (hK : va_K D cl tys s) (hP : va_P D cl ws H) (q0 t0 : Nat) {cA : ClassId} {n : Nat} {f : Nat → Int32} (ha : ws[q0]? = some (a, .inl (cA, n, .inl f))) (ht : tys[t0]? = some (cA, .byte)) {i : Int32} {x : Int32} (hout : ¬ vp_in i n) (hdg : decode cc pc = .ok (.bastore, 1))
    (k : ∀ tx : String, tx = (toString "Index " ++ toString i ++ toString " out of bounds for length " ++ toString n : String) → vx_Note p l e R s m args below meth c H locs cells slots Q (F0 m pc ls rest) "java/lang/ArrayIndexOutOfBoundsException" tx) : W p l e R s m args below meth c H locs cells slots Q (F0 m pc ls (.int x :: .int i :: .ref a :: rest)) := by
  intro T hT X
  obtain ⟨t, st, q⟩ := k _ rfl T hT X
  refine ⟨t, ?_, q⟩
  have h1 := X.bastoreOut hexec (by rw [hT]; exact hP q0 _ ha) ((hK.2 t0 _ ht).1 n (fun j => .int (f j))) (j := i) (by show (i < 0 ∨ (arrV _ _ _).slots.size ≤ _); rw [arrV_size]; exact Classical.byContradiction hout) (g := F0 m pc ls (.int x :: .int i :: .ref a :: rest)) rfl (rest := rest) rfl (by rw [hb]; exact hdg) t
  simp only [arrV_size] at h1
  exact h1 st
theorem vx_zaldZ {D : va_G} {cl : List vw_C} {ws : va_W} {tys : List (ClassId × FieldType)} {a : Nat} (hexec : p.tables.exec = Jvm.exec) (hb : c.code = cc) (hK : va_K D cl tys s) (hP : va_P D cl ws H) (q0 t0 : Nat) {cA : ClassId} {n : Nat} {f : Nat → Int32} (ha : ws[q0]? = some (a, .inl (cA, n, .inl f))) (ht : tys[t0]? = some (cA, .boolean)) {i : Int32} (hout : ¬ vp_in i n) (hdg : decode cc pc = .ok (.baload, 1))
    (k : ∀ tx : String, tx = (toString "Index " ++ toString i ++ toString " out of bounds for length " ++ toString n : String) → vx_Note p l e R s m args below meth c H locs cells slots Q (F0 m pc ls rest) "java/lang/ArrayIndexOutOfBoundsException" tx) : W p l e R s m args below meth c H locs cells slots Q (F0 m pc ls (.int i :: .ref a :: rest)) := by
  intro T hT X
  obtain ⟨t, st, q⟩ := k _ rfl T hT X
  refine ⟨t, ?_, q⟩
  have h1 := X.baloadOut hexec (by rw [hT]; exact hP q0 _ ha) ((hK.2 t0 _ ht).1 n (fun j => .int (f j))) (j := i) (by show (i < 0 ∨ (arrV _ _ _).slots.size ≤ _); rw [arrV_size]; exact Classical.byContradiction hout) (g := F0 m pc ls (.int i :: .ref a :: rest)) rfl (rest := rest) rfl (by rw [hb]; exact hdg) t
  simp only [arrV_size] at h1
  exact h1 st
theorem vx_zastZ {D : va_G} {cl : List vw_C} {ws : va_W} {tys : List (ClassId × FieldType)} {a : Nat} (hexec : p.tables.exec = Jvm.exec) (hb : c.code = cc) (hK : va_K D cl tys s) (hP : va_P D cl ws H) (q0 t0 : Nat) {cA : ClassId} {n : Nat} {f : Nat → Int32} (ha : ws[q0]? = some (a, .inl (cA, n, .inl f))) (ht : tys[t0]? = some (cA, .boolean)) {i : Int32} {x : Int32} (hout : ¬ vp_in i n) (hdg : decode cc pc = .ok (.bastore, 1))
    (k : ∀ tx : String, tx = (toString "Index " ++ toString i ++ toString " out of bounds for length " ++ toString n : String) → vx_Note p l e R s m args below meth c H locs cells slots Q (F0 m pc ls rest) "java/lang/ArrayIndexOutOfBoundsException" tx) : W p l e R s m args below meth c H locs cells slots Q (F0 m pc ls (.int x :: .int i :: .ref a :: rest)) := by
  intro T hT X
  obtain ⟨t, st, q⟩ := k _ rfl T hT X
  refine ⟨t, ?_, q⟩
  have h1 := X.bastoreOut hexec (by rw [hT]; exact hP q0 _ ha) ((hK.2 t0 _ ht).1 n (fun j => .int (f j))) (j := i) (by show (i < 0 ∨ (arrV _ _ _).slots.size ≤ _); rw [arrV_size]; exact Classical.byContradiction hout) (g := F0 m pc ls (.int x :: .int i :: .ref a :: rest)) rfl (rest := rest) rfl (by rw [hb]; exact hdg) t
  simp only [arrV_size] at h1
  exact h1 st
theorem vx_caldZ {D : va_G} {cl : List vw_C} {ws : va_W} {tys : List (ClassId × FieldType)} {a : Nat} (hexec : p.tables.exec = Jvm.exec) (hb : c.code = cc) (hK : va_K D cl tys s) (hP : va_P D cl ws H) (q0 t0 : Nat) {cA : ClassId} {n : Nat} {f : Nat → Int32} (ha : ws[q0]? = some (a, .inl (cA, n, .inl f))) (ht : tys[t0]? = some (cA, .char)) {i : Int32} (hout : ¬ vp_in i n) (hdg : decode cc pc = .ok (.caload, 1))
    (k : ∀ tx : String, tx = (toString "Index " ++ toString i ++ toString " out of bounds for length " ++ toString n : String) → vx_Note p l e R s m args below meth c H locs cells slots Q (F0 m pc ls rest) "java/lang/ArrayIndexOutOfBoundsException" tx) : W p l e R s m args below meth c H locs cells slots Q (F0 m pc ls (.int i :: .ref a :: rest)) := by
  intro T hT X
  obtain ⟨t, st, q⟩ := k _ rfl T hT X
  refine ⟨t, ?_, q⟩
  have h1 := X.caloadOut hexec (by rw [hT]; exact hP q0 _ ha) ((hK.2 t0 _ ht).1 n (fun j => .int (f j))) (j := i) (by show (i < 0 ∨ (arrV _ _ _).slots.size ≤ _); rw [arrV_size]; exact Classical.byContradiction hout) (g := F0 m pc ls (.int i :: .ref a :: rest)) rfl (rest := rest) rfl (by rw [hb]; exact hdg) t
  simp only [arrV_size] at h1
  exact h1 st
theorem vx_castZ {D : va_G} {cl : List vw_C} {ws : va_W} {tys : List (ClassId × FieldType)} {a : Nat} (hexec : p.tables.exec = Jvm.exec) (hb : c.code = cc) (hK : va_K D cl tys s) (hP : va_P D cl ws H) (q0 t0 : Nat) {cA : ClassId} {n : Nat} {f : Nat → Int32} (ha : ws[q0]? = some (a, .inl (cA, n, .inl f))) (ht : tys[t0]? = some (cA, .char)) {i : Int32} {x : Int32} (hout : ¬ vp_in i n) (hdg : decode cc pc = .ok (.castore, 1))
    (k : ∀ tx : String, tx = (toString "Index " ++ toString i ++ toString " out of bounds for length " ++ toString n : String) → vx_Note p l e R s m args below meth c H locs cells slots Q (F0 m pc ls rest) "java/lang/ArrayIndexOutOfBoundsException" tx) : W p l e R s m args below meth c H locs cells slots Q (F0 m pc ls (.int x :: .int i :: .ref a :: rest)) := by
  intro T hT X
  obtain ⟨t, st, q⟩ := k _ rfl T hT X
  refine ⟨t, ?_, q⟩
  have h1 := X.castoreOut hexec (by rw [hT]; exact hP q0 _ ha) ((hK.2 t0 _ ht).1 n (fun j => .int (f j))) (j := i) (by show (i < 0 ∨ (arrV _ _ _).slots.size ≤ _); rw [arrV_size]; exact Classical.byContradiction hout) (g := F0 m pc ls (.int x :: .int i :: .ref a :: rest)) rfl (rest := rest) rfl (by rw [hb]; exact hdg) t
  simp only [arrV_size] at h1
  exact h1 st
theorem vx_saldZ {D : va_G} {cl : List vw_C} {ws : va_W} {tys : List (ClassId × FieldType)} {a : Nat} (hexec : p.tables.exec = Jvm.exec) (hb : c.code = cc) (hK : va_K D cl tys s) (hP : va_P D cl ws H) (q0 t0 : Nat) {cA : ClassId} {n : Nat} {f : Nat → Int32} (ha : ws[q0]? = some (a, .inl (cA, n, .inl f))) (ht : tys[t0]? = some (cA, .short)) {i : Int32} (hout : ¬ vp_in i n) (hdg : decode cc pc = .ok (.saload, 1))
    (k : ∀ tx : String, tx = (toString "Index " ++ toString i ++ toString " out of bounds for length " ++ toString n : String) → vx_Note p l e R s m args below meth c H locs cells slots Q (F0 m pc ls rest) "java/lang/ArrayIndexOutOfBoundsException" tx) : W p l e R s m args below meth c H locs cells slots Q (F0 m pc ls (.int i :: .ref a :: rest)) := by
  intro T hT X
  obtain ⟨t, st, q⟩ := k _ rfl T hT X
  refine ⟨t, ?_, q⟩
  have h1 := X.saloadOut hexec (by rw [hT]; exact hP q0 _ ha) ((hK.2 t0 _ ht).1 n (fun j => .int (f j))) (j := i) (by show (i < 0 ∨ (arrV _ _ _).slots.size ≤ _); rw [arrV_size]; exact Classical.byContradiction hout) (g := F0 m pc ls (.int i :: .ref a :: rest)) rfl (rest := rest) rfl (by rw [hb]; exact hdg) t
  simp only [arrV_size] at h1
  exact h1 st
theorem vx_sastZ {D : va_G} {cl : List vw_C} {ws : va_W} {tys : List (ClassId × FieldType)} {a : Nat} (hexec : p.tables.exec = Jvm.exec) (hb : c.code = cc) (hK : va_K D cl tys s) (hP : va_P D cl ws H) (q0 t0 : Nat) {cA : ClassId} {n : Nat} {f : Nat → Int32} (ha : ws[q0]? = some (a, .inl (cA, n, .inl f))) (ht : tys[t0]? = some (cA, .short)) {i : Int32} {x : Int32} (hout : ¬ vp_in i n) (hdg : decode cc pc = .ok (.sastore, 1))
    (k : ∀ tx : String, tx = (toString "Index " ++ toString i ++ toString " out of bounds for length " ++ toString n : String) → vx_Note p l e R s m args below meth c H locs cells slots Q (F0 m pc ls rest) "java/lang/ArrayIndexOutOfBoundsException" tx) : W p l e R s m args below meth c H locs cells slots Q (F0 m pc ls (.int x :: .int i :: .ref a :: rest)) := by
  intro T hT X
  obtain ⟨t, st, q⟩ := k _ rfl T hT X
  refine ⟨t, ?_, q⟩
  have h1 := X.sastoreOut hexec (by rw [hT]; exact hP q0 _ ha) ((hK.2 t0 _ ht).1 n (fun j => .int (f j))) (j := i) (by show (i < 0 ∨ (arrV _ _ _).slots.size ≤ _); rw [arrV_size]; exact Classical.byContradiction hout) (g := F0 m pc ls (.int x :: .int i :: .ref a :: rest)) rfl (rest := rest) rfl (by rw [hb]; exact hdg) t
  simp only [arrV_size] at h1
  exact h1 st
theorem vx_laldZ {D : va_G} {cl : List vw_C} {ws : va_W} {tys : List (ClassId × FieldType)} {a : Nat} (hexec : p.tables.exec = Jvm.exec) (hb : c.code = cc) (hK : va_K D cl tys s) (hP : va_P D cl ws H) (q0 t0 : Nat) {cA : ClassId} {n : Nat} {f : Nat → Int64} (ha : ws[q0]? = some (a, .inl (cA, n, .inr (.inl f)))) (ht : tys[t0]? = some (cA, .long)) {i : Int32} (hout : ¬ vp_in i n) (hdg : decode cc pc = .ok (.laload, 1))
    (k : ∀ tx : String, tx = (toString "Index " ++ toString i ++ toString " out of bounds for length " ++ toString n : String) → vx_Note p l e R s m args below meth c H locs cells slots Q (F0 m pc ls rest) "java/lang/ArrayIndexOutOfBoundsException" tx) : W p l e R s m args below meth c H locs cells slots Q (F0 m pc ls (.int i :: .ref a :: rest)) := by
  intro T hT X
  obtain ⟨t, st, q⟩ := k _ rfl T hT X
  refine ⟨t, ?_, q⟩
  have h1 := X.laloadOut hexec (by rw [hT]; exact hP q0 _ ha) ((hK.2 t0 _ ht).1 n (fun j => .long (f j))) (j := i) (by show (i < 0 ∨ (arrV _ _ _).slots.size ≤ _); rw [arrV_size]; exact Classical.byContradiction hout) (g := F0 m pc ls (.int i :: .ref a :: rest)) rfl (rest := rest) rfl (by rw [hb]; exact hdg) t
  simp only [arrV_size] at h1
  exact h1 st
theorem vx_lastZ {D : va_G} {cl : List vw_C} {ws : va_W} {tys : List (ClassId × FieldType)} {a : Nat} (hexec : p.tables.exec = Jvm.exec) (hb : c.code = cc) (hK : va_K D cl tys s) (hP : va_P D cl ws H) (q0 t0 : Nat) {cA : ClassId} {n : Nat} {f : Nat → Int64} (ha : ws[q0]? = some (a, .inl (cA, n, .inr (.inl f)))) (ht : tys[t0]? = some (cA, .long)) {i : Int32} {x : Int64} (hout : ¬ vp_in i n) (hdg : decode cc pc = .ok (.lastore, 1))
    (k : ∀ tx : String, tx = (toString "Index " ++ toString i ++ toString " out of bounds for length " ++ toString n : String) → vx_Note p l e R s m args below meth c H locs cells slots Q (F0 m pc ls rest) "java/lang/ArrayIndexOutOfBoundsException" tx) : W p l e R s m args below meth c H locs cells slots Q (F0 m pc ls (.long x :: .int i :: .ref a :: rest)) := by
  intro T hT X
  obtain ⟨t, st, q⟩ := k _ rfl T hT X
  refine ⟨t, ?_, q⟩
  have h1 := X.lastoreOut hexec (by rw [hT]; exact hP q0 _ ha) ((hK.2 t0 _ ht).1 n (fun j => .long (f j))) (j := i) (by show (i < 0 ∨ (arrV _ _ _).slots.size ≤ _); rw [arrV_size]; exact Classical.byContradiction hout) (g := F0 m pc ls (.long x :: .int i :: .ref a :: rest)) rfl (rest := rest) rfl (by rw [hb]; exact hdg) t
  simp only [arrV_size] at h1
  exact h1 st
theorem vx_faldZ {D : va_G} {cl : List vw_C} {ws : va_W} {tys : List (ClassId × FieldType)} {a : Nat} (hexec : p.tables.exec = Jvm.exec) (hb : c.code = cc) (hK : va_K D cl tys s) (hP : va_P D cl ws H) (q0 t0 : Nat) {cA : ClassId} {n : Nat} {f : Nat → UInt32} (ha : ws[q0]? = some (a, .inl (cA, n, .inr (.inr (.inl f))))) (ht : tys[t0]? = some (cA, .float)) {i : Int32} (hout : ¬ vp_in i n) (hdg : decode cc pc = .ok (.faload, 1))
    (k : ∀ tx : String, tx = (toString "Index " ++ toString i ++ toString " out of bounds for length " ++ toString n : String) → vx_Note p l e R s m args below meth c H locs cells slots Q (F0 m pc ls rest) "java/lang/ArrayIndexOutOfBoundsException" tx) : W p l e R s m args below meth c H locs cells slots Q (F0 m pc ls (.int i :: .ref a :: rest)) := by
  intro T hT X
  obtain ⟨t, st, q⟩ := k _ rfl T hT X
  refine ⟨t, ?_, q⟩
  have h1 := X.faloadOut hexec (by rw [hT]; exact hP q0 _ ha) ((hK.2 t0 _ ht).1 n (fun j => .float (f j))) (j := i) (by show (i < 0 ∨ (arrV _ _ _).slots.size ≤ _); rw [arrV_size]; exact Classical.byContradiction hout) (g := F0 m pc ls (.int i :: .ref a :: rest)) rfl (rest := rest) rfl (by rw [hb]; exact hdg) t
  simp only [arrV_size] at h1
  exact h1 st
theorem vx_fastZ {D : va_G} {cl : List vw_C} {ws : va_W} {tys : List (ClassId × FieldType)} {a : Nat} (hexec : p.tables.exec = Jvm.exec) (hb : c.code = cc) (hK : va_K D cl tys s) (hP : va_P D cl ws H) (q0 t0 : Nat) {cA : ClassId} {n : Nat} {f : Nat → UInt32} (ha : ws[q0]? = some (a, .inl (cA, n, .inr (.inr (.inl f))))) (ht : tys[t0]? = some (cA, .float)) {i : Int32} {x : UInt32} (hout : ¬ vp_in i n) (hdg : decode cc pc = .ok (.fastore, 1))
    (k : ∀ tx : String, tx = (toString "Index " ++ toString i ++ toString " out of bounds for length " ++ toString n : String) → vx_Note p l e R s m args below meth c H locs cells slots Q (F0 m pc ls rest) "java/lang/ArrayIndexOutOfBoundsException" tx) : W p l e R s m args below meth c H locs cells slots Q (F0 m pc ls (.float x :: .int i :: .ref a :: rest)) := by
  intro T hT X
  obtain ⟨t, st, q⟩ := k _ rfl T hT X
  refine ⟨t, ?_, q⟩
  have h1 := X.fastoreOut hexec (by rw [hT]; exact hP q0 _ ha) ((hK.2 t0 _ ht).1 n (fun j => .float (f j))) (j := i) (by show (i < 0 ∨ (arrV _ _ _).slots.size ≤ _); rw [arrV_size]; exact Classical.byContradiction hout) (g := F0 m pc ls (.float x :: .int i :: .ref a :: rest)) rfl (rest := rest) rfl (by rw [hb]; exact hdg) t
  simp only [arrV_size] at h1
  exact h1 st
theorem vx_daldZ {D : va_G} {cl : List vw_C} {ws : va_W} {tys : List (ClassId × FieldType)} {a : Nat} (hexec : p.tables.exec = Jvm.exec) (hb : c.code = cc) (hK : va_K D cl tys s) (hP : va_P D cl ws H) (q0 t0 : Nat) {cA : ClassId} {n : Nat} {f : Nat → UInt64} (ha : ws[q0]? = some (a, .inl (cA, n, .inr (.inr (.inr (.inl f)))))) (ht : tys[t0]? = some (cA, .double)) {i : Int32} (hout : ¬ vp_in i n) (hdg : decode cc pc = .ok (.daload, 1))
    (k : ∀ tx : String, tx = (toString "Index " ++ toString i ++ toString " out of bounds for length " ++ toString n : String) → vx_Note p l e R s m args below meth c H locs cells slots Q (F0 m pc ls rest) "java/lang/ArrayIndexOutOfBoundsException" tx) : W p l e R s m args below meth c H locs cells slots Q (F0 m pc ls (.int i :: .ref a :: rest)) := by
  intro T hT X
  obtain ⟨t, st, q⟩ := k _ rfl T hT X
  refine ⟨t, ?_, q⟩
  have h1 := X.daloadOut hexec (by rw [hT]; exact hP q0 _ ha) ((hK.2 t0 _ ht).1 n (fun j => .double (f j))) (j := i) (by show (i < 0 ∨ (arrV _ _ _).slots.size ≤ _); rw [arrV_size]; exact Classical.byContradiction hout) (g := F0 m pc ls (.int i :: .ref a :: rest)) rfl (rest := rest) rfl (by rw [hb]; exact hdg) t
  simp only [arrV_size] at h1
  exact h1 st
theorem vx_dastZ {D : va_G} {cl : List vw_C} {ws : va_W} {tys : List (ClassId × FieldType)} {a : Nat} (hexec : p.tables.exec = Jvm.exec) (hb : c.code = cc) (hK : va_K D cl tys s) (hP : va_P D cl ws H) (q0 t0 : Nat) {cA : ClassId} {n : Nat} {f : Nat → UInt64} (ha : ws[q0]? = some (a, .inl (cA, n, .inr (.inr (.inr (.inl f)))))) (ht : tys[t0]? = some (cA, .double)) {i : Int32} {x : UInt64} (hout : ¬ vp_in i n) (hdg : decode cc pc = .ok (.dastore, 1))
    (k : ∀ tx : String, tx = (toString "Index " ++ toString i ++ toString " out of bounds for length " ++ toString n : String) → vx_Note p l e R s m args below meth c H locs cells slots Q (F0 m pc ls rest) "java/lang/ArrayIndexOutOfBoundsException" tx) : W p l e R s m args below meth c H locs cells slots Q (F0 m pc ls (.double x :: .int i :: .ref a :: rest)) := by
  intro T hT X
  obtain ⟨t, st, q⟩ := k _ rfl T hT X
  refine ⟨t, ?_, q⟩
  have h1 := X.dastoreOut hexec (by rw [hT]; exact hP q0 _ ha) ((hK.2 t0 _ ht).1 n (fun j => .double (f j))) (j := i) (by show (i < 0 ∨ (arrV _ _ _).slots.size ≤ _); rw [arrV_size]; exact Classical.byContradiction hout) (g := F0 m pc ls (.double x :: .int i :: .ref a :: rest)) rfl (rest := rest) rfl (by rw [hb]; exact hdg) t
  simp only [arrV_size] at h1
  exact h1 st
theorem vx_arraylengthN (hexec : p.tables.exec = Jvm.exec) (hb : c.code = cc) (hdg : decode cc pc = .ok (.arraylength, 1)) (k : vx_NoteN p l e R s m args below meth c H locs cells slots Q (F0 m pc ls rest)) : W p l e R s m args below meth c H locs cells slots Q (F0 m pc ls (.null :: rest)) := by
  intro T hT X
  obtain ⟨t, st, q⟩ := k T hT X
  exact ⟨t, X.arraylengthNull hexec (g := F0 m pc ls (.null :: rest)) rfl (rest := rest) rfl (by rw [hb]; exact hdg) t st, q⟩
theorem vx_ialoadN (hexec : p.tables.exec = Jvm.exec) (hb : c.code = cc) {i : Int32} (hdg : decode cc pc = .ok (.iaload, 1)) (k : vx_NoteN p l e R s m args below meth c H locs cells slots Q (F0 m pc ls rest)) : W p l e R s m args below meth c H locs cells slots Q (F0 m pc ls (.int i :: .null :: rest)) := by
  intro T hT X
  obtain ⟨t, st, q⟩ := k T hT X
  exact ⟨t, X.ialoadNull hexec (g := F0 m pc ls (.int i :: .null :: rest)) rfl (rest := rest) rfl (by rw [hb]; exact hdg) t st, q⟩
theorem vx_laloadN (hexec : p.tables.exec = Jvm.exec) (hb : c.code = cc) {i : Int32} (hdg : decode cc pc = .ok (.laload, 1)) (k : vx_NoteN p l e R s m args below meth c H locs cells slots Q (F0 m pc ls rest)) : W p l e R s m args below meth c H locs cells slots Q (F0 m pc ls (.int i :: .null :: rest)) := by
  intro T hT X
  obtain ⟨t, st, q⟩ := k T hT X
  exact ⟨t, X.laloadNull hexec (g := F0 m pc ls (.int i :: .null :: rest)) rfl (rest := rest) rfl (by rw [hb]; exact hdg) t st, q⟩
theorem vx_faloadN (hexec : p.tables.exec = Jvm.exec) (hb : c.code = cc) {i : Int32} (hdg : decode cc pc = .ok (.faload, 1)) (k : vx_NoteN p l e R s m args below meth c H locs cells slots Q (F0 m pc ls rest)) : W p l e R s m args below meth c H locs cells slots Q (F0 m pc ls (.int i :: .null :: rest)) := by
  intro T hT X
  obtain ⟨t, st, q⟩ := k T hT X
  exact ⟨t, X.faloadNull hexec (g := F0 m pc ls (.int i :: .null :: rest)) rfl (rest := rest) rfl (by rw [hb]; exact hdg) t st, q⟩
theorem vx_daloadN (hexec : p.tables.exec = Jvm.exec) (hb : c.code = cc) {i : Int32} (hdg : decode cc pc = .ok (.daload, 1)) (k : vx_NoteN p l e R s m args below meth c H locs cells slots Q (F0 m pc ls rest)) : W p l e R s m args below meth c H locs cells slots Q (F0 m pc ls (.int i :: .null :: rest)) := by
  intro T hT X
  obtain ⟨t, st, q⟩ := k T hT X
  exact ⟨t, X.daloadNull hexec (g := F0 m pc ls (.int i :: .null :: rest)) rfl (rest := rest) rfl (by rw [hb]; exact hdg) t st, q⟩
theorem vx_aaloadN (hexec : p.tables.exec = Jvm.exec) (hb : c.code = cc) {i : Int32} (hdg : decode cc pc = .ok (.aaload, 1)) (k : vx_NoteN p l e R s m args below meth c H locs cells slots Q (F0 m pc ls rest)) : W p l e R s m args below meth c H locs cells slots Q (F0 m pc ls (.int i :: .null :: rest)) := by
  intro T hT X
  obtain ⟨t, st, q⟩ := k T hT X
  exact ⟨t, X.aaloadNull hexec (g := F0 m pc ls (.int i :: .null :: rest)) rfl (rest := rest) rfl (by rw [hb]; exact hdg) t st, q⟩
theorem vx_baloadN (hexec : p.tables.exec = Jvm.exec) (hb : c.code = cc) {i : Int32} (hdg : decode cc pc = .ok (.baload, 1)) (k : vx_NoteN p l e R s m args below meth c H locs cells slots Q (F0 m pc ls rest)) : W p l e R s m args below meth c H locs cells slots Q (F0 m pc ls (.int i :: .null :: rest)) := by
  intro T hT X
  obtain ⟨t, st, q⟩ := k T hT X
  exact ⟨t, X.baloadNull hexec (g := F0 m pc ls (.int i :: .null :: rest)) rfl (rest := rest) rfl (by rw [hb]; exact hdg) t st, q⟩
theorem vx_caloadN (hexec : p.tables.exec = Jvm.exec) (hb : c.code = cc) {i : Int32} (hdg : decode cc pc = .ok (.caload, 1)) (k : vx_NoteN p l e R s m args below meth c H locs cells slots Q (F0 m pc ls rest)) : W p l e R s m args below meth c H locs cells slots Q (F0 m pc ls (.int i :: .null :: rest)) := by
  intro T hT X
  obtain ⟨t, st, q⟩ := k T hT X
  exact ⟨t, X.caloadNull hexec (g := F0 m pc ls (.int i :: .null :: rest)) rfl (rest := rest) rfl (by rw [hb]; exact hdg) t st, q⟩
theorem vx_saloadN (hexec : p.tables.exec = Jvm.exec) (hb : c.code = cc) {i : Int32} (hdg : decode cc pc = .ok (.saload, 1)) (k : vx_NoteN p l e R s m args below meth c H locs cells slots Q (F0 m pc ls rest)) : W p l e R s m args below meth c H locs cells slots Q (F0 m pc ls (.int i :: .null :: rest)) := by
  intro T hT X
  obtain ⟨t, st, q⟩ := k T hT X
  exact ⟨t, X.saloadNull hexec (g := F0 m pc ls (.int i :: .null :: rest)) rfl (rest := rest) rfl (by rw [hb]; exact hdg) t st, q⟩
theorem vx_iastoreN (hexec : p.tables.exec = Jvm.exec) (hb : c.code = cc) {x : Int32} {i : Int32} (hdg : decode cc pc = .ok (.iastore, 1)) (k : vx_NoteN p l e R s m args below meth c H locs cells slots Q (F0 m pc ls rest)) : W p l e R s m args below meth c H locs cells slots Q (F0 m pc ls (.int x :: .int i :: .null :: rest)) := by
  intro T hT X
  obtain ⟨t, st, q⟩ := k T hT X
  exact ⟨t, X.iastoreNull hexec (g := F0 m pc ls (.int x :: .int i :: .null :: rest)) rfl (rest := rest) rfl (by rw [hb]; exact hdg) t st, q⟩
theorem vx_lastoreN (hexec : p.tables.exec = Jvm.exec) (hb : c.code = cc) {x : Int64} {i : Int32} (hdg : decode cc pc = .ok (.lastore, 1)) (k : vx_NoteN p l e R s m args below meth c H locs cells slots Q (F0 m pc ls rest)) : W p l e R s m args below meth c H locs cells slots Q (F0 m pc ls (.long x :: .int i :: .null :: rest)) := by
  intro T hT X
  obtain ⟨t, st, q⟩ := k T hT X
  exact ⟨t, X.lastoreNull hexec (g := F0 m pc ls (.long x :: .int i :: .null :: rest)) rfl (rest := rest) rfl (by rw [hb]; exact hdg) t st, q⟩
theorem vx_fastoreN (hexec : p.tables.exec = Jvm.exec) (hb : c.code = cc) {x : UInt32} {i : Int32} (hdg : decode cc pc = .ok (.fastore, 1)) (k : vx_NoteN p l e R s m args below meth c H locs cells slots Q (F0 m pc ls rest)) : W p l e R s m args below meth c H locs cells slots Q (F0 m pc ls (.float x :: .int i :: .null :: rest)) := by
  intro T hT X
  obtain ⟨t, st, q⟩ := k T hT X
  exact ⟨t, X.fastoreNull hexec (g := F0 m pc ls (.float x :: .int i :: .null :: rest)) rfl (rest := rest) rfl (by rw [hb]; exact hdg) t st, q⟩
theorem vx_dastoreN (hexec : p.tables.exec = Jvm.exec) (hb : c.code = cc) {x : UInt64} {i : Int32} (hdg : decode cc pc = .ok (.dastore, 1)) (k : vx_NoteN p l e R s m args below meth c H locs cells slots Q (F0 m pc ls rest)) : W p l e R s m args below meth c H locs cells slots Q (F0 m pc ls (.double x :: .int i :: .null :: rest)) := by
  intro T hT X
  obtain ⟨t, st, q⟩ := k T hT X
  exact ⟨t, X.dastoreNull hexec (g := F0 m pc ls (.double x :: .int i :: .null :: rest)) rfl (rest := rest) rfl (by rw [hb]; exact hdg) t st, q⟩
theorem vx_bastoreN (hexec : p.tables.exec = Jvm.exec) (hb : c.code = cc) {x : Int32} {i : Int32} (hdg : decode cc pc = .ok (.bastore, 1)) (k : vx_NoteN p l e R s m args below meth c H locs cells slots Q (F0 m pc ls rest)) : W p l e R s m args below meth c H locs cells slots Q (F0 m pc ls (.int x :: .int i :: .null :: rest)) := by
  intro T hT X
  obtain ⟨t, st, q⟩ := k T hT X
  exact ⟨t, X.bastoreNull hexec (g := F0 m pc ls (.int x :: .int i :: .null :: rest)) rfl (rest := rest) rfl (by rw [hb]; exact hdg) t st, q⟩
theorem vx_castoreN (hexec : p.tables.exec = Jvm.exec) (hb : c.code = cc) {x : Int32} {i : Int32} (hdg : decode cc pc = .ok (.castore, 1)) (k : vx_NoteN p l e R s m args below meth c H locs cells slots Q (F0 m pc ls rest)) : W p l e R s m args below meth c H locs cells slots Q (F0 m pc ls (.int x :: .int i :: .null :: rest)) := by
  intro T hT X
  obtain ⟨t, st, q⟩ := k T hT X
  exact ⟨t, X.castoreNull hexec (g := F0 m pc ls (.int x :: .int i :: .null :: rest)) rfl (rest := rest) rfl (by rw [hb]; exact hdg) t st, q⟩
theorem vx_sastoreN (hexec : p.tables.exec = Jvm.exec) (hb : c.code = cc) {x : Int32} {i : Int32} (hdg : decode cc pc = .ok (.sastore, 1)) (k : vx_NoteN p l e R s m args below meth c H locs cells slots Q (F0 m pc ls rest)) : W p l e R s m args below meth c H locs cells slots Q (F0 m pc ls (.int x :: .int i :: .null :: rest)) := by
  intro T hT X
  obtain ⟨t, st, q⟩ := k T hT X
  exact ⟨t, X.sastoreNull hexec (g := F0 m pc ls (.int x :: .int i :: .null :: rest)) rfl (rest := rest) rfl (by rw [hb]; exact hdg) t st, q⟩
theorem vx_invokeN {own C : String} {index maxL : Nat} {y : MethodName} {bytes : ByteArray} {ret : Option FieldType} (hexec : p.tables.exec = Jvm.exec) (hb : c.code = cc) (hown : s.vm.findClass own = some m.cls) (hlink : (Cond.methodLink own index y).before args s = true) (hinst : (Cond.instanceMethod y).before args s = true) (hcode : (Cond.code y bytes maxL ret).before args s = true) (hsel : (Cond.selects C y y).before args s = true)
    (hx : y.cls ≠ "java/lang/invoke/MethodHandle" ∧ y.cls ≠ "java/lang/invoke/VarHandle") {As : List Value} (hlen : (parseMethodDescriptor y.desc).map (fun d => d.parameters.length) = some As.length) (hdg : decode cc pc = .ok (.invokevirtual index, 3))
    (k : vx_NoteN p l e R s m args below meth c H locs cells slots Q (F0 m pc ls rest)) {st0 : List Value} (hst : st0 = As.reverse ++ .null :: rest) : W p l e R s m args below meth c H locs cells slots Q (F0 m pc ls st0) := by
  intro T hT X
  obtain ⟨r0, r, hn, hrm, hstR, hsigR⟩ := va_Decl.of hinst hcode
  obtain ⟨c2, r2, m2, q1, q2, q3, q4, kP, hkP, hkPi⟩ := Cond.selects_spec hsel
  cases hn.symm.trans q3
  have hl9 : As.length = r.sig.parameters.length := by
    rw [hsigR] at hlen
    exact (Option.some.inj hlen).symm
  obtain ⟨vm', X1, st1⟩ := X.invokevirtualNull hexec hown hlink hn hrm hstR hkP hkPi hx (g := F0 m pc ls st0) rfl (argsL := As) (rest := rest) hl9 hst (by rw [hb]; exact hdg)
  obtain ⟨t, st, q⟩ := k (T.setVm vm') hT X1
  exact ⟨t, st1 t st, q⟩
theorem vx_newarrayZ {atype : ArrayType} (hexec : p.tables.exec = Jvm.exec) (hb : c.code = cc) {n : Int32} (h0 : n < 0) (hdg : decode cc pc = .ok (.newarray atype, 2)) (k : ∀ tx : String, tx = toString n → vx_Note p l e R s m args below meth c H locs cells slots Q (F0 m pc ls rest) "java/lang/NegativeArraySizeException" tx) : W p l e R s m args below meth c H locs cells slots Q (F0 m pc ls (.int n :: rest)) := by
  intro T hT X
  obtain ⟨t, st, q⟩ := k _ rfl T hT X
  exact ⟨t, X.newarrayNegative hexec (g := F0 m pc ls (.int n :: rest)) rfl h0 (rest := rest) rfl (by rw [hb]; exact hdg) t st, q⟩
end
end VXM
/-! ===== END ===== -/
/-! ===== BEGIN an exception as an object: made, kept, thrown later (no traces kept) ===== -/
section VXK
variable {p : Program} {l : Launch} {e : Env} {R : Room} {s : State} {m₀ : MethodId} {args : Array Value} {below : List Frame} {meth : Method} {c : Code} {W : State} {locs : List Loc} {cells slots : Nat}
set_option maxHeartbeats 1000000 in
theorem vx_ctorMadeS (X : Stand p l e R s m₀ args below meth c W locs cells slots) (hexec : p.tables.exec = Jvm.exec) (htr : e.platform.stackTraces = false) {own cls : String} {names : List String} {ic : Nat}
    (hown : s.vm.findClass own = some m₀.cls) (hcls : Bundle.fit cls = true) (hnames : ∀ n ∈ names, Bundle.fit n = true)
    (h : ∀ a ∈ Bundle.ownAtoms own ic cls names, a.before args s = true)
    (hlocs : ∀ x ∈ locs, ∀ cell, s.heap[x.base]? = some cell → cell.vm.isStatics = false)
    {a : Addr} {cX : ClassId} {kX : Class} (hfoundX : s.vm.findClass cls = some cX) (hkX : s.vm.classes[cX]? = some kX) (hcell : W.heap[a]? = some (freshCell cX kX)) (hnew : s.heap.size ≤ a)
    {msg : Value} (hmsg : msg.isRef = true)
    {g : JFrame} (hg : g.method = m₀) (hsize : g.locals.size = c.maxLocals) {rest : List Value} (hstack : g.stack = msg :: .ref a :: .ref a :: rest)
    (hd6 : decode c.code g.pc = .ok (.invokespecial ic, 3))
    (hRframes : names.length + 3 < R.frames) (hRlocals : 2 * g.monitorRoom + ((Value.ref a :: rest).map fun v => v.category).sum + (13 * (names.length + 1) + 42) ≤ R.locals) :
    ∃ (V : State) (ce : Cell) (L : List Loc), Stand p l e R s m₀ args below meth c (V.setCell a ce) (locs ++ L) cells slots ∧ (∀ y ∈ L, y.base = a) ∧ a < V.heap.size ∧ ce.cls = cX ∧ ce.vm = .none ∧
      ∀ target, Steps p.tables e below ((V.setCell a ce).setTop { g with stack := .ref a :: rest, pc := g.pc + 3 }) target → Steps p.tables e below (W.setTop g) target := by
  have howns : e.platform.frameOwnsMonitors = true := by rw [X.admits.platform]
  have hfin : e.platform.finalization = false := by rw [X.admits.platform]
  have hpl : e.platform.magicAccessors = ({} : Platform).magicAccessors := by rw [X.admits.platform]
  have a' : ∀ x, x ∈ Bundle.ownAtoms own ic cls names → x.holds args s none s [] = true := fun x hx => h x hx
  obtain ⟨T, Z0, L, -, Y⟩ := ThrowableC.of_atoms (args := args) howns hfin hpl (fun x hx => h x (by simp [Bundle.ownAtoms, hx]))
  obtain ⟨Z, M, LZ, LM, hnZ⟩ := Init0T.ofS_atoms (args := args) hpl L Y (fun x hx => h x (by simp [Bundle.ownAtoms, hx]))
  obtain ⟨P1, Ps, hlen, L1, hL, hP1m, hlink1, hlink⟩ := Bundle.chainS (args := args) hpl hnZ names cls hcls hnames (fun x hx => h x (by simp [Bundle.ownAtoms, hx]))
  have hfound : s.vm.findClass cls = some P1.m.cls := findClass_of_methodNamed hP1m
  cases Option.some.inj (hfoundX.symm.trans hfound)
  obtain ⟨c1, kX', hc1, hk, hord, -, -, hn6⟩ := Cond.instantiable_spec (a' (.instantiable cls 6) (by simp [Bundle.ownAtoms]))
  cases Option.some.inj (hc1.symm.trans hfound)
  cases Option.some.inj (hkX.symm.trans hk)
  have hsel0 : selectMethod e.platform s.vm P1.m.cls T.fill0 = .method T.fill0 := by
    obtain ⟨c2, r2, m2, q1, q2, q3, q4, -⟩ := Cond.selects_spec (a' (.selects cls Bundle.tFill0 Bundle.tFill0) (by simp [Bundle.ownAtoms]))
    cases Option.some.inj (q1.symm.trans hfound)
    cases Option.some.inj (q2.symm.trans (State.methodFound?_of_named Y.fill0 (by decide)))
    cases Option.some.inj (q3.symm.trans Y.fill0)
    rw [Launch.admits_selectMethod X.admits]; exact q4
  have hselF : selectMethod e.platform s.vm P1.m.cls T.fill = .method T.fill := by
    obtain ⟨c2, r2, m2, q1, q2, q3, q4, -⟩ := Cond.selects_spec (a' (.selects cls Bundle.tFill Bundle.tFill) (by simp [Bundle.ownAtoms]))
    cases Option.some.inj (q1.symm.trans hfound)
    cases Option.some.inj (q2.symm.trans (State.methodFound?_of_named Y.fill (by decide)))
    cases Option.some.inj (q3.symm.trans Y.fill)
    rw [Launch.admits_selectMethod X.admits]; exact q4
  obtain ⟨cellS0, hcS0, hiss⟩ := Y.statics
  obtain ⟨u0, hu0⟩ := Cond.staticRefV Y.unassigned L.unassignedStatic L.statics hcS0 hiss (a' (.isRef (.static Bundle.tN "UNASSIGNED_STACK" Bundle.steD)) (by simp [Bundle.ownAtoms]))
  obtain ⟨sen, hsen⟩ := Cond.staticRefV Y.sentinel L.sentinelStatic L.statics hcS0 hiss (a' (.isRef (.static Bundle.tN "SUPPRESSED_SENTINEL" Bundle.listD)) (by simp [Bundle.ownAtoms]))
  obtain ⟨ci198, i198, fB, hk198, hg198, ha198, hsB, -, hnB, htB, hffB⟩ := Cond.ownField (t := .object "java/lang/Object") Y.found L.cls (by decide +kernel) (a' (.fieldLink Bundle.tN 198 Bundle.tN "backtrace" "Ljava/lang/Object;") (by simp [Bundle.ownAtoms])) (a' (.lays Bundle.tN Bundle.tN "backtrace" "Ljava/lang/Object;") (by simp [Bundle.ownAtoms])) e.platform hpl
  obtain ⟨cellS, hcS', heS, -, hkeep⟩ := X.same.2.2.2.2.2 T.aS cellS0 hcS0
  have hcellS : W.heap[T.aS]? = some cellS := hcS'
  have hout' : ∀ i, (⟨T.aS, i⟩ : Loc) ∉ locs := fun i hmem => by
    have := hlocs _ hmem cellS0 hcS0
    rw [hiss] at this; cases this
  have hknownS : cellS.vm ≠ .unknown := by
    rw [heS]; intro hu
    rw [show cellS0.vm = .unknown from hu] at hiss
    cases hiss
  have hneS : T.aS ≠ a := Nat.ne_of_lt (Nat.lt_of_lt_of_le (Array.getElem?_eq_some_iff.mp hcS0).1 hnew)
  obtain ⟨iM, hffM⟩ := Y.msg
  obtain ⟨tyC, dC, hdC, hdnC⟩ := Cond.laysAt hfound hk Y.cause (a' (.lays cls Bundle.tN "cause" "Ljava/lang/Throwable;") (by simp [Bundle.ownAtoms]))
  obtain ⟨tyS, dS, hdS, hdnS⟩ := Cond.laysAt hfound hk Y.stack (a' (.lays cls Bundle.tN "stackTrace" Bundle.steD) (by simp [Bundle.ownAtoms]))
  obtain ⟨tyP, dP, hdP, hdnP⟩ := Cond.laysAt hfound hk Y.supp (a' (.lays cls Bundle.tN "suppressedExceptions" Bundle.listD) (by simp [Bundle.ownAtoms]))
  obtain ⟨tyM, dM, hdM, hdnM⟩ := Cond.laysAt hfound hk hffM (a' (.lays cls Bundle.tN "detailMessage" "Ljava/lang/String;") (by simp [Bundle.ownAtoms]))
  obtain ⟨tyB, dB, hdB, hdnB⟩ := Cond.laysAt hfound hk hffB (a' (.lays cls Bundle.tN "backtrace" "Ljava/lang/Object;") (by simp [Bundle.ownAtoms]))
  have bC := Cond.laysApart hdB hdC hdnB hdnC (by rw [hnB, Y.causeName]; decide)
  have bS := Cond.laysApart hdB hdS hdnB hdnS (by rw [hnB, Y.stackName]; decide)
  have bP := Cond.laysApart hdB hdP hdnB hdnP (by rw [hnB, Y.suppName]; decide)
  have hskip : SkipFacts T e.platform s (fun u => u) u0 ((preparedCellV T.toThrowableT (freshCell P1.m.cls kX) a u0 sen).withEntry W.cur) :=
    ⟨{ ci198 := ci198, i198 := i198, fBack := fB }, ⟨hk198, hg198, ha198, hsB⟩, by
      have := fresh_default (c := P1.m.cls) tyB
      rw [htB] at this
      simpa [preparedCellV, Cell.setSlot, Cell.withEntry, Array.getElem?_setIfInBounds, bC, bS, bP, bC.symm, bS.symm, bP.symm, defaultValue] using this, fun _ _ => rfl⟩
  obtain ⟨tm, methC, cdC, kC, vm₁, hnC, -, -, -, -, -, -, -, hW₁, st1⟩ := Steps.initColdS (tb := p.tables) (e := e) (below := below) (s := s) (U := W) X.here hexec X.warmed hpl hown (t := Bundle.initS cls) rfl rfl (Bundle.fit_spec hcls).2
    (a' (.methodLink own ic (Bundle.initS cls)) (by simp [Bundle.ownAtoms])) (h (.instanceMethod (Bundle.initS cls)) (by cases names <;> simp [Bundle.ownAtoms, Bundle.chainSAtoms, Bundle.passSAtoms])) (bytes := Bundle.six) (maxL := 2) (h (.code (Bundle.initS cls) Bundle.six 2 none) (by cases names <;> simp [Bundle.ownAtoms, Bundle.chainSAtoms, Bundle.passSAtoms]))
    (f := g) hg (a := a) (msg := msg) (rest := .ref a :: rest) hstack hd6
  cases Option.some.inj (hnC.symm.trans hP1m)
  have X₁ := X.noted hW₁
  obtain ⟨vm₂, X₂, st2⟩ := X₁.ctorMessageOffV hexec (g := { g with stack := .ref a :: rest }) hg hsize T L Z LZ M LM (P1 :: Ps)
    (fun P hP => by rcases List.mem_cons.mp hP with rfl | hP; exact L1; exact hL P hP) ⟨hlink1, hlink⟩ (u0 := u0) (sen := sen) (self := a) hmsg (cell := freshCell P1.m.cls kX) (cellS := cellS)
    hcell (fun _ => by simp) (by simp) rfl rfl hsel0 hselF hcellS hneS hknownS (by rw [hkeep _ (hout' _)]; exact hu0) (by rw [hkeep _ (hout' _)]; exact hsen)
    (Takes.of_laid hk hord tyC (by rw [Y.causeType]; rfl)) (Takes.of_laid hk hord tyS (by rw [Y.stackType]; exact fits_refV_array _ u0)) (Takes.of_laid hk hord tyP (by rw [Y.suppType]; exact fits_refV_object _ sen))
    (Takes.of_laid hk hord tyM (by rw [Y.msgType]; exact fits_refV_object _ ⟨msg, hmsg⟩)) Y.objLocals hskip htr [] hd6
    (by simp only [List.length_cons, hlen]; omega) (by simp only [List.length_cons, hlen]; exact hRlocals)
  have hlt : a < ((W.setVm vm₁).setVm vm₂).heap.size := (Array.getElem?_eq_some_iff.mp hcell).1
  refine ⟨(W.setVm vm₁).setVm vm₂, _, _, X₂, fun y hy => ?_, hlt, rfl, rfl, fun target hwalk => st1 _ (fun acts => ?_)⟩
  · simp only [List.mem_cons, List.not_mem_nil, or_false] at hy
    rcases hy with rfl | rfl | rfl | rfl | rfl <;> rfl
  · rw [doInvoke_state]
    exact st2 _ hwalk
set_option maxHeartbeats 1000000 in
theorem vx_ctorMade0 (X : Stand p l e R s m₀ args below meth c W locs cells slots) (hexec : p.tables.exec = Jvm.exec) (htr : e.platform.stackTraces = false) {own cls : String} {names : List String} {ic : Nat}
    (hown : s.vm.findClass own = some m₀.cls) (hcls : Bundle.fit cls = true) (hnames : ∀ n ∈ names, Bundle.fit n = true)
    (h : ∀ a ∈ Bundle.ownAtoms0 own ic cls names, a.before args s = true)
    (hlocs : ∀ x ∈ locs, ∀ cell, s.heap[x.base]? = some cell → cell.vm.isStatics = false)
    {a : Addr} {cX : ClassId} {kX : Class} (hfoundX : s.vm.findClass cls = some cX) (hkX : s.vm.classes[cX]? = some kX) (hcell : W.heap[a]? = some (freshCell cX kX)) (hnew : s.heap.size ≤ a)
    {g : JFrame} (hg : g.method = m₀) (hsize : g.locals.size = c.maxLocals) {rest : List Value} (hstack : g.stack = .ref a :: .ref a :: rest)
    (hd6 : decode c.code g.pc = .ok (.invokespecial ic, 3))
    (hRframes : names.length + 3 < R.frames) (hRlocals : 2 * g.monitorRoom + ((Value.ref a :: rest).map fun v => v.category).sum + (13 * (names.length + 1) + 41) ≤ R.locals) :
    ∃ (V : State) (ce : Cell) (L : List Loc), Stand p l e R s m₀ args below meth c (V.setCell a ce) (locs ++ L) cells slots ∧ (∀ y ∈ L, y.base = a) ∧ a < V.heap.size ∧ ce.cls = cX ∧ ce.vm = .none ∧
      ∀ target, Steps p.tables e below ((V.setCell a ce).setTop { g with stack := .ref a :: rest, pc := g.pc + 3 }) target → Steps p.tables e below (W.setTop g) target := by
  have howns : e.platform.frameOwnsMonitors = true := by rw [X.admits.platform]
  have hfin : e.platform.finalization = false := by rw [X.admits.platform]
  have hpl : e.platform.magicAccessors = ({} : Platform).magicAccessors := by rw [X.admits.platform]
  have a' : ∀ x, x ∈ Bundle.ownAtoms0 own ic cls names → x.holds args s none s [] = true := fun x hx => h x hx
  obtain ⟨T, Z, L, LZ, Y⟩ := ThrowableC.of_atoms (args := args) howns hfin hpl (fun x hx => h x (by simp [Bundle.ownAtoms0, hx]))
  obtain ⟨P1, Ps, hlen, L1, hL, hP1m, hlink1, hlink⟩ := Bundle.chain0 (args := args) hpl Y.init0 names cls hcls hnames (fun x hx => h x (by simp [Bundle.ownAtoms0, hx]))
  have hfound : s.vm.findClass cls = some P1.m.cls := findClass_of_methodNamed hP1m
  cases Option.some.inj (hfoundX.symm.trans hfound)
  obtain ⟨c1, kX', hc1, hk, hord, -, -, hn6⟩ := Cond.instantiable_spec (a' (.instantiable cls 6) (by simp [Bundle.ownAtoms0]))
  cases Option.some.inj (hc1.symm.trans hfound)
  cases Option.some.inj (hkX.symm.trans hk)
  have hsel0 : selectMethod e.platform s.vm P1.m.cls T.fill0 = .method T.fill0 := by
    obtain ⟨c2, r2, m2, q1, q2, q3, q4, -⟩ := Cond.selects_spec (a' (.selects cls Bundle.tFill0 Bundle.tFill0) (by simp [Bundle.ownAtoms0]))
    cases Option.some.inj (q1.symm.trans hfound)
    cases Option.some.inj (q2.symm.trans (State.methodFound?_of_named Y.fill0 (by decide)))
    cases Option.some.inj (q3.symm.trans Y.fill0)
    rw [Launch.admits_selectMethod X.admits]; exact q4
  have hselF : selectMethod e.platform s.vm P1.m.cls T.fill = .method T.fill := by
    obtain ⟨c2, r2, m2, q1, q2, q3, q4, -⟩ := Cond.selects_spec (a' (.selects cls Bundle.tFill Bundle.tFill) (by simp [Bundle.ownAtoms0]))
    cases Option.some.inj (q1.symm.trans hfound)
    cases Option.some.inj (q2.symm.trans (State.methodFound?_of_named Y.fill (by decide)))
    cases Option.some.inj (q3.symm.trans Y.fill)
    rw [Launch.admits_selectMethod X.admits]; exact q4
  obtain ⟨cellS0, hcS0, hiss⟩ := Y.statics
  obtain ⟨u0, hu0⟩ := Cond.staticRefV Y.unassigned L.unassignedStatic L.statics hcS0 hiss (a' (.isRef (.static Bundle.tN "UNASSIGNED_STACK" Bundle.steD)) (by simp [Bundle.ownAtoms0]))
  obtain ⟨sen, hsen⟩ := Cond.staticRefV Y.sentinel L.sentinelStatic L.statics hcS0 hiss (a' (.isRef (.static Bundle.tN "SUPPRESSED_SENTINEL" Bundle.listD)) (by simp [Bundle.ownAtoms0]))
  obtain ⟨ci198, i198, fB, hk198, hg198, ha198, hsB, -, hnB, htB, hffB⟩ := Cond.ownField (t := .object "java/lang/Object") Y.found L.cls (by decide +kernel) (a' (.fieldLink Bundle.tN 198 Bundle.tN "backtrace" "Ljava/lang/Object;") (by simp [Bundle.ownAtoms0])) (a' (.lays Bundle.tN Bundle.tN "backtrace" "Ljava/lang/Object;") (by simp [Bundle.ownAtoms0])) e.platform hpl
  obtain ⟨cellS, hcS', heS, -, hkeep⟩ := X.same.2.2.2.2.2 T.aS cellS0 hcS0
  have hcellS : W.heap[T.aS]? = some cellS := hcS'
  have hout' : ∀ i, (⟨T.aS, i⟩ : Loc) ∉ locs := fun i hmem => by
    have := hlocs _ hmem cellS0 hcS0
    rw [hiss] at this; cases this
  have hknownS : cellS.vm ≠ .unknown := by
    rw [heS]; intro hu
    rw [show cellS0.vm = .unknown from hu] at hiss
    cases hiss
  have hneS : T.aS ≠ a := Nat.ne_of_lt (Nat.lt_of_lt_of_le (Array.getElem?_eq_some_iff.mp hcS0).1 hnew)
  obtain ⟨iM, hffM⟩ := Y.msg
  obtain ⟨tyC, dC, hdC, hdnC⟩ := Cond.laysAt hfound hk Y.cause (a' (.lays cls Bundle.tN "cause" "Ljava/lang/Throwable;") (by simp [Bundle.ownAtoms0]))
  obtain ⟨tyS, dS, hdS, hdnS⟩ := Cond.laysAt hfound hk Y.stack (a' (.lays cls Bundle.tN "stackTrace" Bundle.steD) (by simp [Bundle.ownAtoms0]))
  obtain ⟨tyP, dP, hdP, hdnP⟩ := Cond.laysAt hfound hk Y.supp (a' (.lays cls Bundle.tN "suppressedExceptions" Bundle.listD) (by simp [Bundle.ownAtoms0]))
  obtain ⟨tyM, dM, hdM, hdnM⟩ := Cond.laysAt hfound hk hffM (a' (.lays cls Bundle.tN "detailMessage" "Ljava/lang/String;") (by simp [Bundle.ownAtoms0]))
  obtain ⟨tyB, dB, hdB, hdnB⟩ := Cond.laysAt hfound hk hffB (a' (.lays cls Bundle.tN "backtrace" "Ljava/lang/Object;") (by simp [Bundle.ownAtoms0]))
  have bC := Cond.laysApart hdB hdC hdnB hdnC (by rw [hnB, Y.causeName]; decide)
  have bS := Cond.laysApart hdB hdS hdnB hdnS (by rw [hnB, Y.stackName]; decide)
  have bP := Cond.laysApart hdB hdP hdnB hdnP (by rw [hnB, Y.suppName]; decide)
  have hskip : SkipFacts T e.platform s (fun u => u) u0 ((preparedCellV T.toThrowableT (freshCell P1.m.cls kX) a u0 sen).withEntry W.cur) :=
    ⟨{ ci198 := ci198, i198 := i198, fBack := fB }, ⟨hk198, hg198, ha198, hsB⟩, by
      have := fresh_default (c := P1.m.cls) tyB
      rw [htB] at this
      simpa [preparedCellV, Cell.setSlot, Cell.withEntry, Array.getElem?_setIfInBounds, bC, bS, bP, bC.symm, bS.symm, bP.symm, defaultValue] using this, fun _ _ => rfl⟩
  obtain ⟨tm, methC, cdC, kC, vm₁, hnC, -, -, -, -, -, -, -, hW₁, st1⟩ := Steps.initCold (tb := p.tables) (e := e) (below := below) (s := s) (U := W) X.here hexec X.warmed hpl hown (t := Bundle.init0 cls) rfl rfl (Bundle.fit_spec hcls).2
    (a' (.methodLink own ic (Bundle.init0 cls)) (by simp [Bundle.ownAtoms0])) (h (.instanceMethod (Bundle.init0 cls)) (by cases names <;> simp [Bundle.ownAtoms0, Bundle.chain0Atoms, Bundle.passAtoms])) (bytes := Bundle.five) (maxL := 1) (h (.code (Bundle.init0 cls) Bundle.five 1 none) (by cases names <;> simp [Bundle.ownAtoms0, Bundle.chain0Atoms, Bundle.passAtoms]))
    (f := g) hg (a := a) (rest := .ref a :: rest) hstack hd6
  cases Option.some.inj (hnC.symm.trans hP1m)
  have X₁ := X.noted hW₁
  obtain ⟨vm₂, X₂, st2⟩ := X₁.ctorPlainOffV hexec (g := { g with stack := .ref a :: rest }) hg hsize T L Z LZ (P1 :: Ps)
    (fun P hP => by rcases List.mem_cons.mp hP with rfl | hP; exact L1; exact hL P hP) ⟨hlink1, hlink⟩ (u0 := u0) (sen := sen) (self := a) (cell := freshCell P1.m.cls kX) (cellS := cellS)
    hcell (fun _ => by simp) (by simp) rfl rfl hsel0 hselF hcellS hneS hknownS (by rw [hkeep _ (hout' _)]; exact hu0) (by rw [hkeep _ (hout' _)]; exact hsen)
    (Takes.of_laid hk hord tyC (by rw [Y.causeType]; rfl)) (Takes.of_laid hk hord tyS (by rw [Y.stackType]; exact fits_refV_array _ u0)) (Takes.of_laid hk hord tyP (by rw [Y.suppType]; exact fits_refV_object _ sen)) Y.objLocals hskip htr [] hd6
    (by simp only [List.length_cons, hlen]; omega) (by simp only [List.length_cons, hlen]; exact hRlocals)
  have hlt : a < ((W.setVm vm₁).setVm vm₂).heap.size := (Array.getElem?_eq_some_iff.mp hcell).1
  refine ⟨(W.setVm vm₁).setVm vm₂, _, _, X₂, fun y hy => ?_, hlt, rfl, rfl, fun target hwalk => st1 _ (fun acts => ?_)⟩
  · simp only [List.mem_cons, List.not_mem_nil, or_false] at hy
    rcases hy with rfl | rfl | rfl | rfl <;> rfl
  · rw [doInvoke_state]
    exact st2 _ hwalk
end VXK
section VXK2
variable {p : Program} {l : Launch} {e : Env} {R : Room} {s : State} {m : MethodId} {args : Array Value} {below : List Frame} {meth : Method} {c : Code} {H : Heap} {locs : List Loc} {cells slots : Nat} {Q : State → Prop}
variable {ls : Array Slot} {rest : List Value} {D : va_G} {cl : List vw_C} {tys : List (ClassId × FieldType)} {ws : va_W}
/-- 'new E("text")' that isn't thrown at once: the object goes on the stack -/
theorem vx_makeS {cc : ByteArray} {pc : Nat} (hexec : p.tables.exec = Jvm.exec) (hb : c.code = cc) (hl : l.stackTraces = false) {own cls text : String} {names : List String} {ik is ic sa ci : Nat} {A : Nat → Prop} {T0 : u_T}
    (hown : s.vm.findClass own = some m.cls) (hcls : Bundle.fit cls = true) (hnames : ∀ n ∈ names, Bundle.fit n = true)
    (hk : (Cond.classLink own ik cls).before args s = true) (hini : (Cond.initialized cls).before args s = true) (hstr : vk_R own is text sa s) (hat : ∀ w ∈ vx_atS own ic cls names, w.before args s = true)
    (hgood : ∀ w ∈ Cond.classLink own ik cls :: Cond.initialized cls :: vx_atS own ic cls names, vx_ot w = true)
    (hU : vx_Zq Bundle.tN "UNASSIGNED_STACK" Bundle.steD A s s.heap) (hN : vx_Zq Bundle.tN "SUPPRESSED_SENTINEL" Bundle.listD A s s.heap) (hS : va_S A s.heap H locs) (hsize : ls.size = c.maxLocals)
    (d0 : decode cc pc = .ok (.new ik, 3)) (d3 : decode cc (pc + 3) = .ok (.dup, 1)) (d4 : decode cc (pc + 4) = .ok (.ldc is, 2)) (d6 : decode cc (pc + 6) = .ok (.invokespecial ic, 3))
    (hK : va_K D cl tys s) (hP : va_P D cl ws H) (hD : va_D A ws) (hA : ∀ q, s.heap.size ≤ q → A q) (hc : cl[ci]? = some (cls, T0, 0))
    (hRframes : names.length + 3 < R.frames) (hRlocals : (rest.map fun v => v.category).sum + (13 * (names.length + 1) + 43) ≤ R.locals) (hRcells : cells + 1 ≤ R.cells) (hRslots : slots + 6 ≤ R.slots)
    (kk : ∀ (q : Nat) (H1 : Heap), va_P D cl (ws ++ [(q, .inr (ci, []))]) H1 → va_D A (ws ++ [(q, .inr (ci, []))]) → va_S A s.heap H1 locs → W p l e R s m args below meth c H1 locs (cells + 1) (slots + 6) Q (F0 m (pc + 9) ls (.ref q :: rest))) :
    W p l e R s m args below meth c H locs cells slots Q (F0 m pc ls rest) := by
  intro T hT X
  subst hT
  have htr : e.platform.stackTraces = false := (show e.platform.stackTraces = l.stackTraces by rw [X.admits.platform]).trans hl
  have Y := vx_rebase X (R' := { frames := R.frames, locals := R.locals, cells := 1, slots := 6 }) (Nat.le_refl _) (Nat.le_refl _) hRcells hRslots
  obtain ⟨s', hA'⟩ : ∃ z, z = (T.setVm s.vm).setFrames (.invoking m args :: below) := ⟨_, rfl⟩
  rw [← hA'] at Y
  have hvm : s'.vm = s.vm := by rw [hA']; rfl
  have hhp : s'.heap = T.heap := by rw [hA']; rfl
  have hW0 : s.WarmedH s'.vm := by rw [hvm]; exact State.WarmedH.refl s
  have hat' : ∀ w ∈ vx_atS own ic cls names, w.before args s' = true := fun w hw => vx_ot_at hW0 hvm.symm (hgood w (List.mem_cons_of_mem _ (List.mem_cons_of_mem _ hw))) (hat w hw)
  have hk' : (Cond.classLink own ik cls).before args s' = true := vx_ot_at hW0 hvm.symm (hgood _ List.mem_cons_self) hk
  have hini' : (Cond.initialized cls).before args s' = true := vx_ot_at hW0 hvm.symm (hgood _ (List.mem_cons_of_mem _ List.mem_cons_self)) hini
  have hU' : vx_Zq Bundle.tN "UNASSIGNED_STACK" Bundle.steD A s' s'.heap := by rw [hhp]; exact vx_Zq.moved hW0.alike (hU.kept hS.2.1)
  have hN' : vx_Zq Bundle.tN "SUPPRESSED_SENTINEL" Bundle.listD A s' s'.heap := by rw [hhp]; exact vx_Zq.moved hW0.alike (hN.kept hS.2.1)
  have h : ∀ w ∈ Bundle.ownAtoms own ic cls names, w.before args s' = true := vx_own hat' (vx_isRefq hU'.1) (vx_isRefq hN'.1) hU'.2.word hN'.2.word
  have hown' : s'.vm.findClass own = some m.cls := by rw [hvm]; exact hown
  have hins : (Cond.instantiable cls 6).before args s' = true := h _ (by simp [Bundle.ownAtoms])
  obtain ⟨vm₁, cX, kX, hfX, hkX, -, -, X₁, st1⟩ := Y.newCold hexec (own := own) (C := cls) (index := ik) (n := 6) hown' hk' hins hini'
    (g := F0 m pc ls rest) rfl (by rw [hb]; exact d0) (Nat.le_refl _) (Nat.le_refl _)
  generalize hT1 : (T.setVm vm₁).pushCell { cls := cX, slots := kX.instanceTypes.map defaultValue, vm := .none } = T1 at X₁ st1
  have hcat : (Value.ref T.heap.size).category = 1 := rfl
  have hcellA : T1.heap[T.heap.size]? = some (freshCell cX kX) := by rw [← hT1]; exact State.heap_pushCell_size _ _
  have d3' : decode c.code (pc + 3) = .ok (.dup, 1) := by rw [hb]; exact d3
  have d4' : decode c.code (pc + 4) = .ok (.ldc is, 2) := by rw [hb]; exact d4
  have hstr' : vk_R own is text sa s' := vk_R.warm hW0 hstr
  obtain ⟨V, ce, L, Z, hL, hlt, hcl9, hvm9, st⟩ := vx_ctorMadeS X₁ hexec htr (own := own) (cls := cls) (names := names) (ic := ic) hown' hcls hnames h (fun x hx => nomatch hx) hfX hkX hcellA (by rw [hhp]; exact Nat.le_refl _) (msg := .ref sa) rfl
    (g := { method := m, pc := pc + 6, locals := ls, stack := .ref sa :: .ref T.heap.size :: .ref T.heap.size :: rest, locked := none }) rfl hsize (rest := rest) rfl
    (by rw [hb]; exact d6) hRframes (by simp only [List.map_cons, List.sum_cons, hcat]; omega)
  have Z0 := Stand.forget (locs := []) Z (fun y hy => by rw [hL y hy, hhp]; exact Nat.le_refl _)
  obtain ⟨f1, f2⟩ := vx_frame Z0.same
  rw [hhp] at f1 f2
  have hcid : ce.cls = D.1 ci := by
    rw [hcl9]
    have h1 := (hK.1 ci _ hc).2.1
    rw [hvm] at hfX
    exact Option.some.inj (hfX.symm.trans h1)
  have hh : (V.setCell T.heap.size ce).heap[T.heap.size]? = some ce := heapAt_setCell_self (s := V) ce hlt
  subst hA'
  have X5 := vx_back9 X Y Z0
  have X6 : Stand p l e R s m args below meth c (V.setCell T.heap.size ce) locs (cells + 1) (slots + 6) := { X5 with same := X5.same.mono (by omega) (by omega) }
  have hk9 : ∀ (k : Nat) (x : Nat × va_E), ws[k]? = some x → (V.setCell T.heap.size ce).heap[x.1]? = T.heap[x.1]? := fun k x hx => f2 x.1 ((hP k x hx).lt) (fun z hz => nomatch hz)
  obtain ⟨t, a1, b1⟩ := kk T.heap.size (V.setCell T.heap.size ce).heap ((hP.kept hk9).app (fun k x hx => by
      have hz : k < 1 := (List.getElem?_eq_some_iff.mp hx).1
      rw [show k = 0 by omega] at hx
      cases hx
      exact ⟨_, hc, ce, hh, hcid, hvm9, fun k hk => absurd hk (Nat.not_lt_zero k)⟩)) (hD.push hP rfl (hA _ hS.1)) ⟨Nat.le_trans hS.1 f1, fun q h1 h2 => (f2 q (Nat.lt_of_lt_of_le h1 hS.1) (fun z hz => nomatch hz)).trans (hS.2.1 q h1 h2), hS.2.2⟩ _ rfl X6
  refine ⟨t, st1 _ ?_, b1⟩
  show Steps p.tables e below (T1.setTop { method := m, pc := pc + 3, locals := ls, stack := .ref T.heap.size :: rest, locked := none }) _
  jvm_step X₁.here [X₁.here.top, hexec, d3', Value.category]
  exact X₁.ldcString hexec (own := own) (text := text) (index := is) (a := sa) hown' hstr'.1 hstr'.2
    (g := { method := m, pc := pc + 4, locals := ls, stack := .ref T.heap.size :: .ref T.heap.size :: rest, locked := none }) rfl d4' _ (st _ a1)
/-- 'new E()' that isn't thrown at once: the object goes on the stack -/
theorem vx_make0 {cc : ByteArray} {pc : Nat} (hexec : p.tables.exec = Jvm.exec) (hb : c.code = cc) (hl : l.stackTraces = false) {own cls : String} {names : List String} {ik ic ci : Nat} {A : Nat → Prop} {T0 : u_T}
    (hown : s.vm.findClass own = some m.cls) (hcls : Bundle.fit cls = true) (hnames : ∀ n ∈ names, Bundle.fit n = true)
    (hk : (Cond.classLink own ik cls).before args s = true) (hini : (Cond.initialized cls).before args s = true) (hat : ∀ w ∈ vx_at0 own ic cls names, w.before args s = true)
    (hgood : ∀ w ∈ Cond.classLink own ik cls :: Cond.initialized cls :: vx_at0 own ic cls names, vx_ot w = true)
    (hU : vx_Zq Bundle.tN "UNASSIGNED_STACK" Bundle.steD A s s.heap) (hN : vx_Zq Bundle.tN "SUPPRESSED_SENTINEL" Bundle.listD A s s.heap) (hS : va_S A s.heap H locs) (hsize : ls.size = c.maxLocals)
    (d0 : decode cc pc = .ok (.new ik, 3)) (d3 : decode cc (pc + 3) = .ok (.dup, 1)) (d4 : decode cc (pc + 4) = .ok (.invokespecial ic, 3))
    (hK : va_K D cl tys s) (hP : va_P D cl ws H) (hD : va_D A ws) (hA : ∀ q, s.heap.size ≤ q → A q) (hc : cl[ci]? = some (cls, T0, 0))
    (hRframes : names.length + 3 < R.frames) (hRlocals : (rest.map fun v => v.category).sum + (13 * (names.length + 1) + 42) ≤ R.locals) (hRcells : cells + 1 ≤ R.cells) (hRslots : slots + 6 ≤ R.slots)
    (kk : ∀ (q : Nat) (H1 : Heap), va_P D cl (ws ++ [(q, .inr (ci, []))]) H1 → va_D A (ws ++ [(q, .inr (ci, []))]) → va_S A s.heap H1 locs → W p l e R s m args below meth c H1 locs (cells + 1) (slots + 6) Q (F0 m (pc + 7) ls (.ref q :: rest))) :
    W p l e R s m args below meth c H locs cells slots Q (F0 m pc ls rest) := by
  intro T hT X
  subst hT
  have htr : e.platform.stackTraces = false := (show e.platform.stackTraces = l.stackTraces by rw [X.admits.platform]).trans hl
  have Y := vx_rebase X (R' := { frames := R.frames, locals := R.locals, cells := 1, slots := 6 }) (Nat.le_refl _) (Nat.le_refl _) hRcells hRslots
  obtain ⟨s', hA'⟩ : ∃ z, z = (T.setVm s.vm).setFrames (.invoking m args :: below) := ⟨_, rfl⟩
  rw [← hA'] at Y
  have hvm : s'.vm = s.vm := by rw [hA']; rfl
  have hhp : s'.heap = T.heap := by rw [hA']; rfl
  have hW0 : s.WarmedH s'.vm := by rw [hvm]; exact State.WarmedH.refl s
  have hat' : ∀ w ∈ vx_at0 own ic cls names, w.before args s' = true := fun w hw => vx_ot_at hW0 hvm.symm (hgood w (List.mem_cons_of_mem _ (List.mem_cons_of_mem _ hw))) (hat w hw)
  have hk' : (Cond.classLink own ik cls).before args s' = true := vx_ot_at hW0 hvm.symm (hgood _ List.mem_cons_self) hk
  have hini' : (Cond.initialized cls).before args s' = true := vx_ot_at hW0 hvm.symm (hgood _ (List.mem_cons_of_mem _ List.mem_cons_self)) hini
  have hU' : vx_Zq Bundle.tN "UNASSIGNED_STACK" Bundle.steD A s' s'.heap := by rw [hhp]; exact vx_Zq.moved hW0.alike (hU.kept hS.2.1)
  have hN' : vx_Zq Bundle.tN "SUPPRESSED_SENTINEL" Bundle.listD A s' s'.heap := by rw [hhp]; exact vx_Zq.moved hW0.alike (hN.kept hS.2.1)
  have h : ∀ w ∈ Bundle.ownAtoms0 own ic cls names, w.before args s' = true := vx_own hat' (vx_isRefq hU'.1) (vx_isRefq hN'.1) hU'.2.word hN'.2.word
  have hown' : s'.vm.findClass own = some m.cls := by rw [hvm]; exact hown
  have hins : (Cond.instantiable cls 6).before args s' = true := h _ (by simp [Bundle.ownAtoms0])
  obtain ⟨vm₁, cX, kX, hfX, hkX, -, -, X₁, st1⟩ := Y.newCold hexec (own := own) (C := cls) (index := ik) (n := 6) hown' hk' hins hini'
    (g := F0 m pc ls rest) rfl (by rw [hb]; exact d0) (Nat.le_refl _) (Nat.le_refl _)
  generalize hT1 : (T.setVm vm₁).pushCell { cls := cX, slots := kX.instanceTypes.map defaultValue, vm := .none } = T1 at X₁ st1
  have hcat : (Value.ref T.heap.size).category = 1 := rfl
  have hcellA : T1.heap[T.heap.size]? = some (freshCell cX kX) := by rw [← hT1]; exact State.heap_pushCell_size _ _
  have d3' : decode c.code (pc + 3) = .ok (.dup, 1) := by rw [hb]; exact d3
  obtain ⟨V, ce, L, Z, hL, hlt, hcl9, hvm9, st⟩ := vx_ctorMade0 X₁ hexec htr (own := own) (cls := cls) (names := names) (ic := ic) hown' hcls hnames h (fun x hx => nomatch hx) hfX hkX hcellA (by rw [hhp]; exact Nat.le_refl _)
    (g := { method := m, pc := pc + 4, locals := ls, stack := .ref T.heap.size :: .ref T.heap.size :: rest, locked := none }) rfl hsize (rest := rest) rfl
    (by rw [hb]; exact d4) hRframes (by simp only [List.map_cons, List.sum_cons, hcat]; omega)
  have Z0 := Stand.forget (locs := []) Z (fun y hy => by rw [hL y hy, hhp]; exact Nat.le_refl _)
  obtain ⟨f1, f2⟩ := vx_frame Z0.same
  rw [hhp] at f1 f2
  have hcid : ce.cls = D.1 ci := by
    rw [hcl9]
    have h1 := (hK.1 ci _ hc).2.1
    rw [hvm] at hfX
    exact Option.some.inj (hfX.symm.trans h1)
  have hh : (V.setCell T.heap.size ce).heap[T.heap.size]? = some ce := heapAt_setCell_self (s := V) ce hlt
  subst hA'
  have X5 := vx_back9 X Y Z0
  have X6 : Stand p l e R s m args below meth c (V.setCell T.heap.size ce) locs (cells + 1) (slots + 6) := { X5 with same := X5.same.mono (by omega) (by omega) }
  have hk9 : ∀ (k : Nat) (x : Nat × va_E), ws[k]? = some x → (V.setCell T.heap.size ce).heap[x.1]? = T.heap[x.1]? := fun k x hx => f2 x.1 ((hP k x hx).lt) (fun z hz => nomatch hz)
  obtain ⟨t, a1, b1⟩ := kk T.heap.size (V.setCell T.heap.size ce).heap ((hP.kept hk9).app (fun k x hx => by
      have hz : k < 1 := (List.getElem?_eq_some_iff.mp hx).1
      rw [show k = 0 by omega] at hx
      cases hx
      exact ⟨_, hc, ce, hh, hcid, hvm9, fun k hk => absurd hk (Nat.not_lt_zero k)⟩)) (hD.push hP rfl (hA _ hS.1)) ⟨Nat.le_trans hS.1 f1, fun q h1 h2 => (f2 q (Nat.lt_of_lt_of_le h1 hS.1) (fun z hz => nomatch hz)).trans (hS.2.1 q h1 h2), hS.2.2⟩ _ rfl X6
  refine ⟨t, st1 _ ?_, b1⟩
  show Steps p.tables e below (T1.setTop { method := m, pc := pc + 3, locals := ls, stack := .ref T.heap.size :: rest, locked := none }) _
  jvm_step X₁.here [X₁.here.top, hexec, d3', Value.category]
  exact st _ a1
/-- 'throw x' of an object that was made before -/
theorem vx_athrow {cc : ByteArray} {pc : Nat} (hexec : p.tables.exec = Jvm.exec) (hb : c.code = cc) {q : Addr} (hdg : decode cc pc = .ok (.athrow, 1)) (k : vx_W p l e R s m args below meth c H locs cells slots Q (F0 m pc ls rest) q) : W p l e R s m args below meth c H locs cells slots Q (F0 m pc ls (.ref q :: rest)) := by
  intro T hT X
  obtain ⟨t, st, hq⟩ := k T hT X
  refine ⟨t, ?_, hq⟩
  have hdg' : decode c.code pc = .ok (.athrow, 1) := by rw [hb]; exact hdg
  jvm_step X.here [X.here.top, hexec, hdg', athrow.wp_sem]
  exact st
end VXK2
/-! ===== END ===== -/
/-! ===== BEGIN a constructor that throws (launches without stack traces) ===== -/
section VXIA
variable {p : Program} {l : Launch} {e : Env} {R : Room} {s : State} {m : MethodId} {args : Array Value} {below : List Frame} {meth : Method} {c : Code} {T : State} {locs : List Loc} {cells slots : Nat}
theorem vx_callI (X : Stand p l e R s m args below meth c T locs cells slots) (hexec : p.tables.exec = Jvm.exec) {own : String} {index : Nat} {y : MethodName} {bytes : ByteArray} {maxL : Nat}
    (hown : s.vm.findClass own = some m.cls) (hy1 : y.name = "<init>") (hlink : (Cond.methodLink own index y).before args s = true) (hinst : (Cond.instanceMethod y).before args s = true)
    (hcode : (Cond.code y bytes maxL none).before args s = true) (hy : y.cls ≠ "java/lang/invoke/MethodHandle" ∧ y.cls ≠ "java/lang/invoke/VarHandle")
    {W9 : Nat} {Pre : Pt → Array Value → Prop} {Post : Pt → Array Value → Option Value → Pt → Prop} {PostX : Pt → Array Value → Addr → Pt → Prop} (hK : vx_Back l R p e below s args y 3 W9 Pre Post PostX)
    {g : JFrame} (hg : g.method = m) (hsize : g.locals.size = c.maxLocals) {a : Addr} {argsL rest : List Value} (hlen : ∀ sig, parseMethodDescriptor y.desc = some sig → argsL.length = sig.parameters.length)
    (hstack : g.stack = argsL.reverse ++ .ref a :: rest) (hW : 2 * g.monitorRoom + (rest.map fun v => v.category).sum ≤ W9) (hdg : decode c.code g.pc = .ok (.invokespecial index, 3))
    (hpre : ∀ vm₁, s.WarmedH vm₁ → Pre ⟨T.setVm vm₁, locs, cells, slots⟩ (Value.ref a :: argsL).toArray) :
    (∃ (v : Option Value) (vm₁ : Vm) (B : Pt), s.WarmedH vm₁ ∧ Stand p l e R s m args below meth c B.U B.locs B.cells B.slots ∧ Post ⟨T.setVm vm₁, locs, cells, slots⟩ (Value.ref a :: argsL).toArray v B ∧
      ∀ target, Steps p.tables e below (B.U.setTop { g with pc := g.pc + 3, stack := v.toList ++ rest }) target → Steps p.tables e below (T.setTop g) target) ∨
    (∃ (q : Addr) (vm₁ : Vm) (B : Pt), s.WarmedH vm₁ ∧ Stand p l e R s m args below meth c B.U B.locs B.cells B.slots ∧ PostX ⟨T.setVm vm₁, locs, cells, slots⟩ (Value.ref a :: argsL).toArray q B ∧
      Steps p.tables e below (T.setTop g) ((B.U.setTop { g with stack := rest }).pushFrame (.throwing q))) := by
  subst hg
  have hpl : e.platform.magicAccessors = ({} : Platform).magicAccessors := by rw [X.admits.platform]
  obtain ⟨mk, methM, cM, kP, vm₁, hnamed, hmethM, hcodeM, -, hlocalsM, -, hkP, -, hW₁, hstep₁⟩ := Steps.initColdArgs (e := e) X.here hexec X.warmed hpl hown hy1 hy hlink hinst hcode (f := g) rfl hlen hstack hdg
  have X₁ := X.noted hW₁
  rcases hK g.method meth c ⟨T.setVm vm₁, locs, cells, slots⟩ { g with stack := rest } (.invokespecial index) mk (Value.ref a :: argsL).toArray X₁ rfl hsize hdg hW (X₁.named hnamed) (hpre vm₁ X₁.warmed) with ⟨v, B, X', hpost, hsteps⟩ | ⟨q, B, X', hpost, hsteps⟩
  · exact Or.inl ⟨v, vm₁, B, X₁.warmed, X', hpost, fun target h => hstep₁ _ fun acts => by rw [doInvoke_state]; exact hsteps.trans h⟩
  · exact Or.inr ⟨q, vm₁, B, X₁.warmed, X', hpost, hstep₁ _ fun acts => by rw [doInvoke_state]; exact hsteps⟩
end VXIA
section VXIB
variable {p : Program} {l : Launch} {e : Env} {R : Room} {s : State} {m : MethodId} {args : Array Value} {below : List Frame} {meth : Method} {c : Code} {H : Heap} {locs : List Loc} {cells slots : Nat}
variable {y : MethodName} {bytes cc : ByteArray} {maxL nL mc ms n index : Nat} {ret : Option FieldType} {ws : List Cond} {rm : Room} {Pc : Array Value → State → Prop} {Qc : Array Value → State → Outcome → State → Prop} {XC : String → State → State → Prop} {free : Addr → Prop} {Ts : List Cond} {own C : String} {b : Addr} {As rest : List Value} {g : JFrame}
theorem vx_runI (S : CallFix p m c cc nL s args Ts own) (hM : vx_Met l y ws rm Pc Qc XC mc ms free) (cw : CallB R s args own index y bytes maxL none ws rm mc ms n ∧ y.name = "<init>" ∧ (Cond.instanceMethod y).before args s = true) (hp : PreS s H Pc (.ref b :: As))
    (hg : g.method = m) (hn : As.length = n) (hsize : g.locals.size = nL) (hstack : g.stack = As.reverse ++ .ref b :: rest) (hW : 2 * g.monitorRoom + (rest.map fun v => v.category).sum ≤ 8) (hdg : decode cc g.pc = .ok (.invokespecial index, 3)) (hf : cells + mc ≤ R.cells ∧ slots + ms ≤ R.slots) :
    vx_Run p l e R s m args below meth c H locs cells slots mc ms g rest (Qc (Value.ref b :: As).toArray) XC free := by
  have hK : vx_Back l R p e below s args y 3 8 (PreOf R mc ms Pc) (PostOf Qc mc ms free) (vx_Post XC mc ms free) := vx_callBack cw.1 hM hp.1
  obtain ⟨⟨-, -, -, -, -, -, hcode, -, hy, hlen, hl⟩, hy1, hin⟩ := cw
  obtain ⟨hx, hb, hml, ho, -⟩ := S
  have hPc := hp.2
  intro T hT X
  rcases vx_callI X hx (bytes := bytes) (maxL := maxL) ho hy1 hl hin hcode hy hK hg (hsize.trans hml.symm) (a := b) (argsL := As) (rest := rest) (fun sig h => hn.trans (hlen sig h)) hstack hW (by rw [hb]; exact hdg)
    (fun vm₁ hW₁ => ⟨hf.1, hf.2, hPc (T.setVm vm₁) hT hW₁⟩) with ⟨v, vm₁, ⟨U', l2, c2, s2⟩, hW₁, X', ⟨g', mk, t, L, e1, e2, hq, h1, hL, h2, h3⟩, st⟩ | ⟨q, vm₁, ⟨U', l2, c2, s2⟩, hW₁, X', ⟨g', mk, t, L, E, ce, e1, e2, hq, hce, hcv, hcl, h1, hL, h2, h3⟩, st⟩
  · dsimp only [Pt.U, Pt.locs, Pt.cells, Pt.slots] at X' e1 e2 h1 h2 h3 st
    subst h1; subst h2; subst h3
    exact Or.inl ⟨v, (T.setVm vm₁).calling g' mk (Value.ref b :: As).toArray, t, U', L, hT, X', hL, e1, e2, hq, st⟩
  · dsimp only [Pt.U, Pt.locs, Pt.cells, Pt.slots] at X' e1 e2 h1 h2 h3 st hcl
    subst h1; subst h2; subst h3
    exact Or.inr ⟨q, (T.setVm vm₁).calling g' mk (Value.ref b :: As).toArray, t, U', L, E, ce, hT, X', hL, e1, e2, hq, hce, hcv, vx_cls hW₁ hcl, st⟩
end VXIB
/-! ===== END ===== -/
/-! ===== BEGIN a private constructor of a nest mate that throws ===== -/
section VXIC
variable {p : Program} {l : Launch} {e : Env} {R : Room} {s : State} {m : MethodId} {args : Array Value} {below : List Frame} {meth : Method} {c : Code} {T : State} {locs : List Loc} {cells slots : Nat}
theorem vx_callIN (X : Stand p l e R s m args below meth c T locs cells slots) (hexec : p.tables.exec = Jvm.exec) {own : String} {index : Nat} {host : String} {y : MethodName} {bytes : ByteArray} {maxL : Nat}
    (hown : s.vm.findClass own = some m.cls) (hy1 : y.name = "<init>") (hlink : (Cond.methodLinkNest own index y host).before args s = true) (hinst : (Cond.instanceMethod y).before args s = true)
    (hcode : (Cond.code y bytes maxL none).before args s = true) (hy : y.cls ≠ "java/lang/invoke/MethodHandle" ∧ y.cls ≠ "java/lang/invoke/VarHandle")
    {W9 : Nat} {Pre : Pt → Array Value → Prop} {Post : Pt → Array Value → Option Value → Pt → Prop} {PostX : Pt → Array Value → Addr → Pt → Prop} (hK : vx_Back l R p e below s args y 3 W9 Pre Post PostX)
    {g : JFrame} (hg : g.method = m) (hsize : g.locals.size = c.maxLocals) {a : Addr} {argsL rest : List Value} (hlen : ∀ sig, parseMethodDescriptor y.desc = some sig → argsL.length = sig.parameters.length)
    (hstack : g.stack = argsL.reverse ++ .ref a :: rest) (hW : 2 * g.monitorRoom + (rest.map fun v => v.category).sum ≤ W9) (hdg : decode c.code g.pc = .ok (.invokespecial index, 3))
    (hpre : ∀ vm₁, s.WarmedH vm₁ → Pre ⟨T.setVm vm₁, locs, cells, slots⟩ (Value.ref a :: argsL).toArray) :
    (∃ (v : Option Value) (vm₁ : Vm) (B : Pt), s.WarmedH vm₁ ∧ Stand p l e R s m args below meth c B.U B.locs B.cells B.slots ∧ Post ⟨T.setVm vm₁, locs, cells, slots⟩ (Value.ref a :: argsL).toArray v B ∧
      ∀ target, Steps p.tables e below (B.U.setTop { g with pc := g.pc + 3, stack := v.toList ++ rest }) target → Steps p.tables e below (T.setTop g) target) ∨
    (∃ (q : Addr) (vm₁ : Vm) (B : Pt), s.WarmedH vm₁ ∧ Stand p l e R s m args below meth c B.U B.locs B.cells B.slots ∧ PostX ⟨T.setVm vm₁, locs, cells, slots⟩ (Value.ref a :: argsL).toArray q B ∧
      Steps p.tables e below (T.setTop g) ((B.U.setTop { g with stack := rest }).pushFrame (.throwing q))) := by
  subst hg
  have hpl : e.platform.magicAccessors = ({} : Platform).magicAccessors := by rw [X.admits.platform]
  obtain ⟨mk, methM, cM, kP, vm₁, hnamed, hmethM, hcodeM, -, hlocalsM, -, hkP, -, hW₁, hstep₁⟩ := Steps.initColdArgsNest (e := e) X.here hexec X.warmed hpl hown hy1 hy hlink hinst hcode (f := g) rfl hlen hstack hdg
  have X₁ := X.noted hW₁
  rcases hK g.method meth c ⟨T.setVm vm₁, locs, cells, slots⟩ { g with stack := rest } (.invokespecial index) mk (Value.ref a :: argsL).toArray X₁ rfl hsize hdg hW (X₁.named hnamed) (hpre vm₁ X₁.warmed) with ⟨v, B, X', hpost, hsteps⟩ | ⟨q, B, X', hpost, hsteps⟩
  · exact Or.inl ⟨v, vm₁, B, X₁.warmed, X', hpost, fun target h => hstep₁ _ fun acts => by rw [doInvoke_state]; exact hsteps.trans h⟩
  · exact Or.inr ⟨q, vm₁, B, X₁.warmed, X', hpost, hstep₁ _ fun acts => by rw [doInvoke_state]; exact hsteps⟩
end VXIC
section VXID
variable {p : Program} {l : Launch} {e : Env} {R : Room} {s : State} {m : MethodId} {args : Array Value} {below : List Frame} {meth : Method} {c : Code} {H : Heap} {locs : List Loc} {cells slots : Nat}
theorem vx_runIN {y : MethodName} {bytes cc : ByteArray} {maxL nL mc ms n index : Nat} {ws : List Cond} {rm : Room} {Pc : Array Value → State → Prop} {Qc : Array Value → State → Outcome → State → Prop} {XC : String → State → State → Prop} {free : Addr → Prop} {Ts : List Cond} {own host : String} {b : Addr} {As rest : List Value} {g : JFrame}
    (S : CallFix p m c cc nL s args Ts own) (hM : vx_Met l y ws rm Pc Qc XC mc ms free) (cw : va_CN R s args own index y host bytes maxL none ws rm mc ms n ∧ y.name = "<init>" ∧ (Cond.instanceMethod y).before args s = true) (hp : PreS s H Pc (.ref b :: As))
    (hg : g.method = m) (hn : As.length = n) (hsize : g.locals.size = nL) (hstack : g.stack = As.reverse ++ .ref b :: rest) (hW : 2 * g.monitorRoom + (rest.map fun v => v.category).sum ≤ 8) (hdg : decode cc g.pc = .ok (.invokespecial index, 3)) (hf : cells + mc ≤ R.cells ∧ slots + ms ≤ R.slots) :
    vx_Run p l e R s m args below meth c H locs cells slots mc ms g rest (Qc (Value.ref b :: As).toArray) XC free := by
  obtain ⟨⟨⟨hrc, hrs, hfr, hlo, hws, hcw⟩, hcode, hini, hy, hlen, hl⟩, hx1, hx2⟩ := cw
  have hK : vx_Back l R p e below s args y 3 8 (PreOf R mc ms Pc) (PostOf Qc mc ms free) (vx_Post XC mc ms free) := vx_back (bytes := bytes) (maxL := maxL) (ret := none) hM hp.1 hrc hrs hfr hlo hws hcw (fun a' U hW => word_at hW (Or.inl (by first | rfl | simp [Cond.onTables, Cond.keeps, Cond.steady])) hini)
  obtain ⟨hx, hb, hml, ho, -⟩ := S
  have hPc := hp.2
  intro T hT X
  rcases vx_callIN X hx (bytes := bytes) (maxL := maxL) ho hx1 hl hx2 hcode hy hK hg (hsize.trans hml.symm) (a := b) (argsL := As) (rest := rest) (fun sig h => hn.trans (hlen sig h)) hstack hW (by rw [hb]; exact hdg)
    (fun vm₁ hW₁ => ⟨hf.1, hf.2, hPc (T.setVm vm₁) hT hW₁⟩) with ⟨v, vm₁, ⟨U', l2, c2, s2⟩, hW₁, X', ⟨g', mk, t, L, e1, e2, hq, h1, hL, h2, h3⟩, st⟩ | ⟨q, vm₁, ⟨U', l2, c2, s2⟩, hW₁, X', ⟨g', mk, t, L, E, ce, e1, e2, hq, hce, hcv, hcl, h1, hL, h2, h3⟩, st⟩
  · dsimp only [Pt.U, Pt.locs, Pt.cells, Pt.slots] at X' e1 e2 h1 h2 h3 st
    subst h1; subst h2; subst h3
    exact Or.inl ⟨v, (T.setVm vm₁).calling g' mk (Value.ref b :: As).toArray, t, U', L, hT, X', hL, e1, e2, hq, st⟩
  · dsimp only [Pt.U, Pt.locs, Pt.cells, Pt.slots] at X' e1 e2 h1 h2 h3 st hcl
    subst h1; subst h2; subst h3
    exact Or.inr ⟨q, (T.setVm vm₁).calling g' mk (Value.ref b :: As).toArray, t, U', L, E, ce, hT, X', hL, e1, e2, hq, hce, hcv, vx_cls hW₁ hcl, st⟩
end VXID
/-! ===== END ===== -/
/-! ===== BEGIN a method of a class above, found by the receiver, that may throw (follows va_callVU, va_runU of this kit) ===== -/
section
variable {p : Program} {l : Launch} {e : Env} {R : Room} {s : State} {m : MethodId} {args : Array Value} {below : List Frame} {meth : Method} {c : Code} {H : Heap} {locs : List Loc} {cells slots : Nat}
theorem vx_callVU {T : State} {locs : List Loc} {cells slots : Nat} (X : Stand p l e R s m args below meth c T locs cells slots) (hexec : p.tables.exec = Jvm.exec) {own C owner : String} {index : Nat} {x y : MethodName} {bytes : ByteArray} {maxL : Nat} {ret : Option FieldType}
    (hown : s.vm.findClass own = some m.cls) (hlink : (Cond.methodLink own index x).before args s = true) (hsame : (Cond.sameMethod x.cls owner x.name x.desc).before args s = true)
    (hd0 : va_Decl s ⟨owner, x.name, x.desc⟩) (howner : owner ≠ "java/lang/invoke/MethodHandle" ∧ owner ≠ "java/lang/invoke/VarHandle")
    (hsel : (Cond.selects C x y).before args s = true) (hinst : (Cond.instanceMethod y).before args s = true) (hcode : (Cond.code y bytes maxL ret).before args s = true)
    {W : Nat} {Pre : Pt → Array Value → Prop} {Post : Pt → Array Value → Option Value → Pt → Prop} {PostX : Pt → Array Value → Addr → Pt → Prop} (hK : vx_Back l R p e below s args y 3 W Pre Post PostX)
    {b : Addr} {cellB : Cell} (hcell : T.heap[b]? = some cellB) (hobj : cellB.vm.isStatics = false) (hcls : s.vm.findClass C = some cellB.cls)
    {g : JFrame} (hg : g.method = m) (hsize : g.locals.size = c.maxLocals) {argsL rest : List Value} (hlen : ∀ sig, parseMethodDescriptor x.desc = some sig → argsL.length = sig.parameters.length)
    (hstack : g.stack = argsL.reverse ++ .ref b :: rest) (hW : 2 * g.monitorRoom + (rest.map fun v => v.category).sum ≤ W) (hdg : decode c.code g.pc = .ok (.invokevirtual index, 3))
    (hpre : ∀ vm₁, s.WarmedH vm₁ → Pre ⟨T.setVm vm₁, locs, cells, slots⟩ (Value.ref b :: argsL).toArray) :
    (∃ (v : Option Value) (vm₁ : Vm) (B : Pt), s.WarmedH vm₁ ∧ Stand p l e R s m args below meth c B.U B.locs B.cells B.slots ∧ Post ⟨T.setVm vm₁, locs, cells, slots⟩ (Value.ref b :: argsL).toArray v B ∧
      ∀ target, Steps p.tables e below (B.U.setTop { g with pc := g.pc + 3, stack := v.toList ++ rest }) target → Steps p.tables e below (T.setTop g) target) ∨
    (∃ (q : Addr) (vm₁ : Vm) (B : Pt), s.WarmedH vm₁ ∧ Stand p l e R s m args below meth c B.U B.locs B.cells B.slots ∧ PostX ⟨T.setVm vm₁, locs, cells, slots⟩ (Value.ref b :: argsL).toArray q B ∧
      Steps p.tables e below (T.setTop g) ((B.U.setTop { g with stack := rest }).pushFrame (.throwing q))) := by
  obtain ⟨r0, r, hn, hrm, hstR, hsigR⟩ := hd0
  obtain ⟨cn, ck, r1, hcn, hck, hni, hf, hn1⟩ := Cond.sameMethod_found hsame
  cases hn.symm.trans hn1
  obtain ⟨mk, methM, hnamed, hmethM, -, habM⟩ := Cond.instanceMethod_spec hinst
  obtain ⟨c2, r2, m2, q1, q2, q3, q4, kP, hkP, hkPi⟩ := Cond.selects_spec hsel
  cases hcls.symm.trans q1
  cases hf.symm.trans q2
  cases hnamed.symm.trans q3
  have hselP : selectMethod e.platform s.vm cellB.cls r0 = .method mk := by rw [Launch.admits_selectMethod X.admits]; exact q4
  obtain ⟨vm₁, X₁, hstep₁⟩ := X.invokevirtualUp hexec hown hlink hsame howner hn hrm hstR (a := b) (cell := cellB) hcell
    (fun z h => by rw [h] at hobj; cases hobj) hselP hmethM habM hkP hkPi (g := g) hg (argsL := argsL) (rest := rest) (hlen _ hsigR) hstack hdg
  rcases hK m meth c ⟨T.setVm vm₁, locs, cells, slots⟩ { g with stack := rest } (.invokevirtual index) mk (Value.ref b :: argsL).toArray X₁ hg hsize hdg hW (X₁.named hnamed) (hpre vm₁ X₁.warmed) with ⟨v, B, X', hpost, hsteps⟩ | ⟨q, B, X', hpost, hsteps⟩
  · exact Or.inl ⟨v, vm₁, B, X₁.warmed, X', hpost, fun target h => hstep₁ _ fun acts => by rw [doInvoke_state]; exact hsteps.trans h⟩
  · exact Or.inr ⟨q, vm₁, B, X₁.warmed, X', hpost, hstep₁ _ fun acts => by rw [doInvoke_state]; exact hsteps⟩
theorem vx_runU {x y : MethodName} {bytes cc : ByteArray} {maxL nL mc ms n index : Nat} {ret : Option FieldType} {ws : List Cond} {rm : Room} {Pc : Array Value → State → Prop} {Qc : Array Value → State → Outcome → State → Prop} {XC : String → State → State → Prop} {free : Addr → Prop} {Ts : List Cond} {own C owner : String} {b : Addr} {As rest : List Value} {g : JFrame}
    (S : CallFix p m c cc nL s args Ts own) (hM : vx_Met l y ws rm Pc Qc XC mc ms free) (cw : va_CU R s args own C owner index x y bytes maxL ret ws rm mc ms n) (hp : PreV s H C b Pc As)
    (hg : g.method = m) (hn : As.length = n) (hsize : g.locals.size = nL) (hstack : g.stack = As.reverse ++ .ref b :: rest) (hW : 2 * g.monitorRoom + (rest.map fun v => v.category).sum ≤ 8) (hdg : decode cc g.pc = .ok (.invokevirtual index, 3)) (hf : cells + mc ≤ R.cells ∧ slots + ms ≤ R.slots) :
    vx_Run p l e R s m args below meth c H locs cells slots mc ms g rest (Qc (Value.ref b :: As).toArray) XC free := by
  obtain ⟨hrc, hrs, hfr, hlo, hws, hcw⟩ := cw.back
  have hini := cw.init
  have hK : vx_Back l R p e below s args y 3 8 (PreOf R mc ms Pc) (PostOf Qc mc ms free) (vx_Post XC mc ms free) := vx_back (bytes := bytes) (maxL := maxL) (ret := ret) hM hp.1 hrc hrs hfr hlo hws hcw (fun a' U hW => word_at hW (Or.inl (by first | rfl | simp [Cond.onTables, Cond.keeps, Cond.steady])) hini)
  obtain ⟨hx, hb, hml, ho, -⟩ := S
  obtain ⟨-, ⟨cellB, hcB, hoB, hclB⟩, hPc⟩ := hp
  intro T hT X
  rcases vx_callVU X hx (C := C) (owner := owner) (bytes := bytes) (maxL := maxL) (ret := ret) ho cw.link cw.same cw.decl cw.notMH cw.sel cw.inst cw.code hK (by rw [hT]; exact hcB) hoB hclB hg (hsize.trans hml.symm) (argsL := As) (rest := rest) (fun sig h => hn.trans (cw.len sig h)) hstack hW (by rw [hb]; exact hdg)
    (fun vm₁ hW₁ => ⟨hf.1, hf.2, hPc (T.setVm vm₁) hT hW₁⟩) with ⟨v, vm₁, ⟨U', l2, c2, s2⟩, hW₁, X', ⟨g', mk, t, L, e1, e2, hq, h1, hL, h2, h3⟩, st⟩ | ⟨q, vm₁, ⟨U', l2, c2, s2⟩, hW₁, X', ⟨g', mk, t, L, E, ce, e1, e2, hq, hce, hcv, hcl, h1, hL, h2, h3⟩, st⟩
  · dsimp only [Pt.U, Pt.locs, Pt.cells, Pt.slots] at X' e1 e2 h1 h2 h3 st
    subst h1; subst h2; subst h3
    exact Or.inl ⟨v, (T.setVm vm₁).calling g' mk (Value.ref b :: As).toArray, t, U', L, hT, X', hL, e1, e2, hq, st⟩
  · dsimp only [Pt.U, Pt.locs, Pt.cells, Pt.slots] at X' e1 e2 h1 h2 h3 st hcl
    subst h1; subst h2; subst h3
    exact Or.inr ⟨q, (T.setVm vm₁).calling g' mk (Value.ref b :: As).toArray, t, U', L, E, ce, hT, X', hL, e1, e2, hq, hce, hcv, vx_cls hW₁ hcl, st⟩
end
/-! ===== END ===== -/
/-! ===== BEGIN super.m(..) that may throw (follows va_callSU, va_runSU) ===== -/
section
variable {p : Program} {l : Launch} {e : Env} {R : Room} {s : State} {m : MethodId} {args : Array Value} {below : List Frame} {meth : Method} {c : Code} {H : Heap} {locs : List Loc} {cells slots : Nat}
theorem vx_callSU {T : State} {locs : List Loc} {cells slots : Nat} (X : Stand p l e R s m args below meth c T locs cells slots) (hexec : p.tables.exec = Jvm.exec) {own : String} {index : Nat} {y : MethodName} {bytes : ByteArray} {maxL : Nat} {ret : Option FieldType}
    (hown : s.vm.findClass own = some m.cls) (hlink : (Cond.methodLink own index y).before args s = true) (hsame : (Cond.sameMethod y.cls y.cls y.name y.desc).before args s = true) (hsup : (Cond.superclass own y.cls).before args s = true)
    (hinst : (Cond.instanceMethod y).before args s = true) (hcode : (Cond.code y bytes maxL ret).before args s = true) (hno : y.name ≠ "<init>")
    {W : Nat} {Pre : Pt → Array Value → Prop} {Post : Pt → Array Value → Option Value → Pt → Prop} {PostX : Pt → Array Value → Addr → Pt → Prop} (hK : vx_Back l R p e below s args y 3 W Pre Post PostX)
    {b : Addr} {cellB : Cell} {kB : Class} (hcell : T.heap[b]? = some cellB) (hobj : cellB.vm.isStatics = false) (hkB : s.vm.classes[cellB.cls]? = some kB)
    {g : JFrame} (hg : g.method = m) (hsize : g.locals.size = c.maxLocals) {argsL rest : List Value} (hlen : ∀ sig, parseMethodDescriptor y.desc = some sig → argsL.length = sig.parameters.length)
    (hstack : g.stack = argsL.reverse ++ .ref b :: rest) (hW : 2 * g.monitorRoom + (rest.map fun v => v.category).sum ≤ W) (hdg : decode c.code g.pc = .ok (.invokespecial index, 3))
    (hpre : ∀ vm₁, s.WarmedH vm₁ → Pre ⟨T.setVm vm₁, locs, cells, slots⟩ (Value.ref b :: argsL).toArray) :
    (∃ (v : Option Value) (vm₁ : Vm) (B : Pt), s.WarmedH vm₁ ∧ Stand p l e R s m args below meth c B.U B.locs B.cells B.slots ∧ Post ⟨T.setVm vm₁, locs, cells, slots⟩ (Value.ref b :: argsL).toArray v B ∧
      ∀ target, Steps p.tables e below (B.U.setTop { g with pc := g.pc + 3, stack := v.toList ++ rest }) target → Steps p.tables e below (T.setTop g) target) ∨
    (∃ (q : Addr) (vm₁ : Vm) (B : Pt), s.WarmedH vm₁ ∧ Stand p l e R s m args below meth c B.U B.locs B.cells B.slots ∧ PostX ⟨T.setVm vm₁, locs, cells, slots⟩ (Value.ref b :: argsL).toArray q B ∧
      Steps p.tables e below (T.setTop g) ((B.U.setTop { g with stack := rest }).pushFrame (.throwing q))) := by
  obtain ⟨mk, methM, hnamed, hmethM, hstM, habM⟩ := Cond.instanceMethod_spec hinst
  obtain ⟨methM', cM, hmethM', -, -, -, -, -, -, hsigM⟩ := Cond.code_spec hnamed hcode
  cases hmethM.symm.trans hmethM'
  obtain ⟨ps, dk, kp, hps, hdk, hkp, hsuper, -, -, hnid⟩ := Cond.superclass_spec hown hsup
  have hn : s.methodNamed? ⟨y.cls, y.name, y.desc⟩ = some mk := hnamed
  have hpm : ps = mk.cls := Option.some.inj (hps.symm.trans (findClass_of_methodNamed hnamed))
  have hsub : s.vm.isSubclass ps mk.cls = true := by rw [hpm]; simp [Vm.isSubclass, Vm.isSubclassAux]
  obtain ⟨vm₁, X₁, hstep₁⟩ := X.invokespecialUp hexec hown hlink hsame hn hmethM hstM habM hno hdk hnid hps hsuper hsub (a := b) (cell := cellB) hcell
    (fun z h => by rw [h] at hobj; cases hobj) hkB (g := g) hg (argsL := argsL) (rest := rest) (hlen _ hsigM) hstack hdg
  rcases hK m meth c ⟨T.setVm vm₁, locs, cells, slots⟩ { g with stack := rest } (.invokespecial index) mk (Value.ref b :: argsL).toArray X₁ hg hsize hdg hW (X₁.named hnamed) (hpre vm₁ X₁.warmed) with ⟨v, B, X', hpost, hsteps⟩ | ⟨q, B, X', hpost, hsteps⟩
  · exact Or.inl ⟨v, vm₁, B, X₁.warmed, X', hpost, fun target h => hstep₁ _ (by rw [doInvoke_state]; exact hsteps.trans h)⟩
  · exact Or.inr ⟨q, vm₁, B, X₁.warmed, X', hpost, hstep₁ _ (by rw [doInvoke_state]; exact hsteps)⟩
theorem vx_runSU {y : MethodName} {bytes cc : ByteArray} {maxL nL mc ms n index : Nat} {ret : Option FieldType} {ws : List Cond} {rm : Room} {Pc : Array Value → State → Prop} {Qc : Array Value → State → Outcome → State → Prop} {XC : String → State → State → Prop} {free : Addr → Prop} {Ts : List Cond} {own C : String} {cC : ClassId} {b : Addr} {As rest : List Value} {g : JFrame}
    (hat : ClassAt s C cC) (S : CallFix p m c cc nL s args Ts own) (hM : vx_Met l y ws rm Pc Qc XC mc ms free) (cw : va_CS R s args own index y bytes maxL ret ws rm mc ms n) (hp : PreV s H C b Pc As)
    (hg : g.method = m) (hn : As.length = n) (hsize : g.locals.size = nL) (hstack : g.stack = As.reverse ++ .ref b :: rest) (hW : 2 * g.monitorRoom + (rest.map fun v => v.category).sum ≤ 8) (hdg : decode cc g.pc = .ok (.invokespecial index, 3)) (hf : cells + mc ≤ R.cells ∧ slots + ms ≤ R.slots) :
    vx_Run p l e R s m args below meth c H locs cells slots mc ms g rest (Qc (Value.ref b :: As).toArray) XC free := by
  obtain ⟨⟨hrc, hrs, hfr, hlo, hws, hcw⟩, hl1, hl2, hl3, hl4, hini, hcode, hno, hlen⟩ := cw
  have hK : vx_Back l R p e below s args y 3 8 (PreOf R mc ms Pc) (PostOf Qc mc ms free) (vx_Post XC mc ms free) := vx_back (bytes := bytes) (maxL := maxL) (ret := ret) hM hp.1 hrc hrs hfr hlo hws hcw (fun a' U hW => word_at hW (Or.inl (by first | rfl | simp [Cond.onTables, Cond.keeps, Cond.steady])) hini)
  obtain ⟨hx, hb, hml, ho, -⟩ := S
  obtain ⟨-, ⟨cellB, hcB, hoB, hclB⟩, hPc⟩ := hp
  obtain ⟨hfc, kB, hkB, -⟩ := hat
  cases hfc.symm.trans hclB
  intro T hT X
  rcases vx_callSU X hx (bytes := bytes) (maxL := maxL) (ret := ret) ho hl1 hl2 hl3 hl4 hcode hno hK (by rw [hT]; exact hcB) hoB hkB hg (hsize.trans hml.symm) (argsL := As) (rest := rest) (fun sig h => hn.trans (hlen sig h)) hstack hW (by rw [hb]; exact hdg)
    (fun vm₁ hW₁ => ⟨hf.1, hf.2, hPc (T.setVm vm₁) hT hW₁⟩) with ⟨v, vm₁, ⟨U', l2, c2, s2⟩, hW₁, X', ⟨g', mk, t, L, e1, e2, hq, h1, hL, h2, h3⟩, st⟩ | ⟨q, vm₁, ⟨U', l2, c2, s2⟩, hW₁, X', ⟨g', mk, t, L, E, ce, e1, e2, hq, hce, hcv, hcl, h1, hL, h2, h3⟩, st⟩
  · dsimp only [Pt.U, Pt.locs, Pt.cells, Pt.slots] at X' e1 e2 h1 h2 h3 st
    subst h1; subst h2; subst h3
    exact Or.inl ⟨v, (T.setVm vm₁).calling g' mk (Value.ref b :: As).toArray, t, U', L, hT, X', hL, e1, e2, hq, st⟩
  · dsimp only [Pt.U, Pt.locs, Pt.cells, Pt.slots] at X' e1 e2 h1 h2 h3 st hcl
    subst h1; subst h2; subst h3
    exact Or.inr ⟨q, (T.setVm vm₁).calling g' mk (Value.ref b :: As).toArray, t, U', L, E, ce, hT, X', hL, e1, e2, hq, hce, hcv, vx_cls hW₁ hcl, st⟩
end
/-! ===== END ===== -/
/-! ===== BEGIN a private method of a nest mate that may throw (follows va_callVN, va_callSN, va_runVN, va_runSN) ===== -/
section
variable {p : Program} {l : Launch} {e : Env} {R : Room} {s : State} {m : MethodId} {args : Array Value} {below : List Frame} {meth : Method} {c : Code} {H : Heap} {locs : List Loc} {cells slots : Nat}
variable {T : State}
theorem vx_callVN (X : Stand p l e R s m args below meth c T locs cells slots) (hexec : p.tables.exec = Jvm.exec) {own C : String} {index : Nat} {host : String} {y : MethodName} {bytes : ByteArray} {maxL : Nat} {ret : Option FieldType}
    (hown : s.vm.findClass own = some m.cls) (hlink : (Cond.methodLinkNest own index y host).before args s = true) (hinst : (Cond.instanceMethod y).before args s = true) (hsel : (Cond.selects C y y).before args s = true)
    (hcode : (Cond.code y bytes maxL ret).before args s = true) (hy : y.cls ≠ "java/lang/invoke/MethodHandle" ∧ y.cls ≠ "java/lang/invoke/VarHandle")
    {W : Nat} {Pre : Pt → Array Value → Prop} {Post : Pt → Array Value → Option Value → Pt → Prop} {PostX : Pt → Array Value → Addr → Pt → Prop} (hK : vx_Back l R p e below s args y 3 W Pre Post PostX)
    {b : Addr} {cellB : Cell} (hcell : T.heap[b]? = some cellB) (hobj : cellB.vm.isStatics = false) (hcls : s.vm.findClass C = some cellB.cls)
    {g : JFrame} (hg : g.method = m) (hsize : g.locals.size = c.maxLocals) {argsL rest : List Value} (hlen : ∀ sig, parseMethodDescriptor y.desc = some sig → argsL.length = sig.parameters.length)
    (hstack : g.stack = argsL.reverse ++ .ref b :: rest) (hW : 2 * g.monitorRoom + (rest.map fun v => v.category).sum ≤ W) (hdg : decode c.code g.pc = .ok (.invokevirtual index, 3))
    (hpre : ∀ vm₁, s.WarmedH vm₁ → Pre ⟨T.setVm vm₁, locs, cells, slots⟩ (Value.ref b :: argsL).toArray) :
    (∃ (v : Option Value) (vm₁ : Vm) (B : Pt), s.WarmedH vm₁ ∧ Stand p l e R s m args below meth c B.U B.locs B.cells B.slots ∧ Post ⟨T.setVm vm₁, locs, cells, slots⟩ (Value.ref b :: argsL).toArray v B ∧
      ∀ target, Steps p.tables e below (B.U.setTop { g with pc := g.pc + 3, stack := v.toList ++ rest }) target → Steps p.tables e below (T.setTop g) target) ∨
    (∃ (q : Addr) (vm₁ : Vm) (B : Pt), s.WarmedH vm₁ ∧ Stand p l e R s m args below meth c B.U B.locs B.cells B.slots ∧ PostX ⟨T.setVm vm₁, locs, cells, slots⟩ (Value.ref b :: argsL).toArray q B ∧
      Steps p.tables e below (T.setTop g) ((B.U.setTop { g with stack := rest }).pushFrame (.throwing q))) := by
  obtain ⟨mk, methM, hnamed, hmethM, hstM, habM⟩ := Cond.instanceMethod_spec hinst
  obtain ⟨methM', cM, hmethM', -, -, -, -, -, -, hsigM⟩ := Cond.code_spec hnamed hcode
  cases hmethM.symm.trans hmethM'
  obtain ⟨c2, r2, m2, q1, q2, q3, q4, kP, hkP, hkPi⟩ := Cond.selects_spec hsel
  cases hcls.symm.trans q1
  cases (State.methodFound?_of_named hnamed hy).symm.trans q2
  cases hnamed.symm.trans q3
  have hselP : selectMethod e.platform s.vm cellB.cls mk = .method mk := by rw [Launch.admits_selectMethod X.admits]; exact q4
  obtain ⟨vm₁, X₁, hstep₁⟩ := X.invokevirtualNest hexec hown hlink hnamed hmethM hstM hkP hkPi hy (a := b) (cell := cellB) hcell
    (fun z h => by rw [h] at hobj; cases hobj) hselP hmethM habM hkP hkPi (g := g) hg (argsL := argsL) (rest := rest) (hlen _ hsigM) hstack hdg
  rcases hK m meth c ⟨T.setVm vm₁, locs, cells, slots⟩ { g with stack := rest } (.invokevirtual index) mk (Value.ref b :: argsL).toArray X₁ hg hsize hdg hW (X₁.named hnamed) (hpre vm₁ X₁.warmed) with ⟨v, B, X', hpost, hsteps⟩ | ⟨q, B, X', hpost, hsteps⟩
  · exact Or.inl ⟨v, vm₁, B, X₁.warmed, X', hpost, fun target h => hstep₁ _ fun acts => by rw [doInvoke_state]; exact hsteps.trans h⟩
  · exact Or.inr ⟨q, vm₁, B, X₁.warmed, X', hpost, hstep₁ _ fun acts => by rw [doInvoke_state]; exact hsteps⟩
theorem vx_callSN (X : Stand p l e R s m args below meth c T locs cells slots) (hexec : p.tables.exec = Jvm.exec) {own : String} {index : Nat} {host : String} {y : MethodName} {bytes : ByteArray} {maxL : Nat} {ret : Option FieldType}
    (hown : s.vm.findClass own = some m.cls) (hlink : (Cond.methodLinkNest own index y host).before args s = true) (hstat : (Cond.static y).before args s = true) (hinit : (Cond.initialized y.cls).before args s = true)
    (hcode : (Cond.code y bytes maxL ret).before args s = true) (hy : y.cls ≠ "java/lang/invoke/MethodHandle" ∧ y.cls ≠ "java/lang/invoke/VarHandle")
    {W : Nat} {Pre : Pt → Array Value → Prop} {Post : Pt → Array Value → Option Value → Pt → Prop} {PostX : Pt → Array Value → Addr → Pt → Prop} (hK : vx_Back l R p e below s args y 3 W Pre Post PostX)
    {g : JFrame} (hg : g.method = m) (hsize : g.locals.size = c.maxLocals) {argsL rest : List Value} (hlen : ∀ sig, parseMethodDescriptor y.desc = some sig → argsL.length = sig.parameters.length)
    (hstack : g.stack = argsL.reverse ++ rest) (hW : 2 * g.monitorRoom + (rest.map fun v => v.category).sum ≤ W) (hdg : decode c.code g.pc = .ok (.invokestatic index, 3))
    (hpre : ∀ vm₁, s.WarmedH vm₁ → Pre ⟨T.setVm vm₁, locs, cells, slots⟩ argsL.toArray) :
    (∃ (v : Option Value) (vm₁ : Vm) (B : Pt), s.WarmedH vm₁ ∧ Stand p l e R s m args below meth c B.U B.locs B.cells B.slots ∧ Post ⟨T.setVm vm₁, locs, cells, slots⟩ argsL.toArray v B ∧
      ∀ target, Steps p.tables e below (B.U.setTop { g with pc := g.pc + 3, stack := v.toList ++ rest }) target → Steps p.tables e below (T.setTop g) target) ∨
    (∃ (q : Addr) (vm₁ : Vm) (B : Pt), s.WarmedH vm₁ ∧ Stand p l e R s m args below meth c B.U B.locs B.cells B.slots ∧ PostX ⟨T.setVm vm₁, locs, cells, slots⟩ argsL.toArray q B ∧
      Steps p.tables e below (T.setTop g) ((B.U.setTop { g with stack := rest }).pushFrame (.throwing q))) := by
  obtain ⟨mk, hnamed⟩ := Cond.code_named hcode
  obtain ⟨methM, cM, hmethM, -, -, -, -, -, -, hsigM⟩ := Cond.code_spec hnamed hcode
  have hstatic : methM.isStatic = true := Cond.static_spec hnamed hmethM hstat
  obtain ⟨kP, hkP, -⟩ := className_of_methodNamed hnamed
  have hinitP : kP.init = .initialized := Cond.initialized_spec (findClass_of_methodNamed hnamed) hkP hinit
  obtain ⟨vm₁, X₁, hstep₁⟩ := X.invokestaticNest hexec hown hlink hnamed hmethM hstatic hkP hinitP hy (g := g) hg (argsL := argsL) (rest := rest) (hlen _ hsigM) hstack hdg
  rcases hK m meth c ⟨T.setVm vm₁, locs, cells, slots⟩ { g with stack := rest } (.invokestatic index) mk argsL.toArray X₁ hg hsize hdg hW (X₁.named hnamed) (hpre vm₁ X₁.warmed) with ⟨v, B, X', hpost, hsteps⟩ | ⟨q, B, X', hpost, hsteps⟩
  · exact Or.inl ⟨v, vm₁, B, X₁.warmed, X', hpost, fun target h => hstep₁ _ fun acts => by rw [doInvoke_state]; exact hsteps.trans h⟩
  · exact Or.inr ⟨q, vm₁, B, X₁.warmed, X', hpost, hstep₁ _ fun acts => by rw [doInvoke_state]; exact hsteps⟩
theorem vx_runVN {y : MethodName} {bytes cc : ByteArray} {maxL nL mc ms n index : Nat} {ret : Option FieldType} {ws : List Cond} {rm : Room} {Pc : Array Value → State → Prop} {Qc : Array Value → State → Outcome → State → Prop} {XC : String → State → State → Prop} {free : Addr → Prop} {Ts : List Cond} {own C host : String} {b : Addr} {As rest : List Value} {g : JFrame}
    (S : CallFix p m c cc nL s args Ts own) (hM : vx_Met l y ws rm Pc Qc XC mc ms free) (cw : va_CN R s args own index y host bytes maxL ret ws rm mc ms n ∧ (Cond.instanceMethod y).before args s = true ∧ (Cond.selects C y y).before args s = true) (hp : PreV s H C b Pc As)
    (hg : g.method = m) (hn : As.length = n) (hsize : g.locals.size = nL) (hstack : g.stack = As.reverse ++ .ref b :: rest) (hW : 2 * g.monitorRoom + (rest.map fun v => v.category).sum ≤ 8) (hdg : decode cc g.pc = .ok (.invokevirtual index, 3)) (hf : cells + mc ≤ R.cells ∧ slots + ms ≤ R.slots) :
    vx_Run p l e R s m args below meth c H locs cells slots mc ms g rest (Qc (Value.ref b :: As).toArray) XC free := by
  obtain ⟨⟨⟨hrc, hrs, hfr, hlo, hws, hcw⟩, hcode, hini, hy, hlen, hl⟩, hx1, hx2⟩ := cw
  have hK : vx_Back l R p e below s args y 3 8 (PreOf R mc ms Pc) (PostOf Qc mc ms free) (vx_Post XC mc ms free) := vx_back (bytes := bytes) (maxL := maxL) (ret := ret) hM hp.1 hrc hrs hfr hlo hws hcw (fun a' U hW => word_at hW (Or.inl (by first | rfl | simp [Cond.onTables, Cond.keeps, Cond.steady])) hini)
  obtain ⟨hx, hb, hml, ho, -⟩ := S
  obtain ⟨-, ⟨cellB, hcB, hoB, hclB⟩, hPc⟩ := hp
  intro T hT X
  rcases vx_callVN X hx (C := C) (bytes := bytes) (maxL := maxL) (ret := ret) ho hl hx1 hx2 hcode hy hK (by rw [hT]; exact hcB) hoB hclB hg (hsize.trans hml.symm) (argsL := As) (rest := rest) (fun sig h => hn.trans (hlen sig h)) hstack hW (by rw [hb]; exact hdg)
    (fun vm₁ hW₁ => ⟨hf.1, hf.2, hPc (T.setVm vm₁) hT hW₁⟩) with ⟨v, vm₁, ⟨U', l2, c2, s2⟩, hW₁, X', ⟨g', mk, t, L, e1, e2, hq, h1, hL, h2, h3⟩, st⟩ | ⟨q, vm₁, ⟨U', l2, c2, s2⟩, hW₁, X', ⟨g', mk, t, L, E, ce, e1, e2, hq, hce, hcv, hcl, h1, hL, h2, h3⟩, st⟩
  · dsimp only [Pt.U, Pt.locs, Pt.cells, Pt.slots] at X' e1 e2 h1 h2 h3 st
    subst h1; subst h2; subst h3
    exact Or.inl ⟨v, (T.setVm vm₁).calling g' mk (Value.ref b :: As).toArray, t, U', L, hT, X', hL, e1, e2, hq, st⟩
  · dsimp only [Pt.U, Pt.locs, Pt.cells, Pt.slots] at X' e1 e2 h1 h2 h3 st hcl
    subst h1; subst h2; subst h3
    exact Or.inr ⟨q, (T.setVm vm₁).calling g' mk (Value.ref b :: As).toArray, t, U', L, E, ce, hT, X', hL, e1, e2, hq, hce, hcv, vx_cls hW₁ hcl, st⟩
theorem vx_runSN {y : MethodName} {bytes cc : ByteArray} {maxL nL mc ms n index : Nat} {ret : Option FieldType} {ws : List Cond} {rm : Room} {Pc : Array Value → State → Prop} {Qc : Array Value → State → Outcome → State → Prop} {XC : String → State → State → Prop} {free : Addr → Prop} {Ts : List Cond} {own host : String} {As rest : List Value} {g : JFrame}
    (S : CallFix p m c cc nL s args Ts own) (hM : vx_Met l y ws rm Pc Qc XC mc ms free) (cw : va_CN R s args own index y host bytes maxL ret ws rm mc ms n ∧ (Cond.static y).before args s = true ∧ True) (hp : PreS s H Pc As)
    (hg : g.method = m) (hn : As.length = n) (hsize : g.locals.size = nL) (hstack : g.stack = As.reverse ++ rest) (hW : 2 * g.monitorRoom + (rest.map fun v => v.category).sum ≤ 8) (hdg : decode cc g.pc = .ok (.invokestatic index, 3)) (hf : cells + mc ≤ R.cells ∧ slots + ms ≤ R.slots) :
    vx_Run p l e R s m args below meth c H locs cells slots mc ms g rest (Qc As.toArray) XC free := by
  obtain ⟨⟨⟨hrc, hrs, hfr, hlo, hws, hcw⟩, hcode, hini, hy, hlen, hl⟩, hx1, hx2⟩ := cw
  have hK : vx_Back l R p e below s args y 3 8 (PreOf R mc ms Pc) (PostOf Qc mc ms free) (vx_Post XC mc ms free) := vx_back (bytes := bytes) (maxL := maxL) (ret := ret) hM hp.1 hrc hrs hfr hlo hws hcw (fun a' U hW => word_at hW (Or.inl (by first | rfl | simp [Cond.onTables, Cond.keeps, Cond.steady])) hini)
  obtain ⟨hx, hb, hml, ho, -⟩ := S
  have hPc := hp.2
  intro T hT X
  rcases vx_callSN X hx (bytes := bytes) (maxL := maxL) (ret := ret) ho hl hx1 hini hcode hy hK hg (hsize.trans hml.symm) (argsL := As) (rest := rest) (fun sig h => hn.trans (hlen sig h)) hstack hW (by rw [hb]; exact hdg)
    (fun vm₁ hW₁ => ⟨hf.1, hf.2, hPc (T.setVm vm₁) hT hW₁⟩) with ⟨v, vm₁, ⟨U', l2, c2, s2⟩, hW₁, X', ⟨g', mk, t, L, e1, e2, hq, h1, hL, h2, h3⟩, st⟩ | ⟨q, vm₁, ⟨U', l2, c2, s2⟩, hW₁, X', ⟨g', mk, t, L, E, ce, e1, e2, hq, hce, hcv, hcl, h1, hL, h2, h3⟩, st⟩
  · dsimp only [Pt.U, Pt.locs, Pt.cells, Pt.slots] at X' e1 e2 h1 h2 h3 st
    subst h1; subst h2; subst h3
    exact Or.inl ⟨v, (T.setVm vm₁).calling g' mk As.toArray, t, U', L, hT, X', hL, e1, e2, hq, st⟩
  · dsimp only [Pt.U, Pt.locs, Pt.cells, Pt.slots] at X' e1 e2 h1 h2 h3 st hcl
    subst h1; subst h2; subst h3
    exact Or.inr ⟨q, (T.setVm vm₁).calling g' mk As.toArray, t, U', L, E, ce, hT, X', hL, e1, e2, hq, hce, hcv, vx_cls hW₁ hcl, st⟩
end
/-! ===== END ===== -/
/-! ===== BEGIN calls by an interface of methods that may throw (vx_callIF, vx_runF follow va_callIF, va_runF of this kit) ===== -/
section
variable {p : Program} {l : Launch} {e : Env} {R : Room} {s : State} {m : MethodId} {args : Array Value} {below : List Frame} {meth : Method} {c : Code} {H : Heap} {locs : List Loc} {cells slots : Nat} {Q : State → Prop}
variable {mc ms : Nat} {free : Addr → Prop} {A0 A1 : Nat → Prop} {H0 : Heap} {a : Array Value} {pc : Nat} {ls : Array Slot} {st0 rest : List Value}
def vx_Run5 (p : Program) (l : Launch) (e : Env) (R : Room) (s : State) (m : MethodId) (args : Array Value) (below : List Frame) (meth : Method) (c : Code) (H : Heap) (locs : List Loc) (cells slots mc ms : Nat) (g : JFrame) (rest : List Value) (Qa : State → Outcome → State → Prop) (XC : String → State → State → Prop) (free : Addr → Prop) : Prop :=
  ∀ T : State, T.heap = H → Stand p l e R s m args below meth c T locs cells slots →
    (∃ (v : Option Value) (st₀ t T' : State) (L : List Loc), st₀.heap = H ∧ Stand p l e R s m args below meth c T' (locs ++ L) (cells + mc) (slots + ms) ∧ (∀ q ∈ L, free q.base) ∧ T'.heap = t.heap ∧ T'.vm = t.vm ∧ Qa st₀ (.returned v) t ∧
      Goes p e below T g T' { g with pc := g.pc + 5, stack := v.toList ++ rest }) ∨
    (∃ (q : Addr) (st₀ t T' : State) (L : List Loc) (E : String) (ce : Cell), st₀.heap = H ∧ Stand p l e R s m args below meth c T' (locs ++ L) (cells + mc) (slots + ms) ∧ (∀ z ∈ L, free z.base) ∧ T'.heap = t.heap ∧ T'.vm = t.vm ∧ XC E st₀ t ∧ t.heap[q]? = some ce ∧ ce.vm = .none ∧ s.vm.findClass E = some ce.cls ∧
      Steps p.tables e below (T.setTop g) ((T'.setTop { g with stack := rest }).pushFrame (.throwing q)))
theorem vx_callIF {T : State} (X : Stand p l e R s m args below meth c T locs cells slots) (hexec : p.tables.exec = Jvm.exec) {own C : String} {index count : Nat} {x y : MethodName} {bytes : ByteArray} {maxL : Nat} {ret : Option FieldType}
    (hown : s.vm.findClass own = some m.cls) (hlink : (Cond.methodLink own index x).before args s = true) (hdecl : (Cond.declares x).before args s = true) (hface : (Cond.interfaceMethod x.cls x.cls x.name x.desc).before args s = true)
    (hsel : (Cond.selects C x y).before args s = true) (hinst : (Cond.instanceMethod y).before args s = true) (hpub : (Cond.publicMethod y).before args s = true) (hunh : (Cond.unhidden C x.name x.desc).before args s = true)
    (hcast : (Cond.castable C x.cls).before args s = true) (hcode : (Cond.code y bytes maxL ret).before args s = true) (hx : x.cls ≠ "java/lang/invoke/MethodHandle" ∧ x.cls ≠ "java/lang/invoke/VarHandle")
    {W9 : Nat} {Pre : Pt → Array Value → Prop} {Post : Pt → Array Value → Option Value → Pt → Prop} {PostX : Pt → Array Value → Addr → Pt → Prop} (hK : vx_Back l R p e below s args y 5 W9 Pre Post PostX)
    {b : Addr} {cellB : Cell} {kB : Class} (hcell : T.heap[b]? = some cellB) (hobj : cellB.vm.isStatics = false) (hcls : s.vm.findClass C = some cellB.cls) (hkB : s.vm.classes[cellB.cls]? = some kB)
    {g : JFrame} (hg : g.method = m) (hsize : g.locals.size = c.maxLocals) {argsL rest : List Value} (hlen : ∀ sig, parseMethodDescriptor x.desc = some sig → argsL.length = sig.parameters.length)
    (hstack : g.stack = argsL.reverse ++ .ref b :: rest) (hW : 2 * g.monitorRoom + (rest.map fun v => v.category).sum ≤ W9) (hdg : decode c.code g.pc = .ok (.invokeinterface index count, 5))
    (hpre : ∀ vm₁, s.WarmedH vm₁ → Pre ⟨T.setVm vm₁, locs, cells, slots⟩ (Value.ref b :: argsL).toArray) :
    (∃ (v : Option Value) (vm₁ : Vm) (B : Pt), s.WarmedH vm₁ ∧ Stand p l e R s m args below meth c B.U B.locs B.cells B.slots ∧ Post ⟨T.setVm vm₁, locs, cells, slots⟩ (Value.ref b :: argsL).toArray v B ∧
      ∀ target, Steps p.tables e below (B.U.setTop { g with pc := g.pc + 5, stack := v.toList ++ rest }) target → Steps p.tables e below (T.setTop g) target) ∨
    (∃ (q : Addr) (vm₁ : Vm) (B : Pt), s.WarmedH vm₁ ∧ Stand p l e R s m args below meth c B.U B.locs B.cells B.slots ∧ PostX ⟨T.setVm vm₁, locs, cells, slots⟩ (Value.ref b :: argsL).toArray q B ∧
      Steps p.tables e below (T.setTop g) ((B.U.setTop { g with stack := rest }).pushFrame (.throwing q))) := by
  obtain ⟨r0, r, hn, hrm, hstR, hsigR⟩ := Cond.declares_spec hdecl
  obtain ⟨cL, kL, r1, hcL, hkL, hiL, hfoundL, hn1⟩ := Cond.interfaceMethod_spec hface
  cases hn.symm.trans hn1
  have hr0cls : r0.cls = cL := Option.some.inj ((findClass_of_methodNamed hn).symm.trans hcL)
  obtain ⟨hnameR, hdescR⟩ := name_of_methodNamed hn hrm
  obtain ⟨mk, methM, hnamed, hmethM, -, habM⟩ := Cond.instanceMethod_spec hinst
  obtain ⟨c2, r2, m2, q1, q2, q3, q4, -⟩ := Cond.selects_spec hsel
  cases hcls.symm.trans q1
  cases hfoundL.symm.trans q2
  cases hnamed.symm.trans q3
  have hselP : selectMethod e.platform s.vm cellB.cls r0 = .method mk := by rw [Launch.admits_selectMethod X.admits]; exact q4
  have hpubM : hasFlag methM.accessFlags Acc.public_ = true := Cond.publicMethod_spec hnamed hmethM hpub
  have hway : ((cellB.cls :: s.vm.superclasses cellB.cls).any fun k => (declaredIn s.vm r.name r.desc k).any fun (_, z) => z.isPrivate || z.isStatic) = false := by
    rw [hnameR, hdescR]; exact Cond.unhidden_spec hcls hunh
  obtain ⟨c3, t3, w1, w2, w3⟩ := Cond.castable_spec hcast
  cases hcls.symm.trans w1
  cases hcL.symm.trans w2
  obtain ⟨vm₁, X₁, hstep₁⟩ := X.invokeinterface hexec hown hlink hn hrm hstR (by rw [hr0cls]; exact hkL) hiL hx (a := b) (cell := cellB) (kcell := kB) hcell
    (fun z h => by rw [h] at hobj; cases hobj) hkB (by rw [hr0cls]; exact w3) hselP hmethM hway hpubM habM (g := g) hg (argsL := argsL) (rest := rest) (hlen _ hsigR) hstack hdg
  rcases hK m meth c ⟨T.setVm vm₁, locs, cells, slots⟩ { g with stack := rest } (.invokeinterface index count) mk (Value.ref b :: argsL).toArray X₁ hg hsize hdg hW (X₁.named hnamed) (hpre vm₁ X₁.warmed) with ⟨v, B, X', hpost, hsteps⟩ | ⟨q, B, X', hpost, hsteps⟩
  · exact Or.inl ⟨v, vm₁, B, X₁.warmed, X', hpost, fun target h => hstep₁ _ fun acts => by rw [doInvoke_state]; exact hsteps.trans h⟩
  · exact Or.inr ⟨q, vm₁, B, X₁.warmed, X', hpost, hstep₁ _ fun acts => by rw [doInvoke_state]; exact hsteps⟩
theorem vx_runF {x y : MethodName} {bytes cc : ByteArray} {maxL nL mc ms n index count : Nat} {ret : Option FieldType} {ws : List Cond} {rm : Room} {Pc : Array Value → State → Prop} {Qc : Array Value → State → Outcome → State → Prop} {XC : String → State → State → Prop} {free : Addr → Prop} {Ts : List Cond} {own C : String} {cC : ClassId} {b : Addr} {As rest : List Value} {g : JFrame}
    (hat : ClassAt s C cC) (S : CallFix p m c cc nL s args Ts own) (hM : vx_Met l y ws rm Pc Qc XC mc ms free) (cw : va_CI R s args own C index x y bytes maxL ret ws rm mc ms n) (hp : PreV s H C b Pc As)
    (hg : g.method = m) (hn : As.length = n) (hsize : g.locals.size = nL) (hstack : g.stack = As.reverse ++ .ref b :: rest) (hW : 2 * g.monitorRoom + (rest.map fun v => v.category).sum ≤ 8) (hdg : decode cc g.pc = .ok (.invokeinterface index count, 5)) (hf : cells + mc ≤ R.cells ∧ slots + ms ≤ R.slots) :
    vx_Run5 p l e R s m args below meth c H locs cells slots mc ms g rest (Qc (Value.ref b :: As).toArray) XC free := by
  obtain ⟨hrc, hrs, hfr, hlo, hws, hcw⟩ := cw.back
  have hini := cw.init
  have hK : vx_Back l R p e below s args y 5 8 (PreOf R mc ms Pc) (PostOf Qc mc ms free) (vx_Post XC mc ms free) := vx_back (bytes := bytes) (maxL := maxL) (ret := ret) hM hp.1 hrc hrs hfr hlo hws hcw (fun a' U hW => word_at hW (Or.inl (by first | rfl | simp [Cond.onTables, Cond.keeps, Cond.steady])) hini)
  obtain ⟨hx, hb, hml, ho, -⟩ := S
  obtain ⟨-, ⟨cellB, hcB, hoB, hclB⟩, hPc⟩ := hp
  obtain ⟨hfc, kB, hkB, -⟩ := hat
  cases hfc.symm.trans hclB
  intro T hT X
  rcases vx_callIF X hx (C := C) (bytes := bytes) (maxL := maxL) (ret := ret) ho cw.link cw.decl cw.face cw.sel cw.inst cw.pub cw.unh cw.cast cw.code cw.notMH hK (by rw [hT]; exact hcB) hoB hclB hkB hg (hsize.trans hml.symm) (argsL := As) (rest := rest) (fun sig h => hn.trans (cw.len sig h)) hstack hW (by rw [hb]; exact hdg)
    (fun vm₁ hW₁ => ⟨hf.1, hf.2, hPc (T.setVm vm₁) hT hW₁⟩) with ⟨v, vm₁, ⟨U', l2, c2, s2⟩, hW₁, X', ⟨g', mk, t, L, e1, e2, hq, h1, hL, h2, h3⟩, st⟩ | ⟨q, vm₁, ⟨U', l2, c2, s2⟩, hW₁, X', ⟨g', mk, t, L, E, ce, e1, e2, hq, hce, hcv, hcl, h1, hL, h2, h3⟩, st⟩
  · dsimp only [Pt.U, Pt.locs, Pt.cells, Pt.slots] at X' e1 e2 h1 h2 h3 st
    subst h1; subst h2; subst h3
    exact Or.inl ⟨v, (T.setVm vm₁).calling g' mk (Value.ref b :: As).toArray, t, U', L, hT, X', hL, e1, e2, hq, st⟩
  · dsimp only [Pt.U, Pt.locs, Pt.cells, Pt.slots] at X' e1 e2 h1 h2 h3 st hcl
    subst h1; subst h2; subst h3
    exact Or.inr ⟨q, (T.setVm vm₁).calling g' mk (Value.ref b :: As).toArray, t, U', L, E, ce, hT, X', hL, e1, e2, hq, hce, hcv, vx_cls hW₁ hcl, st⟩
theorem vx_callFv {S SX : Type} {post : S → Prop} {px : SX → Prop} {B : S → State → Prop} {BX : String → SX → State → Prop} {AX : Nat → Prop} (hr : vx_Run5 p l e R s m args below meth c H locs cells slots mc ms (F0 m pc ls st0) rest (va_Qv post B A1 a) (vx_X px BX AX) free) (hS : va_S A0 H0 H locs) (hA : ∀ q, q < H.size → A1 q → A0 q) (hf : ∀ q, free q → A0 q) (hAX : ∀ q, q < H.size → AX q → A0 q)
    (kx : ∀ (E : String) (ce : Cell) (q9 : Addr) (u : SX) (t : State) (H1 : Heap) (locs1 : List Loc), t.heap = H1 → s.vm.Alike t.vm → px u → BX E u t → H.size ≤ H1.size → (∀ q : Nat, q < H.size → ¬ AX q → H1[q]? = H[q]?) → va_S A0 H0 H1 locs1 → H1[q9]? = some ce → ce.vm = .none → s.vm.findClass E = some ce.cls → vx_W p l e R s m args below meth c H1 locs1 (cells + mc) (slots + ms) Q (F0 m pc ls rest) q9)
    (kk : ∀ (u : S) (t : State) (H1 : Heap) (locs1 : List Loc), t.heap = H1 → s.vm.Alike t.vm → post u → B u t → H.size ≤ H1.size → (∀ q : Nat, q < H.size → ¬ A1 q → H1[q]? = H[q]?) → va_S A0 H0 H1 locs1 → W p l e R s m args below meth c H1 locs1 (cells + mc) (slots + ms) Q (F0 m (pc + 5) ls (rest))) : W p l e R s m args below meth c H locs cells slots Q (F0 m pc ls st0) := by
  intro T hT X
  rcases hr T hT X with ⟨v, st₀, t, T', L, h0, X', hL, e1, e2, ⟨⟨u, hv, hp, hb⟩, hF⟩, st⟩ | ⟨q, st₀, t, T', L, E, ce, h0, X', hL, e1, e2, ⟨u, hp, hb, hF⟩, hce, hcv, hcl, st⟩
  · cases hv
    obtain ⟨k1, k2, k3⟩ := vx_keep h0 e1 hS hA hf hL hF
    obtain ⟨t2, a1, b1⟩ := kk u t T'.heap (locs ++ L) e1.symm (by rw [← e2]; exact X'.warmed.alike) hp hb k1 k2 k3 T' rfl X'
    exact ⟨t2, st t2 a1, b1⟩
  · obtain ⟨k1, k2, k3⟩ := vx_keep h0 e1 hS hAX hf hL hF
    obtain ⟨t2, a1, b1⟩ := kx E ce q u t T'.heap (locs ++ L) e1.symm (by rw [← e2]; exact X'.warmed.alike) hp hb k1 k2 k3 (by rw [e1]; exact hce) hcv hcl T' rfl X'
    exact ⟨t2, st.trans a1, b1⟩
theorem vx_callFi {S SX : Type} {post : Int32 → S → Prop} {px : SX → Prop} {B : S → State → Prop} {BX : String → SX → State → Prop} {AX : Nat → Prop} (hr : vx_Run5 p l e R s m args below meth c H locs cells slots mc ms (F0 m pc ls st0) rest (va_Qi post B A1 a) (vx_X px BX AX) free) (hS : va_S A0 H0 H locs) (hA : ∀ q, q < H.size → A1 q → A0 q) (hf : ∀ q, free q → A0 q) (hAX : ∀ q, q < H.size → AX q → A0 q)
    (kx : ∀ (E : String) (ce : Cell) (q9 : Addr) (u : SX) (t : State) (H1 : Heap) (locs1 : List Loc), t.heap = H1 → s.vm.Alike t.vm → px u → BX E u t → H.size ≤ H1.size → (∀ q : Nat, q < H.size → ¬ AX q → H1[q]? = H[q]?) → va_S A0 H0 H1 locs1 → H1[q9]? = some ce → ce.vm = .none → s.vm.findClass E = some ce.cls → vx_W p l e R s m args below meth c H1 locs1 (cells + mc) (slots + ms) Q (F0 m pc ls rest) q9)
    (kk : ∀ (r : Int32) (u : S) (t : State) (H1 : Heap) (locs1 : List Loc), t.heap = H1 → s.vm.Alike t.vm → post r u → B u t → H.size ≤ H1.size → (∀ q : Nat, q < H.size → ¬ A1 q → H1[q]? = H[q]?) → va_S A0 H0 H1 locs1 → W p l e R s m args below meth c H1 locs1 (cells + mc) (slots + ms) Q (F0 m (pc + 5) ls (.int r :: rest))) : W p l e R s m args below meth c H locs cells slots Q (F0 m pc ls st0) := by
  intro T hT X
  rcases hr T hT X with ⟨v, st₀, t, T', L, h0, X', hL, e1, e2, ⟨⟨r, u, hv, hp, hb⟩, hF⟩, st⟩ | ⟨q, st₀, t, T', L, E, ce, h0, X', hL, e1, e2, ⟨u, hp, hb, hF⟩, hce, hcv, hcl, st⟩
  · cases hv
    obtain ⟨k1, k2, k3⟩ := vx_keep h0 e1 hS hA hf hL hF
    obtain ⟨t2, a1, b1⟩ := kk r u t T'.heap (locs ++ L) e1.symm (by rw [← e2]; exact X'.warmed.alike) hp hb k1 k2 k3 T' rfl X'
    exact ⟨t2, st t2 a1, b1⟩
  · obtain ⟨k1, k2, k3⟩ := vx_keep h0 e1 hS hAX hf hL hF
    obtain ⟨t2, a1, b1⟩ := kx E ce q u t T'.heap (locs ++ L) e1.symm (by rw [← e2]; exact X'.warmed.alike) hp hb k1 k2 k3 (by rw [e1]; exact hce) hcv hcl T' rfl X'
    exact ⟨t2, st.trans a1, b1⟩
theorem vx_callFl {S SX : Type} {post : Int64 → S → Prop} {px : SX → Prop} {B : S → State → Prop} {BX : String → SX → State → Prop} {AX : Nat → Prop} (hr : vx_Run5 p l e R s m args below meth c H locs cells slots mc ms (F0 m pc ls st0) rest (va_Ql post B A1 a) (vx_X px BX AX) free) (hS : va_S A0 H0 H locs) (hA : ∀ q, q < H.size → A1 q → A0 q) (hf : ∀ q, free q → A0 q) (hAX : ∀ q, q < H.size → AX q → A0 q)
    (kx : ∀ (E : String) (ce : Cell) (q9 : Addr) (u : SX) (t : State) (H1 : Heap) (locs1 : List Loc), t.heap = H1 → s.vm.Alike t.vm → px u → BX E u t → H.size ≤ H1.size → (∀ q : Nat, q < H.size → ¬ AX q → H1[q]? = H[q]?) → va_S A0 H0 H1 locs1 → H1[q9]? = some ce → ce.vm = .none → s.vm.findClass E = some ce.cls → vx_W p l e R s m args below meth c H1 locs1 (cells + mc) (slots + ms) Q (F0 m pc ls rest) q9)
    (kk : ∀ (r : Int64) (u : S) (t : State) (H1 : Heap) (locs1 : List Loc), t.heap = H1 → s.vm.Alike t.vm → post r u → B u t → H.size ≤ H1.size → (∀ q : Nat, q < H.size → ¬ A1 q → H1[q]? = H[q]?) → va_S A0 H0 H1 locs1 → W p l e R s m args below meth c H1 locs1 (cells + mc) (slots + ms) Q (F0 m (pc + 5) ls (.long r :: rest))) : W p l e R s m args below meth c H locs cells slots Q (F0 m pc ls st0) := by
  intro T hT X
  rcases hr T hT X with ⟨v, st₀, t, T', L, h0, X', hL, e1, e2, ⟨⟨r, u, hv, hp, hb⟩, hF⟩, st⟩ | ⟨q, st₀, t, T', L, E, ce, h0, X', hL, e1, e2, ⟨u, hp, hb, hF⟩, hce, hcv, hcl, st⟩
  · cases hv
    obtain ⟨k1, k2, k3⟩ := vx_keep h0 e1 hS hA hf hL hF
    obtain ⟨t2, a1, b1⟩ := kk r u t T'.heap (locs ++ L) e1.symm (by rw [← e2]; exact X'.warmed.alike) hp hb k1 k2 k3 T' rfl X'
    exact ⟨t2, st t2 a1, b1⟩
  · obtain ⟨k1, k2, k3⟩ := vx_keep h0 e1 hS hAX hf hL hF
    obtain ⟨t2, a1, b1⟩ := kx E ce q u t T'.heap (locs ++ L) e1.symm (by rw [← e2]; exact X'.warmed.alike) hp hb k1 k2 k3 (by rw [e1]; exact hce) hcv hcl T' rfl X'
    exact ⟨t2, st.trans a1, b1⟩
theorem vx_callFf {S SX : Type} {post : UInt32 → S → Prop} {px : SX → Prop} {B : S → State → Prop} {BX : String → SX → State → Prop} {AX : Nat → Prop} (hr : vx_Run5 p l e R s m args below meth c H locs cells slots mc ms (F0 m pc ls st0) rest (va_Qf post B A1 a) (vx_X px BX AX) free) (hS : va_S A0 H0 H locs) (hA : ∀ q, q < H.size → A1 q → A0 q) (hf : ∀ q, free q → A0 q) (hAX : ∀ q, q < H.size → AX q → A0 q)
    (kx : ∀ (E : String) (ce : Cell) (q9 : Addr) (u : SX) (t : State) (H1 : Heap) (locs1 : List Loc), t.heap = H1 → s.vm.Alike t.vm → px u → BX E u t → H.size ≤ H1.size → (∀ q : Nat, q < H.size → ¬ AX q → H1[q]? = H[q]?) → va_S A0 H0 H1 locs1 → H1[q9]? = some ce → ce.vm = .none → s.vm.findClass E = some ce.cls → vx_W p l e R s m args below meth c H1 locs1 (cells + mc) (slots + ms) Q (F0 m pc ls rest) q9)
    (kk : ∀ (r : UInt32) (u : S) (t : State) (H1 : Heap) (locs1 : List Loc), t.heap = H1 → s.vm.Alike t.vm → post r u → B u t → H.size ≤ H1.size → (∀ q : Nat, q < H.size → ¬ A1 q → H1[q]? = H[q]?) → va_S A0 H0 H1 locs1 → W p l e R s m args below meth c H1 locs1 (cells + mc) (slots + ms) Q (F0 m (pc + 5) ls (.float r :: rest))) : W p l e R s m args below meth c H locs cells slots Q (F0 m pc ls st0) := by
  intro T hT X
  rcases hr T hT X with ⟨v, st₀, t, T', L, h0, X', hL, e1, e2, ⟨⟨r, u, hv, hp, hb⟩, hF⟩, st⟩ | ⟨q, st₀, t, T', L, E, ce, h0, X', hL, e1, e2, ⟨u, hp, hb, hF⟩, hce, hcv, hcl, st⟩
  · cases hv
    obtain ⟨k1, k2, k3⟩ := vx_keep h0 e1 hS hA hf hL hF
    obtain ⟨t2, a1, b1⟩ := kk r u t T'.heap (locs ++ L) e1.symm (by rw [← e2]; exact X'.warmed.alike) hp hb k1 k2 k3 T' rfl X'
    exact ⟨t2, st t2 a1, b1⟩
  · obtain ⟨k1, k2, k3⟩ := vx_keep h0 e1 hS hAX hf hL hF
    obtain ⟨t2, a1, b1⟩ := kx E ce q u t T'.heap (locs ++ L) e1.symm (by rw [← e2]; exact X'.warmed.alike) hp hb k1 k2 k3 (by rw [e1]; exact hce) hcv hcl T' rfl X'
    exact ⟨t2, st.trans a1, b1⟩
theorem vx_callFd {S SX : Type} {post : UInt64 → S → Prop} {px : SX → Prop} {B : S → State → Prop} {BX : String → SX → State → Prop} {AX : Nat → Prop} (hr : vx_Run5 p l e R s m args below meth c H locs cells slots mc ms (F0 m pc ls st0) rest (va_Qd post B A1 a) (vx_X px BX AX) free) (hS : va_S A0 H0 H locs) (hA : ∀ q, q < H.size → A1 q → A0 q) (hf : ∀ q, free q → A0 q) (hAX : ∀ q, q < H.size → AX q → A0 q)
    (kx : ∀ (E : String) (ce : Cell) (q9 : Addr) (u : SX) (t : State) (H1 : Heap) (locs1 : List Loc), t.heap = H1 → s.vm.Alike t.vm → px u → BX E u t → H.size ≤ H1.size → (∀ q : Nat, q < H.size → ¬ AX q → H1[q]? = H[q]?) → va_S A0 H0 H1 locs1 → H1[q9]? = some ce → ce.vm = .none → s.vm.findClass E = some ce.cls → vx_W p l e R s m args below meth c H1 locs1 (cells + mc) (slots + ms) Q (F0 m pc ls rest) q9)
    (kk : ∀ (r : UInt64) (u : S) (t : State) (H1 : Heap) (locs1 : List Loc), t.heap = H1 → s.vm.Alike t.vm → post r u → B u t → H.size ≤ H1.size → (∀ q : Nat, q < H.size → ¬ A1 q → H1[q]? = H[q]?) → va_S A0 H0 H1 locs1 → W p l e R s m args below meth c H1 locs1 (cells + mc) (slots + ms) Q (F0 m (pc + 5) ls (.double r :: rest))) : W p l e R s m args below meth c H locs cells slots Q (F0 m pc ls st0) := by
  intro T hT X
  rcases hr T hT X with ⟨v, st₀, t, T', L, h0, X', hL, e1, e2, ⟨⟨r, u, hv, hp, hb⟩, hF⟩, st⟩ | ⟨q, st₀, t, T', L, E, ce, h0, X', hL, e1, e2, ⟨u, hp, hb, hF⟩, hce, hcv, hcl, st⟩
  · cases hv
    obtain ⟨k1, k2, k3⟩ := vx_keep h0 e1 hS hA hf hL hF
    obtain ⟨t2, a1, b1⟩ := kk r u t T'.heap (locs ++ L) e1.symm (by rw [← e2]; exact X'.warmed.alike) hp hb k1 k2 k3 T' rfl X'
    exact ⟨t2, st t2 a1, b1⟩
  · obtain ⟨k1, k2, k3⟩ := vx_keep h0 e1 hS hAX hf hL hF
    obtain ⟨t2, a1, b1⟩ := kx E ce q u t T'.heap (locs ++ L) e1.symm (by rw [← e2]; exact X'.warmed.alike) hp hb k1 k2 k3 (by rw [e1]; exact hce) hcv hcl T' rfl X'
    exact ⟨t2, st.trans a1, b1⟩
end
/-! ===== END ===== -/
/-! ===== BEGIN by an interface, a method with a table of its own that may throw (follows va_callIFW, va_runFW) ===== -/
section
variable {p : Program} {l : Launch} {e : Env} {R : Room} {s : State} {m : MethodId} {args : Array Value} {below : List Frame} {meth : Method} {c : Code} {H : Heap} {locs : List Loc} {cells slots : Nat}
theorem vx_callIFW {T : State} (X : Stand p l e R s m args below meth c T locs cells slots) (hexec : p.tables.exec = Jvm.exec) {own C : String} {index count : Nat} {x y : MethodName} {bytes : ByteArray} {maxL : Nat} {ret : Option FieldType} {hh : List (Nat × Nat × Nat × Nat)}
    (hown : s.vm.findClass own = some m.cls) (hlink : (Cond.methodLink own index x).before args s = true) (hdecl : (Cond.declares x).before args s = true) (hface : (Cond.interfaceMethod x.cls x.cls x.name x.desc).before args s = true)
    (hsel : (Cond.selects C x y).before args s = true) (hinst : (Cond.instanceMethod y).before args s = true) (hpub : (Cond.publicMethod y).before args s = true) (hunh : (Cond.unhidden C x.name x.desc).before args s = true)
    (hcast : (Cond.castable C x.cls).before args s = true) (hcode : (Cond.codeWith y bytes maxL ret hh).before args s = true) (hx : x.cls ≠ "java/lang/invoke/MethodHandle" ∧ x.cls ≠ "java/lang/invoke/VarHandle")
    {W : Nat} {Pre : Pt → Array Value → Prop} {Post : Pt → Array Value → Option Value → Pt → Prop} {PostX : Pt → Array Value → Addr → Pt → Prop} (hK : vx_Back l R p e below s args y 5 W Pre Post PostX)
    {b : Addr} {cellB : Cell} {kB : Class} (hcell : T.heap[b]? = some cellB) (hobj : cellB.vm.isStatics = false) (hcls : s.vm.findClass C = some cellB.cls) (hkB : s.vm.classes[cellB.cls]? = some kB)
    {g : JFrame} (hg : g.method = m) (hsize : g.locals.size = c.maxLocals) {argsL rest : List Value} (hlen : ∀ sig, parseMethodDescriptor x.desc = some sig → argsL.length = sig.parameters.length)
    (hstack : g.stack = argsL.reverse ++ .ref b :: rest) (hW : 2 * g.monitorRoom + (rest.map fun v => v.category).sum ≤ W) (hdg : decode c.code g.pc = .ok (.invokeinterface index count, 5))
    (hpre : ∀ vm₁, s.WarmedH vm₁ → Pre ⟨T.setVm vm₁, locs, cells, slots⟩ (Value.ref b :: argsL).toArray) :
    (∃ (v : Option Value) (vm₁ : Vm) (B : Pt), s.WarmedH vm₁ ∧ Stand p l e R s m args below meth c B.U B.locs B.cells B.slots ∧ Post ⟨T.setVm vm₁, locs, cells, slots⟩ (Value.ref b :: argsL).toArray v B ∧
      ∀ target, Steps p.tables e below (B.U.setTop { g with pc := g.pc + 5, stack := v.toList ++ rest }) target → Steps p.tables e below (T.setTop g) target) ∨
    (∃ (q : Addr) (vm₁ : Vm) (B : Pt), s.WarmedH vm₁ ∧ Stand p l e R s m args below meth c B.U B.locs B.cells B.slots ∧ PostX ⟨T.setVm vm₁, locs, cells, slots⟩ (Value.ref b :: argsL).toArray q B ∧
      Steps p.tables e below (T.setTop g) ((B.U.setTop { g with stack := rest }).pushFrame (.throwing q))) := by
  obtain ⟨r0, r, hn, hrm, hstR, hsigR⟩ := Cond.declares_spec hdecl
  obtain ⟨cL, kL, r1, hcL, hkL, hiL, hfoundL, hn1⟩ := Cond.interfaceMethod_spec hface
  cases hn.symm.trans hn1
  have hr0cls : r0.cls = cL := Option.some.inj ((findClass_of_methodNamed hn).symm.trans hcL)
  obtain ⟨hnameR, hdescR⟩ := name_of_methodNamed hn hrm
  obtain ⟨mk, methM, hnamed, hmethM, -, habM⟩ := Cond.instanceMethod_spec hinst
  obtain ⟨c2, r2, m2, q1, q2, q3, q4, -⟩ := Cond.selects_spec hsel
  cases hcls.symm.trans q1
  cases hfoundL.symm.trans q2
  cases hnamed.symm.trans q3
  have hselP : selectMethod e.platform s.vm cellB.cls r0 = .method mk := by rw [Launch.admits_selectMethod X.admits]; exact q4
  have hpubM : hasFlag methM.accessFlags Acc.public_ = true := Cond.publicMethod_spec hnamed hmethM hpub
  have hway : ((cellB.cls :: s.vm.superclasses cellB.cls).any fun k => (declaredIn s.vm r.name r.desc k).any fun (_, z) => z.isPrivate || z.isStatic) = false := by
    rw [hnameR, hdescR]; exact Cond.unhidden_spec hcls hunh
  obtain ⟨c3, t3, w1, w2, w3⟩ := Cond.castable_spec hcast
  cases hcls.symm.trans w1
  cases hcL.symm.trans w2
  obtain ⟨vm₁, X₁, hstep₁⟩ := X.invokeinterface hexec hown hlink hn hrm hstR (by rw [hr0cls]; exact hkL) hiL hx (a := b) (cell := cellB) (kcell := kB) hcell
    (fun z h => by rw [h] at hobj; cases hobj) hkB (by rw [hr0cls]; exact w3) hselP hmethM hway hpubM habM (g := g) hg (argsL := argsL) (rest := rest) (hlen _ hsigR) hstack hdg
  rcases hK m meth c ⟨T.setVm vm₁, locs, cells, slots⟩ { g with stack := rest } (.invokeinterface index count) mk (Value.ref b :: argsL).toArray X₁ hg hsize hdg hW (X₁.named hnamed) (hpre vm₁ X₁.warmed) with ⟨v, B, X', hpost, hsteps⟩ | ⟨q, B, X', hpost, hsteps⟩
  · exact Or.inl ⟨v, vm₁, B, X₁.warmed, X', hpost, fun target h => hstep₁ _ fun acts => by rw [doInvoke_state]; exact hsteps.trans h⟩
  · exact Or.inr ⟨q, vm₁, B, X₁.warmed, X', hpost, hstep₁ _ fun acts => by rw [doInvoke_state]; exact hsteps⟩
theorem vx_runFW {x y : MethodName} {bytes cc : ByteArray} {maxL nL mc ms n index count : Nat} {ret : Option FieldType} {hh : List (Nat × Nat × Nat × Nat)} {ws : List Cond} {rm : Room} {Pc : Array Value → State → Prop} {Qc : Array Value → State → Outcome → State → Prop} {XC : String → State → State → Prop} {free : Addr → Prop} {Ts : List Cond} {own C : String} {cC : ClassId} {b : Addr} {As rest : List Value} {g : JFrame}
    (hat : ClassAt s C cC) (S : CallFix p m c cc nL s args Ts own) (hM : vx_Met l y ws rm Pc Qc XC mc ms free) (cw : va_CIW R s args own C index x y bytes maxL ret hh ws rm mc ms n) (hp : PreV s H C b Pc As)
    (hg : g.method = m) (hn : As.length = n) (hsize : g.locals.size = nL) (hstack : g.stack = As.reverse ++ .ref b :: rest) (hW : 2 * g.monitorRoom + (rest.map fun v => v.category).sum ≤ 8) (hdg : decode cc g.pc = .ok (.invokeinterface index count, 5)) (hf : cells + mc ≤ R.cells ∧ slots + ms ≤ R.slots) :
    vx_Run5 p l e R s m args below meth c H locs cells slots mc ms g rest (Qc (Value.ref b :: As).toArray) XC free := by
  obtain ⟨hrc, hrs, hfr, hlo, hws, hcw⟩ := cw.back
  have hini := cw.init
  have hK : vx_Back l R p e below s args y 5 8 (PreOf R mc ms Pc) (PostOf Qc mc ms free) (vx_Post XC mc ms free) := vx_backW (hh := hh) (bytes := bytes) (maxL := maxL) (ret := ret) hM hp.1 hrc hrs hfr hlo hws hcw (fun a' U hW => word_at hW (Or.inl (by first | rfl | simp [Cond.onTables, Cond.keeps, Cond.steady])) hini)
  obtain ⟨hx, hb, hml, ho, -⟩ := S
  obtain ⟨-, ⟨cellB, hcB, hoB, hclB⟩, hPc⟩ := hp
  obtain ⟨hfc, kB, hkB, -⟩ := hat
  cases hfc.symm.trans hclB
  intro T hT X
  rcases vx_callIFW X hx (C := C) (hh := hh) (bytes := bytes) (maxL := maxL) (ret := ret) ho cw.link cw.decl cw.face cw.sel cw.inst cw.pub cw.unh cw.cast cw.code cw.notMH hK (by rw [hT]; exact hcB) hoB hclB hkB hg (hsize.trans hml.symm) (argsL := As) (rest := rest) (fun sig h => hn.trans (cw.len sig h)) hstack hW (by rw [hb]; exact hdg)
    (fun vm₁ hW₁ => ⟨hf.1, hf.2, hPc (T.setVm vm₁) hT hW₁⟩) with ⟨v, vm₁, ⟨U', l2, c2, s2⟩, hW₁, X', ⟨g', mk, t, L, e1, e2, hq, h1, hL, h2, h3⟩, st⟩ | ⟨q, vm₁, ⟨U', l2, c2, s2⟩, hW₁, X', ⟨g', mk, t, L, E, ce, e1, e2, hq, hce, hcv, hcl, h1, hL, h2, h3⟩, st⟩
  · dsimp only [Pt.U, Pt.locs, Pt.cells, Pt.slots] at X' e1 e2 h1 h2 h3 st
    subst h1; subst h2; subst h3
    exact Or.inl ⟨v, (T.setVm vm₁).calling g' mk (Value.ref b :: As).toArray, t, U', L, hT, X', hL, e1, e2, hq, st⟩
  · dsimp only [Pt.U, Pt.locs, Pt.cells, Pt.slots] at X' e1 e2 h1 h2 h3 st hcl
    subst h1; subst h2; subst h3
    exact Or.inr ⟨q, (T.setVm vm₁).calling g' mk (Value.ref b :: As).toArray, t, U', L, E, ce, hT, X', hL, e1, e2, hq, hce, hcv, vx_cls hW₁ hcl, st⟩
end
/-! ===== END ===== -/
/-! ===== BEGIN .. of methods that hand back an object of the pool ===== -/
section
variable {p : Program} {l : Launch} {e : Env} {R : Room} {s : State} {m : MethodId} {args : Array Value} {below : List Frame} {meth : Method} {c : Code} {H : Heap} {locs : List Loc} {cells slots : Nat} {Q : State → Prop}
variable {mc ms : Nat} {free : Addr → Prop} {A0 A1 : Nat → Prop} {H0 : Heap} {a : Array Value} {pc : Nat} {ls : Array Slot} {st0 rest : List Value}
theorem vx_callq {S SX : Type} {post : Option Nat → S → Prop} {px : SX → Prop} {B : S → State → Prop} {BX : String → SX → State → Prop} {AX : Nat → Prop} (hr : vx_Run p l e R s m args below meth c H locs cells slots mc ms (F0 m pc ls st0) rest (va_Qq post B A1 a) (vx_X px BX AX) free) (hS : va_S A0 H0 H locs) (hA : ∀ q, q < H.size → A1 q → A0 q) (hf : ∀ q, free q → A0 q) (hAX : ∀ q, q < H.size → AX q → A0 q)
    (kx : ∀ (E : String) (ce : Cell) (q9 : Addr) (u : SX) (t : State) (H1 : Heap) (locs1 : List Loc), t.heap = H1 → s.vm.Alike t.vm → px u → BX E u t → H.size ≤ H1.size → (∀ q : Nat, q < H.size → ¬ AX q → H1[q]? = H[q]?) → va_S A0 H0 H1 locs1 → H1[q9]? = some ce → ce.vm = .none → s.vm.findClass E = some ce.cls → vx_W p l e R s m args below meth c H1 locs1 (cells + mc) (slots + ms) Q (F0 m pc ls rest) q9)
    (kk : ∀ (r : Option Nat) (u : S) (t : State) (H1 : Heap) (locs1 : List Loc), t.heap = H1 → s.vm.Alike t.vm → post r u → B u t → H.size ≤ H1.size → (∀ q : Nat, q < H.size → ¬ A1 q → H1[q]? = H[q]?) → va_S A0 H0 H1 locs1 → W p l e R s m args below meth c H1 locs1 (cells + mc) (slots + ms) Q (F0 m (pc + 3) ls (va_rf r :: rest))) : W p l e R s m args below meth c H locs cells slots Q (F0 m pc ls st0) := by
  intro T hT X
  rcases hr T hT X with ⟨v, st₀, t, T', L, h0, X', hL, e1, e2, ⟨⟨r, u, hv, hp, hb⟩, hF⟩, st⟩ | ⟨q, st₀, t, T', L, E, ce, h0, X', hL, e1, e2, ⟨u, hp, hb, hF⟩, hce, hcv, hcl, st⟩
  · cases hv
    obtain ⟨k1, k2, k3⟩ := vx_keep h0 e1 hS hA hf hL hF
    obtain ⟨t2, a1, b1⟩ := kk r u t T'.heap (locs ++ L) e1.symm (by rw [← e2]; exact X'.warmed.alike) hp hb k1 k2 k3 T' rfl X'
    exact ⟨t2, st t2 a1, b1⟩
  · obtain ⟨k1, k2, k3⟩ := vx_keep h0 e1 hS hAX hf hL hF
    obtain ⟨t2, a1, b1⟩ := kx E ce q u t T'.heap (locs ++ L) e1.symm (by rw [← e2]; exact X'.warmed.alike) hp hb k1 k2 k3 (by rw [e1]; exact hce) hcv hcl T' rfl X'
    exact ⟨t2, st.trans a1, b1⟩
end
/-! ===== END ===== -/
/-! ===== BEGIN .. a constant ===== -/
section
variable {p : Program} {l : Launch} {e : Env} {R : Room} {s : State} {m : MethodId} {args : Array Value} {below : List Frame} {meth : Method} {c : Code} {H : Heap} {locs : List Loc} {cells slots : Nat} {Q : State → Prop}
variable {mc ms : Nat} {free : Addr → Prop} {A0 A1 : Nat → Prop} {H0 : Heap} {a : Array Value} {pc : Nat} {ls : Array Slot} {st0 rest : List Value}
theorem vx_calle {ad : Nat → Nat} {S SX : Type} {post : Option Nat → S → Prop} {px : SX → Prop} {B : S → State → Prop} {BX : String → SX → State → Prop} {AX : Nat → Prop} (hr : vx_Run p l e R s m args below meth c H locs cells slots mc ms (F0 m pc ls st0) rest (va_Qe ad post B A1 a) (vx_X px BX AX) free) (hS : va_S A0 H0 H locs) (hA : ∀ q, q < H.size → A1 q → A0 q) (hf : ∀ q, free q → A0 q) (hAX : ∀ q, q < H.size → AX q → A0 q)
    (kx : ∀ (E : String) (ce : Cell) (q9 : Addr) (u : SX) (t : State) (H1 : Heap) (locs1 : List Loc), t.heap = H1 → s.vm.Alike t.vm → px u → BX E u t → H.size ≤ H1.size → (∀ q : Nat, q < H.size → ¬ AX q → H1[q]? = H[q]?) → va_S A0 H0 H1 locs1 → H1[q9]? = some ce → ce.vm = .none → s.vm.findClass E = some ce.cls → vx_W p l e R s m args below meth c H1 locs1 (cells + mc) (slots + ms) Q (F0 m pc ls rest) q9)
    (kk : ∀ (r : Option Nat) (u : S) (t : State) (H1 : Heap) (locs1 : List Loc), t.heap = H1 → s.vm.Alike t.vm → post r u → B u t → H.size ≤ H1.size → (∀ q : Nat, q < H.size → ¬ A1 q → H1[q]? = H[q]?) → va_S A0 H0 H1 locs1 → W p l e R s m args below meth c H1 locs1 (cells + mc) (slots + ms) Q (F0 m (pc + 3) ls (va_re ad r :: rest))) : W p l e R s m args below meth c H locs cells slots Q (F0 m pc ls st0) := by
  intro T hT X
  rcases hr T hT X with ⟨v, st₀, t, T', L, h0, X', hL, e1, e2, ⟨⟨r, u, hv, hp, hb⟩, hF⟩, st⟩ | ⟨q, st₀, t, T', L, E, ce, h0, X', hL, e1, e2, ⟨u, hp, hb, hF⟩, hce, hcv, hcl, st⟩
  · cases hv
    obtain ⟨k1, k2, k3⟩ := vx_keep h0 e1 hS hA hf hL hF
    obtain ⟨t2, a1, b1⟩ := kk r u t T'.heap (locs ++ L) e1.symm (by rw [← e2]; exact X'.warmed.alike) hp hb k1 k2 k3 T' rfl X'
    exact ⟨t2, st t2 a1, b1⟩
  · obtain ⟨k1, k2, k3⟩ := vx_keep h0 e1 hS hAX hf hL hF
    obtain ⟨t2, a1, b1⟩ := kx E ce q u t T'.heap (locs ++ L) e1.symm (by rw [← e2]; exact X'.warmed.alike) hp hb k1 k2 k3 (by rw [e1]; exact hce) hcv hcl T' rfl X'
    exact ⟨t2, st.trans a1, b1⟩
end
/-! ===== END ===== -/
/-! ===== BEGIN .. by an interface, an object ===== -/
section
variable {p : Program} {l : Launch} {e : Env} {R : Room} {s : State} {m : MethodId} {args : Array Value} {below : List Frame} {meth : Method} {c : Code} {H : Heap} {locs : List Loc} {cells slots : Nat} {Q : State → Prop}
variable {mc ms : Nat} {free : Addr → Prop} {A0 A1 : Nat → Prop} {H0 : Heap} {a : Array Value} {pc : Nat} {ls : Array Slot} {st0 rest : List Value}
theorem vx_callFq {S SX : Type} {post : Option Nat → S → Prop} {px : SX → Prop} {B : S → State → Prop} {BX : String → SX → State → Prop} {AX : Nat → Prop} (hr : vx_Run5 p l e R s m args below meth c H locs cells slots mc ms (F0 m pc ls st0) rest (va_Qq post B A1 a) (vx_X px BX AX) free) (hS : va_S A0 H0 H locs) (hA : ∀ q, q < H.size → A1 q → A0 q) (hf : ∀ q, free q → A0 q) (hAX : ∀ q, q < H.size → AX q → A0 q)
    (kx : ∀ (E : String) (ce : Cell) (q9 : Addr) (u : SX) (t : State) (H1 : Heap) (locs1 : List Loc), t.heap = H1 → s.vm.Alike t.vm → px u → BX E u t → H.size ≤ H1.size → (∀ q : Nat, q < H.size → ¬ AX q → H1[q]? = H[q]?) → va_S A0 H0 H1 locs1 → H1[q9]? = some ce → ce.vm = .none → s.vm.findClass E = some ce.cls → vx_W p l e R s m args below meth c H1 locs1 (cells + mc) (slots + ms) Q (F0 m pc ls rest) q9)
    (kk : ∀ (r : Option Nat) (u : S) (t : State) (H1 : Heap) (locs1 : List Loc), t.heap = H1 → s.vm.Alike t.vm → post r u → B u t → H.size ≤ H1.size → (∀ q : Nat, q < H.size → ¬ A1 q → H1[q]? = H[q]?) → va_S A0 H0 H1 locs1 → W p l e R s m args below meth c H1 locs1 (cells + mc) (slots + ms) Q (F0 m (pc + 5) ls (va_rf r :: rest))) : W p l e R s m args below meth c H locs cells slots Q (F0 m pc ls st0) := by
  intro T hT X
  rcases hr T hT X with ⟨v, st₀, t, T', L, h0, X', hL, e1, e2, ⟨⟨r, u, hv, hp, hb⟩, hF⟩, st⟩ | ⟨q, st₀, t, T', L, E, ce, h0, X', hL, e1, e2, ⟨u, hp, hb, hF⟩, hce, hcv, hcl, st⟩
  · cases hv
    obtain ⟨k1, k2, k3⟩ := vx_keep h0 e1 hS hA hf hL hF
    obtain ⟨t2, a1, b1⟩ := kk r u t T'.heap (locs ++ L) e1.symm (by rw [← e2]; exact X'.warmed.alike) hp hb k1 k2 k3 T' rfl X'
    exact ⟨t2, st t2 a1, b1⟩
  · obtain ⟨k1, k2, k3⟩ := vx_keep h0 e1 hS hAX hf hL hF
    obtain ⟨t2, a1, b1⟩ := kx E ce q u t T'.heap (locs ++ L) e1.symm (by rw [← e2]; exact X'.warmed.alike) hp hb k1 k2 k3 (by rw [e1]; exact hce) hcv hcl T' rfl X'
    exact ⟨t2, st.trans a1, b1⟩
end
/-! ===== END ===== -/
/-! ===== BEGIN .. by an interface, a constant ===== -/
section
variable {p : Program} {l : Launch} {e : Env} {R : Room} {s : State} {m : MethodId} {args : Array Value} {below : List Frame} {meth : Method} {c : Code} {H : Heap} {locs : List Loc} {cells slots : Nat} {Q : State → Prop}
variable {mc ms : Nat} {free : Addr → Prop} {A0 A1 : Nat → Prop} {H0 : Heap} {a : Array Value} {pc : Nat} {ls : Array Slot} {st0 rest : List Value}
theorem vx_callFe {ad : Nat → Nat} {S SX : Type} {post : Option Nat → S → Prop} {px : SX → Prop} {B : S → State → Prop} {BX : String → SX → State → Prop} {AX : Nat → Prop} (hr : vx_Run5 p l e R s m args below meth c H locs cells slots mc ms (F0 m pc ls st0) rest (va_Qe ad post B A1 a) (vx_X px BX AX) free) (hS : va_S A0 H0 H locs) (hA : ∀ q, q < H.size → A1 q → A0 q) (hf : ∀ q, free q → A0 q) (hAX : ∀ q, q < H.size → AX q → A0 q)
    (kx : ∀ (E : String) (ce : Cell) (q9 : Addr) (u : SX) (t : State) (H1 : Heap) (locs1 : List Loc), t.heap = H1 → s.vm.Alike t.vm → px u → BX E u t → H.size ≤ H1.size → (∀ q : Nat, q < H.size → ¬ AX q → H1[q]? = H[q]?) → va_S A0 H0 H1 locs1 → H1[q9]? = some ce → ce.vm = .none → s.vm.findClass E = some ce.cls → vx_W p l e R s m args below meth c H1 locs1 (cells + mc) (slots + ms) Q (F0 m pc ls rest) q9)
    (kk : ∀ (r : Option Nat) (u : S) (t : State) (H1 : Heap) (locs1 : List Loc), t.heap = H1 → s.vm.Alike t.vm → post r u → B u t → H.size ≤ H1.size → (∀ q : Nat, q < H.size → ¬ A1 q → H1[q]? = H[q]?) → va_S A0 H0 H1 locs1 → W p l e R s m args below meth c H1 locs1 (cells + mc) (slots + ms) Q (F0 m (pc + 5) ls (va_re ad r :: rest))) : W p l e R s m args below meth c H locs cells slots Q (F0 m pc ls st0) := by
  intro T hT X
  rcases hr T hT X with ⟨v, st₀, t, T', L, h0, X', hL, e1, e2, ⟨⟨r, u, hv, hp, hb⟩, hF⟩, st⟩ | ⟨q, st₀, t, T', L, E, ce, h0, X', hL, e1, e2, ⟨u, hp, hb, hF⟩, hce, hcv, hcl, st⟩
  · cases hv
    obtain ⟨k1, k2, k3⟩ := vx_keep h0 e1 hS hA hf hL hF
    obtain ⟨t2, a1, b1⟩ := kk r u t T'.heap (locs ++ L) e1.symm (by rw [← e2]; exact X'.warmed.alike) hp hb k1 k2 k3 T' rfl X'
    exact ⟨t2, st t2 a1, b1⟩
  · obtain ⟨k1, k2, k3⟩ := vx_keep h0 e1 hS hAX hf hL hF
    obtain ⟨t2, a1, b1⟩ := kx E ce q u t T'.heap (locs ++ L) e1.symm (by rw [← e2]; exact X'.warmed.alike) hp hb k1 k2 k3 (by rw [e1]; exact hce) hcv hcl T' rfl X'
    exact ⟨t2, st.trans a1, b1⟩
end
/-! ===== END ===== -/
/-! ===== BEGIN what the machine throws by itself: null at a field, at athrow ===== -/
section VXM2
variable {p : Program} {l : Launch} {e : Env} {R : Room} {s : State} {m : MethodId} {args : Array Value} {below : List Frame} {meth : Method} {c : Code} {H : Heap} {locs : List Loc} {cells slots : Nat}
variable {Q : State → Prop} {cc : ByteArray} {pc : Nat} {ls : Array Slot} {rest : List Value}
theorem vx_getfN {D cl tys} {own ref C : String} {T : u_T} {N ci index : Nat} {Ts : List Cond} (hexec : p.tables.exec = Jvm.exec) (hb : c.code = cc) (hts : ∀ w ∈ Ts, w.before args s = true) (hin : ∀ w ∈ u_ws C T N, w ∈ Ts) (hown : s.vm.findClass own = some m.cls) (hK : va_K D cl tys s) (hc : cl[ci]? = some (C, T, N)) (k : Nat) (hk : k < N) (hlink : (Cond.fieldLink own index ref (T k).2.1 (T k).2.2.1).before args s = true) (hsame : ∀ x, s.fieldFound? (T k).1 (T k).2.1 (T k).2.2.1 = some x → s.fieldFound? ref (T k).2.1 (T k).2.2.1 = some x) (hdg : decode cc pc = .ok (.getfield index, 3)) (kk : vx_NoteN p l e R s m args below meth c H locs cells slots Q (F0 m pc ls rest)) : W p l e R s m args below meth c H locs cells slots Q (F0 m pc ls (.null :: rest)) := by
  obtain ⟨hS, hfc, kC, hkC, -⟩ := hK.1 ci _ hc
  obtain ⟨cf, kf, fi, f, hi, -⟩ := hS k hk
  intro U hU X
  obtain ⟨vm', X1, st1⟩ := X.getfieldNull hexec hown hlink (hsame _ hi) (u_facts hfc hkC (u_lays hts hin hk) hi).1 (g := F0 m pc ls (.null :: rest)) rfl (rest := rest) rfl (by rw [hb]; exact hdg)
  obtain ⟨t, st, q⟩ := kk (U.setVm vm') hU X1
  exact ⟨t, st1 t st, q⟩
theorem vx_getfNN {D cl tys} {own ref C host : String} {T : u_T} {N ci index : Nat} {Ts : List Cond} (hexec : p.tables.exec = Jvm.exec) (hb : c.code = cc) (hts : ∀ w ∈ Ts, w.before args s = true) (hin : ∀ w ∈ u_ws C T N, w ∈ Ts) (hown : s.vm.findClass own = some m.cls) (hK : va_K D cl tys s) (hc : cl[ci]? = some (C, T, N)) (k : Nat) (hk : k < N) (hlink : (Cond.fieldLinkNest own index ref (T k).2.1 (T k).2.2.1 host).before args s = true) (hsame : ∀ x, s.fieldFound? (T k).1 (T k).2.1 (T k).2.2.1 = some x → s.fieldFound? ref (T k).2.1 (T k).2.2.1 = some x) (hdg : decode cc pc = .ok (.getfield index, 3)) (kk : vx_NoteN p l e R s m args below meth c H locs cells slots Q (F0 m pc ls rest)) : W p l e R s m args below meth c H locs cells slots Q (F0 m pc ls (.null :: rest)) := by
  obtain ⟨hS, hfc, kC, hkC, -⟩ := hK.1 ci _ hc
  obtain ⟨cf, kf, fi, f, hi, -⟩ := hS k hk
  intro U hU X
  obtain ⟨vm', X1, st1⟩ := X.getfieldNullNest hexec hown hlink (hsame _ hi) (u_facts hfc hkC (u_lays hts hin hk) hi).1 (g := F0 m pc ls (.null :: rest)) rfl (rest := rest) rfl (by rw [hb]; exact hdg)
  obtain ⟨t, st, q⟩ := kk (U.setVm vm') hU X1
  exact ⟨t, st1 t st, q⟩
theorem vx_putfN {D cl tys} {own ref C : String} {T : u_T} {N ci index : Nat} {Ts : List Cond} (hexec : p.tables.exec = Jvm.exec) (hb : c.code = cc) (hts : ∀ w ∈ Ts, w.before args s = true) (hin : ∀ w ∈ u_ws C T N, w ∈ Ts) (hown : s.vm.findClass own = some m.cls) (hK : va_K D cl tys s) (hc : cl[ci]? = some (C, T, N)) (k : Nat) (hk : k < N) (hlink : (Cond.fieldLink own index ref (T k).2.1 (T k).2.2.1).before args s = true) (hsame : ∀ x, s.fieldFound? (T k).1 (T k).2.1 (T k).2.2.1 = some x → s.fieldFound? ref (T k).2.1 (T k).2.2.1 = some x) (hfin : (T k).2.2.2 = false) {v : Value} (hdg : decode cc pc = .ok (.putfield index, 3)) (kk : vx_NoteN p l e R s m args below meth c H locs cells slots Q (F0 m pc ls rest)) : W p l e R s m args below meth c H locs cells slots Q (F0 m pc ls (v :: .null :: rest)) := by
  obtain ⟨hS, hfc, kC, hkC, -⟩ := hK.1 ci _ hc
  obtain ⟨cf, kf, fi, f, hi, -⟩ := hS k hk
  have hlay := hts _ (hin _ (u_in_lay hk))
  unfold u_lay at hlay
  rw [if_neg (by rw [hfin]; decide)] at hlay
  obtain ⟨c9, k9, cf9, kf9, fi9, f9, -, -, hi9, hst9, hnf9, -⟩ := Cond.lays_spec hlay
  cases hi.symm.trans hi9
  intro U hU X
  obtain ⟨vm', X1, st1⟩ := X.putfieldNull hexec hown hlink (hsame _ hi) hst9 hnf9 (g := F0 m pc ls (v :: .null :: rest)) rfl (v := v) (rest := rest) rfl (by rw [hb]; exact hdg)
  obtain ⟨t, st, q⟩ := kk (U.setVm vm') hU X1
  exact ⟨t, st1 t st, q⟩
theorem vx_putfNN {D cl tys} {own ref C host : String} {T : u_T} {N ci index : Nat} {Ts : List Cond} (hexec : p.tables.exec = Jvm.exec) (hb : c.code = cc) (hts : ∀ w ∈ Ts, w.before args s = true) (hin : ∀ w ∈ u_ws C T N, w ∈ Ts) (hown : s.vm.findClass own = some m.cls) (hK : va_K D cl tys s) (hc : cl[ci]? = some (C, T, N)) (k : Nat) (hk : k < N) (hlink : (Cond.fieldLinkNest own index ref (T k).2.1 (T k).2.2.1 host).before args s = true) (hsame : ∀ x, s.fieldFound? (T k).1 (T k).2.1 (T k).2.2.1 = some x → s.fieldFound? ref (T k).2.1 (T k).2.2.1 = some x) (hfin : (T k).2.2.2 = false) {v : Value} (hdg : decode cc pc = .ok (.putfield index, 3)) (kk : vx_NoteN p l e R s m args below meth c H locs cells slots Q (F0 m pc ls rest)) : W p l e R s m args below meth c H locs cells slots Q (F0 m pc ls (v :: .null :: rest)) := by
  obtain ⟨hS, hfc, kC, hkC, -⟩ := hK.1 ci _ hc
  obtain ⟨cf, kf, fi, f, hi, -⟩ := hS k hk
  have hlay := hts _ (hin _ (u_in_lay hk))
  unfold u_lay at hlay
  rw [if_neg (by rw [hfin]; decide)] at hlay
  obtain ⟨c9, k9, cf9, kf9, fi9, f9, -, -, hi9, hst9, hnf9, -⟩ := Cond.lays_spec hlay
  cases hi.symm.trans hi9
  intro U hU X
  obtain ⟨vm', X1, st1⟩ := X.putfieldNullNest hexec hown hlink (hsame _ hi) hst9 hnf9 (g := F0 m pc ls (v :: .null :: rest)) rfl (v := v) (rest := rest) rfl (by rw [hb]; exact hdg)
  obtain ⟨t, st, q⟩ := kk (U.setVm vm') hU X1
  exact ⟨t, st1 t st, q⟩
theorem vx_athrowN (hexec : p.tables.exec = Jvm.exec) (hb : c.code = cc) (hdg : decode cc pc = .ok (.athrow, 1)) (k : vx_NoteN p l e R s m args below meth c H locs cells slots Q (F0 m pc ls rest)) : W p l e R s m args below meth c H locs cells slots Q (F0 m pc ls (.null :: rest)) := by
  intro T hT X
  obtain ⟨t, st, q⟩ := k T hT X
  exact ⟨t, X.athrowNull hexec (g := F0 m pc ls (.null :: rest)) rfl (rest := rest) rfl (by rw [hb]; exact hdg) t st, q⟩
end VXM2
/-! ===== END ===== -/
end
section
def RX0 : String := "HexBroadsides$Chart"
def TX0 : u_T := fun k => match k with
  | 0 => ("HexBroadsides$Chart", "sea", "LHexBroadsides$Sea;", true)
  | 1 => ("HexBroadsides$Chart", "seenStands", "[I", true)
  | 2 => ("HexBroadsides$Chart", "mostPoints", "[I", true)
  | 3 => ("HexBroadsides$Chart", "queue", "[I", true)
  | 4 => ("HexBroadsides$Chart", "queued", "I", false)
  | _ => ("HexBroadsides$Chart", "cellCount", "I", false)
def tyX0 : Nat → FieldType := fun k => match k with
  | 0 => .object "HexBroadsides$Sea"
  | 1 => .array .int
  | 2 => .array .int
  | 3 => .array .int
  | 4 => .int
  | _ => .int
abbrev wsX00 : List Cond := u_ws RX0 TX0 6
theorem nmX0 : ∀ a, a < 6 → ∀ b, b < 6 → a ≠ b → (TX0 a).2.1 ≠ (TX0 b).2.1 := by decide +kernel
theorem tyX0_ok : ∀ k, k < 6 → parseFieldDescriptor (TX0 k).2.2.1 = some (tyX0 k) := by decide +kernel
abbrev cX0_init : ByteArray := prog_2_method_1_code
def yX0_init : MethodName := ⟨RX0, "<init>", "(LHexBroadsides$Sea;)V"⟩
abbrev cX0_cellsFor : ByteArray := prog_2_method_2_code
def yX0_cellsFor : MethodName := ⟨RX0, "cellsFor", "(LHexBroadsides$Ship;)I"⟩
abbrev cX0_pointsLeft : ByteArray := prog_2_method_3_code
def yX0_pointsLeft : MethodName := ⟨RX0, "pointsLeft", "(LHexBroadsides$Ship;I)I"⟩
abbrev cX0_explore : ByteArray := prog_2_method_4_code
def yX0_explore : MethodName := ⟨RX0, "explore", "(LHexBroadsides$Ship;)V"⟩
abbrev cX0_spread : ByteArray := prog_2_method_5_code
def yX0_spread : MethodName := ⟨RX0, "spread", "(LHexBroadsides$Ship;II)V"⟩
abbrev cX0_note : ByteArray := prog_2_method_6_code
def yX0_note : MethodName := ⟨RX0, "note", "(IIZI)V"⟩
def RX1 : String := "HexBroadsides$Crews"
def TX1 : u_T := fun k => match k with
  | _ => ("HexBroadsides$Crews", "sea", "LHexBroadsides$Sea;", true)
def tyX1 : Nat → FieldType := fun k => match k with
  | _ => .object "HexBroadsides$Sea"
abbrev wsX10 : List Cond := u_ws RX1 TX1 1
theorem nmX1 : ∀ a, a < 1 → ∀ b, b < 1 → a ≠ b → (TX1 a).2.1 ≠ (TX1 b).2.1 := by decide +kernel
theorem tyX1_ok : ∀ k, k < 1 → parseFieldDescriptor (TX1 k).2.2.1 = some (tyX1 k) := by decide +kernel
abbrev cX1_init : ByteArray := prog_3_method_1_code
def yX1_init : MethodName := ⟨RX1, "<init>", "(LHexBroadsides$Sea;)V"⟩
abbrev cX1_canTie : ByteArray := prog_3_method_2_code
def yX1_canTie : MethodName := ⟨RX1, "canTie", "(LHexBroadsides$Ship;LHexBroadsides$Ship;)Z"⟩
abbrev cX1_storm : ByteArray := prog_3_method_3_code
def yX1_storm : MethodName := ⟨RX1, "storm", "(LHexBroadsides$Ship;LHexBroadsides$Ship;)Z"⟩
abbrev cX1_seize : ByteArray := prog_3_method_4_code
def yX1_seize : MethodName := ⟨RX1, "seize", "(LHexBroadsides$Ship;LHexBroadsides$Ship;)V"⟩
def RX2 : String := "HexBroadsides$Gunnery"
def TX2 : u_T := fun k => match k with
  | _ => ("HexBroadsides$Gunnery", "sea", "LHexBroadsides$Sea;", true)
def tyX2 : Nat → FieldType := fun k => match k with
  | _ => .object "HexBroadsides$Sea"
abbrev wsX20 : List Cond := u_ws RX2 TX2 1
theorem nmX2 : ∀ a, a < 1 → ∀ b, b < 1 → a ≠ b → (TX2 a).2.1 ≠ (TX2 b).2.1 := by decide +kernel
theorem tyX2_ok : ∀ k, k < 1 → parseFieldDescriptor (TX2 k).2.2.1 = some (tyX2 k) := by decide +kernel
abbrev cX2_init : ByteArray := prog_4_method_1_code
def yX2_init : MethodName := ⟨RX2, "<init>", "(LHexBroadsides$Sea;)V"⟩
abbrev cX2_arcOf : ByteArray := prog_4_method_2_code
def yX2_arcOf : MethodName := ⟨RX2, "arcOf", "(II)I"⟩
abbrev cX2_isHidden : ByteArray := prog_4_method_3_code
def yX2_isHidden : MethodName := ⟨RX2, "isHidden", "(II)Z"⟩
abbrev cX2_rakes : ByteArray := prog_4_method_4_code
def yX2_rakes : MethodName := ⟨RX2, "rakes", "(LHexBroadsides$Ship;LHexBroadsides$Ship;)Z"⟩
abbrev cX2_forceOn : ByteArray := prog_4_method_5_code
def yX2_forceOn : MethodName := ⟨RX2, "forceOn", "(LHexBroadsides$Ship;ZLHexBroadsides$Ship;)I"⟩
abbrev cX2_canShoot : ByteArray := prog_4_method_6_code
def yX2_canShoot : MethodName := ⟨RX2, "canShoot", "(LHexBroadsides$Ship;ZLHexBroadsides$Ship;I)Z"⟩
abbrev cX2_shoot : ByteArray := prog_4_method_7_code
def yX2_shoot : MethodName := ⟨RX2, "shoot", "(LHexBroadsides$Ship;ZLHexBroadsides$Ship;I)I"⟩
abbrev cX2_hitHull : ByteArray := prog_4_method_8_code
def yX2_hitHull : MethodName := ⟨RX2, "hitHull", "(LHexBroadsides$Ship;LHexBroadsides$Ship;I)I"⟩
abbrev cX2_strongestShot : ByteArray := prog_4_method_9_code
def yX2_strongestShot : MethodName := ⟨RX2, "strongestShot", "(LHexBroadsides$Ship;)I"⟩
def RX3 : String := "HexBroadsides$Helm"
def TX3 : u_T := fun k => match k with
  | _ => ("HexBroadsides$Helm", "sea", "LHexBroadsides$Sea;", true)
def tyX3 : Nat → FieldType := fun k => match k with
  | _ => .object "HexBroadsides$Sea"
abbrev wsX30 : List Cond := u_ws RX3 TX3 1
theorem nmX3 : ∀ a, a < 1 → ∀ b, b < 1 → a ≠ b → (TX3 a).2.1 ≠ (TX3 b).2.1 := by decide +kernel
theorem tyX3_ok : ∀ k, k < 1 → parseFieldDescriptor (TX3 k).2.2.1 = some (tyX3 k) := by decide +kernel
abbrev cX3_init : ByteArray := prog_5_method_1_code
def yX3_init : MethodName := ⟨RX3, "<init>", "(LHexBroadsides$Sea;)V"⟩
abbrev cX3_canMove : ByteArray := prog_5_method_2_code
def yX3_canMove : MethodName := ⟨RX3, "canMove", "(LHexBroadsides$Ship;)Z"⟩
abbrev cX3_move : ByteArray := prog_5_method_3_code
def yX3_move : MethodName := ⟨RX3, "move", "(LHexBroadsides$Ship;)V"⟩
abbrev cX3_canSwing : ByteArray := prog_5_method_4_code
def yX3_canSwing : MethodName := ⟨RX3, "canSwing", "(LHexBroadsides$Ship;Z)Z"⟩
abbrev cX3_readyForRound : ByteArray := prog_5_method_5_code
def yX3_readyForRound : MethodName := ⟨RX3, "readyForRound", "(LHexBroadsides$Ship;)V"⟩
abbrev cX3_finishRound : ByteArray := prog_5_method_6_code
def yX3_finishRound : MethodName := ⟨RX3, "finishRound", "()I"⟩
abbrev cX3_drift : ByteArray := prog_5_method_7_code
def yX3_drift : MethodName := ⟨RX3, "drift", "(LHexBroadsides$Ship;)Z"⟩
abbrev cX3_obey : ByteArray := prog_5_method_8_code
def yX3_obey : MethodName := ⟨RX3, "obey", "(II)Z"⟩
abbrev cX3_obeyAhead : ByteArray := prog_5_method_9_code
def yX3_obeyAhead : MethodName := ⟨RX3, "obeyAhead", "(LHexBroadsides$Ship;)Z"⟩
abbrev cX3_obeyTurn : ByteArray := prog_5_method_10_code
def yX3_obeyTurn : MethodName := ⟨RX3, "obeyTurn", "(LHexBroadsides$Ship;Z)Z"⟩
def RX4 : String := "HexBroadsides$History"
def TX4 : u_T := fun k => match k with
  | 0 => ("HexBroadsides$History", "states", "[LHexBroadsides$Sea;", true)
  | _ => ("HexBroadsides$History", "count", "I", false)
def tyX4 : Nat → FieldType := fun k => match k with
  | 0 => .array (.object "HexBroadsides$Sea")
  | _ => .int
abbrev wsX40 : List Cond := u_ws RX4 TX4 2
theorem nmX4 : ∀ a, a < 2 → ∀ b, b < 2 → a ≠ b → (TX4 a).2.1 ≠ (TX4 b).2.1 := by decide +kernel
theorem tyX4_ok : ∀ k, k < 2 → parseFieldDescriptor (TX4 k).2.2.1 = some (tyX4 k) := by decide +kernel
abbrev cX4_init : ByteArray := prog_6_method_1_code
def yX4_init : MethodName := ⟨RX4, "<init>", "()V"⟩
abbrev cX4_save : ByteArray := prog_6_method_2_code
def yX4_save : MethodName := ⟨RX4, "save", "(LHexBroadsides$Sea;)V"⟩
abbrev cX4_dropOldest : ByteArray := prog_6_method_3_code
def yX4_dropOldest : MethodName := ⟨RX4, "dropOldest", "()V"⟩
abbrev cX4_restore : ByteArray := prog_6_method_4_code
def yX4_restore : MethodName := ⟨RX4, "restore", "(LHexBroadsides$Sea;)V"⟩
def RX5 : String := "HexBroadsides$OrderText"
def TX5 : u_T := fun k => match k with
  | 0 => ("HexBroadsides$OrderText", "bytes", "[I", true)
  | _ => ("HexBroadsides$OrderText", "length", "I", false)
def tyX5 : Nat → FieldType := fun k => match k with
  | 0 => .array .int
  | _ => .int
abbrev wsX50 : List Cond := u_ws RX5 TX5 2
theorem nmX5 : ∀ a, a < 2 → ∀ b, b < 2 → a ≠ b → (TX5 a).2.1 ≠ (TX5 b).2.1 := by decide +kernel
theorem tyX5_ok : ∀ k, k < 2 → parseFieldDescriptor (TX5 k).2.2.1 = some (tyX5 k) := by decide +kernel
abbrev cX5_init : ByteArray := prog_7_method_1_code
def yX5_init : MethodName := ⟨RX5, "<init>", "()V"⟩
abbrev cX5_isFull : ByteArray := prog_7_method_2_code
def yX5_isFull : MethodName := ⟨RX5, "isFull", "()Z"⟩
abbrev cX5_add : ByteArray := prog_7_method_3_code
def yX5_add : MethodName := ⟨RX5, "add", "(I)V"⟩
abbrev cX5_byteAt : ByteArray := prog_7_method_4_code
def yX5_byteAt : MethodName := ⟨RX5, "byteAt", "(I)I"⟩
abbrev cX5_errorPosition : ByteArray := prog_7_method_5_code
def yX5_errorPosition : MethodName := ⟨RX5, "errorPosition", "()I"⟩
abbrev cX5_placeBehind : ByteArray := prog_7_method_6_code
def yX5_placeBehind : MethodName := ⟨RX5, "placeBehind", "(II)I"⟩
abbrev cX5_placeBehindFirst : ByteArray := prog_7_method_7_code
def yX5_placeBehindFirst : MethodName := ⟨RX5, "placeBehindFirst", "(I)I"⟩
def RX6 : String := "HexBroadsides$Sea"
def TX6 : u_T := fun k => match k with
  | 0 => ("HexBroadsides$Sea", "columns", "I", false)
  | 1 => ("HexBroadsides$Sea", "rows", "I", false)
  | 2 => ("HexBroadsides$Sea", "windDirection", "I", false)
  | 3 => ("HexBroadsides$Sea", "windStrength", "I", false)
  | 4 => ("HexBroadsides$Sea", "round", "I", false)
  | 5 => ("HexBroadsides$Sea", "shipCount", "I", false)
  | 6 => ("HexBroadsides$Sea", "rocks", "[I", true)
  | _ => ("HexBroadsides$Sea", "ships", "[LHexBroadsides$Ship;", true)
def tyX6 : Nat → FieldType := fun k => match k with
  | 0 => .int
  | 1 => .int
  | 2 => .int
  | 3 => .int
  | 4 => .int
  | 5 => .int
  | 6 => .array .int
  | _ => .array (.object "HexBroadsides$Ship")
abbrev wsX60 : List Cond := u_ws RX6 TX6 8
theorem nmX6 : ∀ a, a < 8 → ∀ b, b < 8 → a ≠ b → (TX6 a).2.1 ≠ (TX6 b).2.1 := by decide +kernel
theorem tyX6_ok : ∀ k, k < 8 → parseFieldDescriptor (TX6 k).2.2.1 = some (tyX6 k) := by decide +kernel
abbrev cX6_init : ByteArray := prog_8_method_1_code
def yX6_init : MethodName := ⟨RX6, "<init>", "()V"⟩
abbrev cX6_makeAnew : ByteArray := prog_8_method_2_code
def yX6_makeAnew : MethodName := ⟨RX6, "makeAnew", "(II)V"⟩
abbrev cX6_copyFrom : ByteArray := prog_8_method_3_code
def yX6_copyFrom : MethodName := ⟨RX6, "copyFrom", "(LHexBroadsides$Sea;)V"⟩
abbrev cX6_cellCount : ByteArray := prog_8_method_4_code
def yX6_cellCount : MethodName := ⟨RX6, "cellCount", "()I"⟩
abbrev cX6_isCell : ByteArray := prog_8_method_5_code
def yX6_isCell : MethodName := ⟨RX6, "isCell", "(I)Z"⟩
abbrev cX6_isShip : ByteArray := prog_8_method_6_code
def yX6_isShip : MethodName := ⟨RX6, "isShip", "(I)Z"⟩
abbrev cX6_rowOf : ByteArray := prog_8_method_7_code
def yX6_rowOf : MethodName := ⟨RX6, "rowOf", "(I)I"⟩
abbrev cX6_columnOf : ByteArray := prog_8_method_8_code
def yX6_columnOf : MethodName := ⟨RX6, "columnOf", "(I)I"⟩
abbrev cX6_isRock : ByteArray := prog_8_method_9_code
def yX6_isRock : MethodName := ⟨RX6, "isRock", "(I)Z"⟩
abbrev cX6_markRock : ByteArray := prog_8_method_10_code
def yX6_markRock : MethodName := ⟨RX6, "markRock", "(IZ)V"⟩
abbrev cX6_shipOn : ByteArray := prog_8_method_11_code
def yX6_shipOn : MethodName := ⟨RX6, "shipOn", "(I)I"⟩
abbrev cX6_isFree : ByteArray := prog_8_method_12_code
def yX6_isFree : MethodName := ⟨RX6, "isFree", "(I)Z"⟩
abbrev cX6_occupant : ByteArray := prog_8_method_13_code
def yX6_occupant : MethodName := ⟨RX6, "occupant", "(I)I"⟩
abbrev cX6_neighbour : ByteArray := prog_8_method_14_code
def yX6_neighbour : MethodName := ⟨RX6, "neighbour", "(II)I"⟩
abbrev cX6_movesBetween : ByteArray := prog_8_method_15_code
def yX6_movesBetween : MethodName := ⟨RX6, "movesBetween", "(II)I"⟩
abbrev cX6_sight : ByteArray := prog_8_method_16_code
def yX6_sight : MethodName := ⟨RX6, "sight", "(II)I"⟩
abbrev cX6_sector : ByteArray := prog_8_method_17_code
def yX6_sector : MethodName := ⟨RX6, "sector", "(II)I"⟩
abbrev cX6_angleToWind : ByteArray := prog_8_method_18_code
def yX6_angleToWind : MethodName := ⟨RX6, "angleToWind", "(I)I"⟩
abbrev cX6_angleBetween : ByteArray := prog_8_method_19_code
def yX6_angleBetween : MethodName := ⟨RX6, "angleBetween", "(II)I"⟩
abbrev cX6_factorOf : ByteArray := prog_8_method_20_code
def yX6_factorOf : MethodName := ⟨RX6, "factorOf", "(I)I"⟩
abbrev cX6_speedIn : ByteArray := prog_8_method_21_code
def yX6_speedIn : MethodName := ⟨RX6, "speedIn", "(LHexBroadsides$Ship;I)I"⟩
abbrev cX6_fairestWind : ByteArray := prog_8_method_22_code
def yX6_fairestWind : MethodName := ⟨RX6, "fairestWind", "(LHexBroadsides$Ship;)I"⟩
abbrev cX6_untie : ByteArray := prog_8_method_23_code
def yX6_untie : MethodName := ⟨RX6, "untie", "(LHexBroadsides$Ship;)V"⟩
abbrev cX6_tiedShips : ByteArray := prog_8_method_24_code
def yX6_tiedShips : MethodName := ⟨RX6, "tiedShips", "()I"⟩
abbrev cX6_shipsAfloat : ByteArray := prog_8_method_25_code
def yX6_shipsAfloat : MethodName := ⟨RX6, "shipsAfloat", "(I)I"⟩
abbrev cX6_weightOf : ByteArray := prog_8_method_26_code
def yX6_weightOf : MethodName := ⟨RX6, "weightOf", "(I)I"⟩
abbrev cX6_rockCount : ByteArray := prog_8_method_27_code
def yX6_rockCount : MethodName := ⟨RX6, "rockCount", "()I"⟩
abbrev cX6_lastRock : ByteArray := prog_8_method_28_code
def yX6_lastRock : MethodName := ⟨RX6, "lastRock", "()I"⟩
abbrev cX6_numberAbout : ByteArray := prog_8_method_29_code
def yX6_numberAbout : MethodName := ⟨RX6, "numberAbout", "(I)I"⟩
abbrev cX6_numberAboutShip : ByteArray := prog_8_method_30_code
def yX6_numberAboutShip : MethodName := ⟨RX6, "numberAboutShip", "(LHexBroadsides$Ship;I)I"⟩
def RX7 : String := "HexBroadsides$Ship"
def TX7 : u_T := fun k => match k with
  | 0 => ("HexBroadsides$Ship", "side", "I", false)
  | 1 => ("HexBroadsides$Ship", "cell", "I", false)
  | 2 => ("HexBroadsides$Ship", "heading", "I", false)
  | 3 => ("HexBroadsides$Ship", "hull", "I", false)
  | 4 => ("HexBroadsides$Ship", "sails", "I", false)
  | 5 => ("HexBroadsides$Ship", "gunsLeft", "I", false)
  | 6 => ("HexBroadsides$Ship", "gunsRight", "I", false)
  | 7 => ("HexBroadsides$Ship", "crew", "I", false)
  | 8 => ("HexBroadsides$Ship", "firstCrew", "I", false)
  | 9 => ("HexBroadsides$Ship", "points", "I", false)
  | 10 => ("HexBroadsides$Ship", "waitLeft", "I", false)
  | 11 => ("HexBroadsides$Ship", "waitRight", "I", false)
  | 12 => ("HexBroadsides$Ship", "partner", "I", false)
  | 13 => ("HexBroadsides$Ship", "boarded", "Z", false)
  | _ => ("HexBroadsides$Ship", "hasWay", "Z", false)
def tyX7 : Nat → FieldType := fun k => match k with
  | 0 => .int
  | 1 => .int
  | 2 => .int
  | 3 => .int
  | 4 => .int
  | 5 => .int
  | 6 => .int
  | 7 => .int
  | 8 => .int
  | 9 => .int
  | 10 => .int
  | 11 => .int
  | 12 => .int
  | 13 => .boolean
  | _ => .boolean
abbrev wsX70 : List Cond := u_ws RX7 TX7 15
theorem nmX7 : ∀ a, a < 15 → ∀ b, b < 15 → a ≠ b → (TX7 a).2.1 ≠ (TX7 b).2.1 := by decide +kernel
theorem tyX7_ok : ∀ k, k < 15 → parseFieldDescriptor (TX7 k).2.2.1 = some (tyX7 k) := by decide +kernel
abbrev cX7_init : ByteArray := prog_9_method_1_code
def yX7_init : MethodName := ⟨RX7, "<init>", "()V"⟩
abbrev cX7_launch : ByteArray := prog_9_method_2_code
def yX7_launch : MethodName := ⟨RX7, "launch", "(IIIIII)V"⟩
abbrev cX7_copyFrom : ByteArray := prog_9_method_3_code
def yX7_copyFrom : MethodName := ⟨RX7, "copyFrom", "(LHexBroadsides$Ship;)V"⟩
abbrev cX7_isAfloat : ByteArray := prog_9_method_4_code
def yX7_isAfloat : MethodName := ⟨RX7, "isAfloat", "()Z"⟩
abbrev cX7_isTied : ByteArray := prog_9_method_5_code
def yX7_isTied : MethodName := ⟨RX7, "isTied", "()Z"⟩
abbrev cX7_canSail : ByteArray := prog_9_method_6_code
def yX7_canSail : MethodName := ⟨RX7, "canSail", "()Z"⟩
abbrev cX7_headingAfter : ByteArray := prog_9_method_7_code
def yX7_headingAfter : MethodName := ⟨RX7, "headingAfter", "(Z)I"⟩
abbrev cX7_swing : ByteArray := prog_9_method_8_code
def yX7_swing : MethodName := ⟨RX7, "swing", "(Z)V"⟩
abbrev cX7_gunsOn : ByteArray := prog_9_method_9_code
def yX7_gunsOn : MethodName := ⟨RX7, "gunsOn", "(Z)I"⟩
abbrev cX7_waitOn : ByteArray := prog_9_method_10_code
def yX7_waitOn : MethodName := ⟨RX7, "waitOn", "(Z)I"⟩
abbrev cX7_startWait : ByteArray := prog_9_method_11_code
def yX7_startWait : MethodName := ⟨RX7, "startWait", "(Z)V"⟩
abbrev cX7_shortenWaits : ByteArray := prog_9_method_12_code
def yX7_shortenWaits : MethodName := ⟨RX7, "shortenWaits", "()V"⟩
def RX8 : String := "HexBroadsides"
def TX8 : u_T := fun k => match k with
  | 0 => ("HexBroadsides", "sea", "LHexBroadsides$Sea;", true)
  | 1 => ("HexBroadsides", "history", "LHexBroadsides$History;", true)
  | 2 => ("HexBroadsides", "helm", "LHexBroadsides$Helm;", true)
  | 3 => ("HexBroadsides", "gunnery", "LHexBroadsides$Gunnery;", true)
  | 4 => ("HexBroadsides", "crews", "LHexBroadsides$Crews;", true)
  | 5 => ("HexBroadsides", "chart", "LHexBroadsides$Chart;", true)
  | _ => ("HexBroadsides", "text", "LHexBroadsides$OrderText;", true)
def tyX8 : Nat → FieldType := fun k => match k with
  | 0 => .object "HexBroadsides$Sea"
  | 1 => .object "HexBroadsides$History"
  | 2 => .object "HexBroadsides$Helm"
  | 3 => .object "HexBroadsides$Gunnery"
  | 4 => .object "HexBroadsides$Crews"
  | 5 => .object "HexBroadsides$Chart"
  | _ => .object "HexBroadsides$OrderText"
abbrev wsX80 : List Cond := u_ws RX8 TX8 7
theorem nmX8 : ∀ a, a < 7 → ∀ b, b < 7 → a ≠ b → (TX8 a).2.1 ≠ (TX8 b).2.1 := by decide +kernel
theorem tyX8_ok : ∀ k, k < 7 → parseFieldDescriptor (TX8 k).2.2.1 = some (tyX8 k) := by decide +kernel
abbrev cX8_init : ByteArray := prog_1_method_1_code
def yX8_init : MethodName := ⟨RX8, "<init>", "()V"⟩
abbrev cX8_begin : ByteArray := prog_1_method_2_code
def yX8_begin : MethodName := ⟨RX8, "begin", "(II)I"⟩
abbrev cX8_setRock : ByteArray := prog_1_method_3_code
def yX8_setRock : MethodName := ⟨RX8, "setRock", "(IZ)I"⟩
abbrev cX8_setWind : ByteArray := prog_1_method_4_code
def yX8_setWind : MethodName := ⟨RX8, "setWind", "(II)I"⟩
abbrev cX8_addShip : ByteArray := prog_1_method_5_code
def yX8_addShip : MethodName := ⟨RX8, "addShip", "(IIIIII)I"⟩
abbrev cX8_value : ByteArray := prog_1_method_6_code
def yX8_value : MethodName := ⟨RX8, "value", "(I)I"⟩
abbrev cX8_ship : ByteArray := prog_1_method_7_code
def yX8_ship : MethodName := ⟨RX8, "ship", "(II)I"⟩
abbrev cX8_at : ByteArray := prog_1_method_8_code
def yX8_at : MethodName := ⟨RX8, "at", "(I)I"⟩
abbrev cX8_distance : ByteArray := prog_1_method_9_code
def yX8_distance : MethodName := ⟨RX8, "distance", "(II)I"⟩
abbrev cX8_bearing : ByteArray := prog_1_method_10_code
def yX8_bearing : MethodName := ⟨RX8, "bearing", "(II)I"⟩
abbrev cX8_ahead : ByteArray := prog_1_method_11_code
def yX8_ahead : MethodName := ⟨RX8, "ahead", "(I)I"⟩
abbrev cX8_turn : ByteArray := prog_1_method_12_code
def yX8_turn : MethodName := ⟨RX8, "turn", "(IZ)I"⟩
abbrev cX8_endRound : ByteArray := prog_1_method_13_code
def yX8_endRound : MethodName := ⟨RX8, "endRound", "()I"⟩
abbrev cX8_force : ByteArray := prog_1_method_14_code
def yX8_force : MethodName := ⟨RX8, "force", "(IZI)I"⟩
abbrev cX8_fire : ByteArray := prog_1_method_15_code
def yX8_fire : MethodName := ⟨RX8, "fire", "(IZII)I"⟩
abbrev cX8_grapple : ByteArray := prog_1_method_16_code
def yX8_grapple : MethodName := ⟨RX8, "grapple", "(II)I"⟩
abbrev cX8_cut : ByteArray := prog_1_method_17_code
def yX8_cut : MethodName := ⟨RX8, "cut", "(I)I"⟩
abbrev cX8_board : ByteArray := prog_1_method_18_code
def yX8_board : MethodName := ⟨RX8, "board", "(I)I"⟩
abbrev cX8_reach : ByteArray := prog_1_method_19_code
def yX8_reach : MethodName := ⟨RX8, "reach", "(I)I"⟩
abbrev cX8_pointsAt : ByteArray := prog_1_method_20_code
def yX8_pointsAt : MethodName := ⟨RX8, "pointsAt", "(II)I"⟩
abbrev cX8_bestShot : ByteArray := prog_1_method_21_code
def yX8_bestShot : MethodName := ⟨RX8, "bestShot", "(I)I"⟩
abbrev cX8_bestWind : ByteArray := prog_1_method_22_code
def yX8_bestWind : MethodName := ⟨RX8, "bestWind", "(I)I"⟩
abbrev cX8_balance : ByteArray := prog_1_method_23_code
def yX8_balance : MethodName := ⟨RX8, "balance", "(I)D"⟩
abbrev cX8_append : ByteArray := prog_1_method_24_code
def yX8_append : MethodName := ⟨RX8, "append", "(I)I"⟩
abbrev cX8_clearText : ByteArray := prog_1_method_25_code
def yX8_clearText : MethodName := ⟨RX8, "clearText", "()I"⟩
abbrev cX8_carryOut : ByteArray := prog_1_method_26_code
def yX8_carryOut : MethodName := ⟨RX8, "carryOut", "()I"⟩
abbrev cX8_undo : ByteArray := prog_1_method_27_code
def yX8_undo : MethodName := ⟨RX8, "undo", "()I"⟩
abbrev cX8_digest : ByteArray := prog_1_method_28_code
def yX8_digest : MethodName := ⟨RX8, "digest", "()J"⟩
abbrev cX8_needCell : ByteArray := prog_1_method_29_code
def yX8_needCell : MethodName := ⟨RX8, "needCell", "(I)V"⟩
abbrev cX8_needShip : ByteArray := prog_1_method_30_code
def yX8_needShip : MethodName := ⟨RX8, "needShip", "(I)V"⟩
abbrev cX8_needTwoShips : ByteArray := prog_1_method_31_code
def yX8_needTwoShips : MethodName := ⟨RX8, "needTwoShips", "(II)V"⟩
abbrev cX8_isSide : ByteArray := prog_1_method_32_code
def yX8_isSide : MethodName := ⟨RX8, "isSide", "(I)Z"⟩
abbrev cX8_isDirection : ByteArray := prog_1_method_33_code
def yX8_isDirection : MethodName := ⟨RX8, "isDirection", "(I)Z"⟩
def RX9 : String := "HexBroadsidesModel"
def TX9 : u_T := fun k => match k with
  | 0 => ("HexBroadsidesModel", "m", "[I", true)
  | 1 => ("HexBroadsidesModel", "saved", "[I", true)
  | 2 => ("HexBroadsidesModel", "savedCount", "I", false)
  | 3 => ("HexBroadsidesModel", "text", "[I", true)
  | 4 => ("HexBroadsidesModel", "textLength", "I", false)
  | 5 => ("HexBroadsidesModel", "code", "I", false)
  | 6 => ("HexBroadsidesModel", "left", "[I", true)
  | 7 => ("HexBroadsidesModel", "place", "I", false)
  | 8 => ("HexBroadsidesModel", "letter", "I", false)
  | 9 => ("HexBroadsidesModel", "digit", "I", false)
  | _ => ("HexBroadsidesModel", "hash", "J", false)
def tyX9 : Nat → FieldType := fun k => match k with
  | 0 => .array .int
  | 1 => .array .int
  | 2 => .int
  | 3 => .array .int
  | 4 => .int
  | 5 => .int
  | 6 => .array .int
  | 7 => .int
  | 8 => .int
  | 9 => .int
  | _ => .long
abbrev wsX90 : List Cond := u_ws RX9 TX9 11
theorem nmX9 : ∀ a, a < 11 → ∀ b, b < 11 → a ≠ b → (TX9 a).2.1 ≠ (TX9 b).2.1 := by decide +kernel
theorem tyX9_ok : ∀ k, k < 11 → parseFieldDescriptor (TX9 k).2.2.1 = some (tyX9 k) := by decide +kernel
abbrev cX9_init : ByteArray := prog_11_method_1_code
def yX9_init : MethodName := ⟨RX9, "<init>", "()V"⟩
abbrev cX9_anew : ByteArray := prog_11_method_2_code
def yX9_anew : MethodName := ⟨RX9, "anew", "(II)V"⟩
abbrev cX9_thrown : ByteArray := prog_11_method_3_code
def yX9_thrown : MethodName := ⟨RX9, "thrown", "()I"⟩
abbrev cX9_in : ByteArray := prog_11_method_4_code
def yX9_in : MethodName := ⟨RX9, "in", "(III)Z"⟩
abbrev cX9_size : ByteArray := prog_11_method_5_code
def yX9_size : MethodName := ⟨RX9, "size", "(I)I"⟩
abbrev cX9_lesser : ByteArray := prog_11_method_6_code
def yX9_lesser : MethodName := ⟨RX9, "lesser", "(II)I"⟩
abbrev cX9_keep : ByteArray := prog_11_method_7_code
def yX9_keep : MethodName := ⟨RX9, "keep", "()V"⟩
abbrev cX9_cells : ByteArray := prog_11_method_8_code
def yX9_cells : MethodName := ⟨RX9, "cells", "()I"⟩
abbrev cX9_isCell : ByteArray := prog_11_method_9_code
def yX9_isCell : MethodName := ⟨RX9, "isCell", "(I)Z"⟩
abbrev cX9_isShip : ByteArray := prog_11_method_10_code
def yX9_isShip : MethodName := ⟨RX9, "isShip", "(I)Z"⟩
abbrev cX9_of : ByteArray := prog_11_method_11_code
def yX9_of : MethodName := ⟨RX9, "of", "(II)I"⟩
abbrev cX9_put : ByteArray := prog_11_method_12_code
def yX9_put : MethodName := ⟨RX9, "put", "(III)V"⟩
abbrev cX9_isAfloat : ByteArray := prog_11_method_13_code
def yX9_isAfloat : MethodName := ⟨RX9, "isAfloat", "(I)Z"⟩
abbrev cX9_downward : ByteArray := prog_11_method_14_code
def yX9_downward : MethodName := ⟨RX9, "downward", "(I)I"⟩
abbrev cX9_rightward : ByteArray := prog_11_method_15_code
def yX9_rightward : MethodName := ⟨RX9, "rightward", "(I)I"⟩
abbrev cX9_next : ByteArray := prog_11_method_16_code
def yX9_next : MethodName := ⟨RX9, "next", "(II)I"⟩
abbrev cX9_shipOn : ByteArray := prog_11_method_17_code
def yX9_shipOn : MethodName := ⟨RX9, "shipOn", "(I)I"⟩
abbrev cX9_thing : ByteArray := prog_11_method_18_code
def yX9_thing : MethodName := ⟨RX9, "thing", "(I)I"⟩
abbrev cX9_isFree : ByteArray := prog_11_method_19_code
def yX9_isFree : MethodName := ⟨RX9, "isFree", "(I)Z"⟩
abbrev cX9_down : ByteArray := prog_11_method_20_code
def yX9_down : MethodName := ⟨RX9, "down", "(II)I"⟩
abbrev cX9_right : ByteArray := prog_11_method_21_code
def yX9_right : MethodName := ⟨RX9, "right", "(II)I"⟩
abbrev cX9_far : ByteArray := prog_11_method_22_code
def yX9_far : MethodName := ⟨RX9, "far", "(II)I"⟩
abbrev cX9_bears : ByteArray := prog_11_method_23_code
def yX9_bears : MethodName := ⟨RX9, "bears", "(II)I"⟩
abbrev cX9_arc : ByteArray := prog_11_method_24_code
def yX9_arc : MethodName := ⟨RX9, "arc", "(II)I"⟩
abbrev cX9_isHidden : ByteArray := prog_11_method_25_code
def yX9_isHidden : MethodName := ⟨RX9, "isHidden", "(II)Z"⟩
abbrev cX9_begin : ByteArray := prog_11_method_26_code
def yX9_begin : MethodName := ⟨RX9, "begin", "(II)I"⟩
abbrev cX9_setRock : ByteArray := prog_11_method_27_code
def yX9_setRock : MethodName := ⟨RX9, "setRock", "(IZ)I"⟩
abbrev cX9_setWind : ByteArray := prog_11_method_28_code
def yX9_setWind : MethodName := ⟨RX9, "setWind", "(II)I"⟩
abbrev cX9_angle : ByteArray := prog_11_method_29_code
def yX9_angle : MethodName := ⟨RX9, "angle", "(II)I"⟩
abbrev cX9_speedIn : ByteArray := prog_11_method_30_code
def yX9_speedIn : MethodName := ⟨RX9, "speedIn", "(II)I"⟩
abbrev cX9_speed : ByteArray := prog_11_method_31_code
def yX9_speed : MethodName := ⟨RX9, "speed", "(I)I"⟩
abbrev cX9_begins : ByteArray := prog_11_method_32_code
def yX9_begins : MethodName := ⟨RX9, "begins", "(I)V"⟩
abbrev cX9_isGiven : ByteArray := prog_11_method_33_code
def yX9_isGiven : MethodName := ⟨RX9, "isGiven", "(IIIII)Z"⟩
abbrev cX9_addShip : ByteArray := prog_11_method_34_code
def yX9_addShip : MethodName := ⟨RX9, "addShip", "(IIIIII)I"⟩
abbrev cX9_afloat : ByteArray := prog_11_method_35_code
def yX9_afloat : MethodName := ⟨RX9, "afloat", "(I)I"⟩
abbrev cX9_rocks : ByteArray := prog_11_method_36_code
def yX9_rocks : MethodName := ⟨RX9, "rocks", "(Z)I"⟩
abbrev cX9_valueOf : ByteArray := prog_11_method_37_code
def yX9_valueOf : MethodName := ⟨RX9, "valueOf", "(I)I"⟩
abbrev cX9_value : ByteArray := prog_11_method_38_code
def yX9_value : MethodName := ⟨RX9, "value", "(I)I"⟩
abbrev cX9_shipOf : ByteArray := prog_11_method_39_code
def yX9_shipOf : MethodName := ⟨RX9, "shipOf", "(II)I"⟩
abbrev cX9_ship : ByteArray := prog_11_method_40_code
def yX9_ship : MethodName := ⟨RX9, "ship", "(II)I"⟩
abbrev cX9_at : ByteArray := prog_11_method_41_code
def yX9_at : MethodName := ⟨RX9, "at", "(I)I"⟩
abbrev cX9_distance : ByteArray := prog_11_method_42_code
def yX9_distance : MethodName := ⟨RX9, "distance", "(II)I"⟩
abbrev cX9_bearing : ByteArray := prog_11_method_43_code
def yX9_bearing : MethodName := ⟨RX9, "bearing", "(II)I"⟩
abbrev cX9_canSail : ByteArray := prog_11_method_44_code
def yX9_canSail : MethodName := ⟨RX9, "canSail", "(I)Z"⟩
abbrev cX9_notAhead : ByteArray := prog_11_method_45_code
def yX9_notAhead : MethodName := ⟨RX9, "notAhead", "(I)I"⟩
abbrev cX9_goes : ByteArray := prog_11_method_46_code
def yX9_goes : MethodName := ⟨RX9, "goes", "(I)I"⟩
abbrev cX9_ahead : ByteArray := prog_11_method_47_code
def yX9_ahead : MethodName := ⟨RX9, "ahead", "(I)I"⟩
abbrev cX9_turned : ByteArray := prog_11_method_48_code
def yX9_turned : MethodName := ⟨RX9, "turned", "(IZ)I"⟩
abbrev cX9_notTurn : ByteArray := prog_11_method_49_code
def yX9_notTurn : MethodName := ⟨RX9, "notTurn", "(IZ)I"⟩
abbrev cX9_turns : ByteArray := prog_11_method_50_code
def yX9_turns : MethodName := ⟨RX9, "turns", "(IZ)I"⟩
abbrev cX9_turn : ByteArray := prog_11_method_51_code
def yX9_turn : MethodName := ⟨RX9, "turn", "(IZ)I"⟩
abbrev cX9_ends : ByteArray := prog_11_method_52_code
def yX9_ends : MethodName := ⟨RX9, "ends", "()I"⟩
abbrev cX9_endRound : ByteArray := prog_11_method_53_code
def yX9_endRound : MethodName := ⟨RX9, "endRound", "()I"⟩
abbrev cX9_isRaking : ByteArray := prog_11_method_54_code
def yX9_isRaking : MethodName := ⟨RX9, "isRaking", "(II)Z"⟩
abbrev cX9_forceOf : ByteArray := prog_11_method_55_code
def yX9_forceOf : MethodName := ⟨RX9, "forceOf", "(III)I"⟩
abbrev cX9_notPair : ByteArray := prog_11_method_56_code
def yX9_notPair : MethodName := ⟨RX9, "notPair", "(II)I"⟩
abbrev cX9_force : ByteArray := prog_11_method_57_code
def yX9_force : MethodName := ⟨RX9, "force", "(IZI)I"⟩
abbrev cX9_notFire : ByteArray := prog_11_method_58_code
def yX9_notFire : MethodName := ⟨RX9, "notFire", "(IIII)I"⟩
abbrev cX9_loses : ByteArray := prog_11_method_59_code
def yX9_loses : MethodName := ⟨RX9, "loses", "(IIII)I"⟩
abbrev cX9_loose : ByteArray := prog_11_method_60_code
def yX9_loose : MethodName := ⟨RX9, "loose", "(I)V"⟩
abbrev cX9_fires : ByteArray := prog_11_method_61_code
def yX9_fires : MethodName := ⟨RX9, "fires", "(IIII)I"⟩
abbrev cX9_fire : ByteArray := prog_11_method_62_code
def yX9_fire : MethodName := ⟨RX9, "fire", "(IZII)I"⟩
abbrev cX9_grappled : ByteArray := prog_11_method_63_code
def yX9_grappled : MethodName := ⟨RX9, "grappled", "()I"⟩
abbrev cX9_canGrapple : ByteArray := prog_11_method_64_code
def yX9_canGrapple : MethodName := ⟨RX9, "canGrapple", "(II)Z"⟩
abbrev cX9_grapple : ByteArray := prog_11_method_65_code
def yX9_grapple : MethodName := ⟨RX9, "grapple", "(II)I"⟩
abbrev cX9_cut : ByteArray := prog_11_method_66_code
def yX9_cut : MethodName := ⟨RX9, "cut", "(I)I"⟩
abbrev cX9_boards : ByteArray := prog_11_method_67_code
def yX9_boards : MethodName := ⟨RX9, "boards", "(I)I"⟩
abbrev cX9_board : ByteArray := prog_11_method_68_code
def yX9_board : MethodName := ⟨RX9, "board", "(I)I"⟩
abbrev cX9_stand : ByteArray := prog_11_method_69_code
def yX9_stand : MethodName := ⟨RX9, "stand", "(III)I"⟩
abbrev cX9_isOpen : ByteArray := prog_11_method_70_code
def yX9_isOpen : MethodName := ⟨RX9, "isOpen", "(II)Z"⟩
abbrev cX9_arrive : ByteArray := prog_11_method_71_code
def yX9_arrive : MethodName := ⟨RX9, "arrive", "(II)V"⟩
abbrev cX9_goOn : ByteArray := prog_11_method_72_code
def yX9_goOn : MethodName := ⟨RX9, "goOn", "(III)V"⟩
abbrev cX9_spread : ByteArray := prog_11_method_73_code
def yX9_spread : MethodName := ⟨RX9, "spread", "(I)V"⟩
abbrev cX9_pointsOn : ByteArray := prog_11_method_74_code
def yX9_pointsOn : MethodName := ⟨RX9, "pointsOn", "(I)I"⟩
abbrev cX9_reached : ByteArray := prog_11_method_75_code
def yX9_reached : MethodName := ⟨RX9, "reached", "(I)I"⟩
abbrev cX9_reach : ByteArray := prog_11_method_76_code
def yX9_reach : MethodName := ⟨RX9, "reach", "(I)I"⟩
abbrev cX9_pointsAt : ByteArray := prog_11_method_77_code
def yX9_pointsAt : MethodName := ⟨RX9, "pointsAt", "(II)I"⟩
abbrev cX9_bestShot : ByteArray := prog_11_method_78_code
def yX9_bestShot : MethodName := ⟨RX9, "bestShot", "(I)I"⟩
abbrev cX9_bestWind : ByteArray := prog_11_method_79_code
def yX9_bestWind : MethodName := ⟨RX9, "bestWind", "(I)I"⟩
abbrev cX9_balance : ByteArray := prog_11_method_80_code
def yX9_balance : MethodName := ⟨RX9, "balance", "(I)D"⟩
abbrev cX9_append : ByteArray := prog_11_method_81_code
def yX9_append : MethodName := ⟨RX9, "append", "(I)I"⟩
abbrev cX9_clearText : ByteArray := prog_11_method_82_code
def yX9_clearText : MethodName := ⟨RX9, "clearText", "()I"⟩
abbrev cX9_here : ByteArray := prog_11_method_83_code
def yX9_here : MethodName := ⟨RX9, "here", "()I"⟩
abbrev cX9_takesDigit : ByteArray := prog_11_method_84_code
def yX9_takesDigit : MethodName := ⟨RX9, "takesDigit", "(I)Z"⟩
abbrev cX9_takesLetter : ByteArray := prog_11_method_85_code
def yX9_takesLetter : MethodName := ⟨RX9, "takesLetter", "(Z)Z"⟩
abbrev cX9_readOrder : ByteArray := prog_11_method_86_code
def yX9_readOrder : MethodName := ⟨RX9, "readOrder", "()Z"⟩
abbrev cX9_isText : ByteArray := prog_11_method_87_code
def yX9_isText : MethodName := ⟨RX9, "isText", "()Z"⟩
abbrev cX9_canCarryOut : ByteArray := prog_11_method_88_code
def yX9_canCarryOut : MethodName := ⟨RX9, "canCarryOut", "()Z"⟩
abbrev cX9_order : ByteArray := prog_11_method_89_code
def yX9_order : MethodName := ⟨RX9, "order", "()I"⟩
abbrev cX9_carryOut : ByteArray := prog_11_method_90_code
def yX9_carryOut : MethodName := ⟨RX9, "carryOut", "()I"⟩
abbrev cX9_undo : ByteArray := prog_11_method_91_code
def yX9_undo : MethodName := ⟨RX9, "undo", "()I"⟩
abbrev cX9_mix : ByteArray := prog_11_method_92_code
def yX9_mix : MethodName := ⟨RX9, "mix", "(J)V"⟩
abbrev cX9_digest : ByteArray := prog_11_method_93_code
def yX9_digest : MethodName := ⟨RX9, "digest", "()J"⟩
def RJ9 : String := "java/lang/Math"
abbrev cJ9_floorMod_7cf53 : ByteArray := prog_16_method_50_code
def yJ9_floorMod_7cf53 : MethodName := ⟨RJ9, "floorMod", "(II)I"⟩
abbrev cJ9_abs_0f7a4 : ByteArray := prog_16_method_59_code
def yJ9_abs_0f7a4 : MethodName := ⟨RJ9, "abs", "(I)I"⟩
abbrev cJ9_max_7cf53 : ByteArray := prog_16_method_65_code
def yJ9_max_7cf53 : MethodName := ⟨RJ9, "max", "(II)I"⟩
abbrev cJ9_min_7cf53 : ByteArray := prog_16_method_69_code
def yJ9_min_7cf53 : MethodName := ⟨RJ9, "min", "(II)I"⟩
def RJ7 : String := "java/util/Arrays"
abbrev cJ7_fill_53178 : ByteArray := prog_21_method_103_code
def yJ7_fill_53178 : MethodName := ⟨RJ7, "fill", "([II)V"⟩
def RL : String := "HexBroadsidesLaw"
abbrev cL_begin : ByteArray := method_3_code
def yL_begin : MethodName := ⟨RL, "begin", "(LHexBroadsides;II[J)I"⟩
abbrev cL_setRock : ByteArray := method_4_code
def yL_setRock : MethodName := ⟨RL, "setRock", "(LHexBroadsides;IZ[J)I"⟩
abbrev cL_setWind : ByteArray := method_5_code
def yL_setWind : MethodName := ⟨RL, "setWind", "(LHexBroadsides;II[J)I"⟩
abbrev cL_addShip : ByteArray := method_6_code
def yL_addShip : MethodName := ⟨RL, "addShip", "(LHexBroadsides;IIIIII[J)I"⟩
abbrev cL_value : ByteArray := method_7_code
def yL_value : MethodName := ⟨RL, "value", "(LHexBroadsides;I[J)I"⟩
abbrev cL_ship : ByteArray := method_8_code
def yL_ship : MethodName := ⟨RL, "ship", "(LHexBroadsides;II[J)I"⟩
abbrev cL_at : ByteArray := method_9_code
def yL_at : MethodName := ⟨RL, "at", "(LHexBroadsides;I[J)I"⟩
abbrev cL_distance : ByteArray := method_10_code
def yL_distance : MethodName := ⟨RL, "distance", "(LHexBroadsides;II[J)I"⟩
abbrev cL_bearing : ByteArray := method_11_code
def yL_bearing : MethodName := ⟨RL, "bearing", "(LHexBroadsides;II[J)I"⟩
abbrev cL_ahead : ByteArray := method_12_code
def yL_ahead : MethodName := ⟨RL, "ahead", "(LHexBroadsides;I[J)I"⟩
abbrev cL_turn : ByteArray := method_13_code
def yL_turn : MethodName := ⟨RL, "turn", "(LHexBroadsides;IZ[J)I"⟩
abbrev cL_force : ByteArray := method_14_code
def yL_force : MethodName := ⟨RL, "force", "(LHexBroadsides;IZI[J)I"⟩
abbrev cL_fire : ByteArray := method_15_code
def yL_fire : MethodName := ⟨RL, "fire", "(LHexBroadsides;IZII[J)I"⟩
abbrev cL_grapple : ByteArray := method_16_code
def yL_grapple : MethodName := ⟨RL, "grapple", "(LHexBroadsides;II[J)I"⟩
abbrev cL_cut : ByteArray := method_17_code
def yL_cut : MethodName := ⟨RL, "cut", "(LHexBroadsides;I[J)I"⟩
abbrev cL_board : ByteArray := method_18_code
def yL_board : MethodName := ⟨RL, "board", "(LHexBroadsides;I[J)I"⟩
abbrev cL_reach : ByteArray := method_19_code
def yL_reach : MethodName := ⟨RL, "reach", "(LHexBroadsides;I[J)I"⟩
abbrev cL_pointsAt : ByteArray := method_20_code
def yL_pointsAt : MethodName := ⟨RL, "pointsAt", "(LHexBroadsides;II[J)I"⟩
abbrev cL_bestShot : ByteArray := method_21_code
def yL_bestShot : MethodName := ⟨RL, "bestShot", "(LHexBroadsides;I[J)I"⟩
abbrev cL_bestWind : ByteArray := method_22_code
def yL_bestWind : MethodName := ⟨RL, "bestWind", "(LHexBroadsides;I[J)I"⟩
abbrev cL_balance : ByteArray := method_23_code
def yL_balance : MethodName := ⟨RL, "balance", "(LHexBroadsides;I[D)I"⟩
abbrev cL_append : ByteArray := method_24_code
def yL_append : MethodName := ⟨RL, "append", "(LHexBroadsides;I[J)I"⟩
abbrev cL_undo : ByteArray := method_25_code
def yL_undo : MethodName := ⟨RL, "undo", "(LHexBroadsides;[J)I"⟩
abbrev cL_law : ByteArray := code
def yL_law : MethodName := ⟨RL, "law", "([I)Z"⟩
abbrev vwCl : List vw_C := [(RX0, TX0, 6), (RX1, TX1, 1), (RX2, TX2, 1), (RX3, TX3, 1), (RX4, TX4, 2), (RX5, TX5, 2), (RX6, TX6, 8), (RX7, TX7, 15), (RX8, TX8, 7), (RX9, TX9, 11)]
def Wg : List Cond := lw_tbl.filter goodWord
theorem wgm {w : Cond} (i : Nat) (h : tables_1[i]? = some w) (g : goodWord w = true) : w ∈ Wg := List.mem_filter.mpr ⟨List.mem_append_right _ (List.mem_of_getElem? h), g⟩
theorem wgp {w : Cond} (i : Nat) (h : (k2_sels lw_privs)[i]? = some w) (g : goodWord w = true) : w ∈ Wg := List.mem_filter.mpr ⟨List.mem_append_left _ (List.mem_of_getElem? h), g⟩
theorem wg_tbl : ∀ w ∈ Wg, w ∈ lw_tbl := fun _ h => (List.mem_filter.mp h).1
theorem wg_of {big : List Cond} (h : GoodIn lw_tbl big) (g : big.all goodWord = true) : ∀ w ∈ big, w ∈ Wg := fun w hw => List.mem_filter.mpr ⟨(h w hw).1, List.all_eq_true.mp g w hw⟩
theorem inX0 : ∀ w ∈ wsX00, w ∈ Wg := by
  show ∀ w ∈ [u_lay RX0 TX0 0, u_lay RX0 TX0 1, u_lay RX0 TX0 2, u_lay RX0 TX0 3, u_lay RX0 TX0 4, u_lay RX0 TX0 5], w ∈ Wg
  exact List.forall_mem_cons.mpr ⟨wgm 229 (by decide +kernel) (by decide +kernel), List.forall_mem_cons.mpr ⟨wgm 231 (by decide +kernel) (by decide +kernel), List.forall_mem_cons.mpr ⟨wgm 233 (by decide +kernel) (by decide +kernel), List.forall_mem_cons.mpr ⟨wgm 235 (by decide +kernel) (by decide +kernel), List.forall_mem_cons.mpr ⟨wgm 237 (by decide +kernel) (by decide +kernel), List.forall_mem_cons.mpr ⟨wgm 239 (by decide +kernel) (by decide +kernel), fun _ h => absurd h List.not_mem_nil⟩⟩⟩⟩⟩⟩
theorem inX1 : ∀ w ∈ wsX10, w ∈ Wg := by
  show ∀ w ∈ [u_lay RX1 TX1 0], w ∈ Wg
  exact List.forall_mem_cons.mpr ⟨wgm 214 (by decide +kernel) (by decide +kernel), fun _ h => absurd h List.not_mem_nil⟩
theorem inX2 : ∀ w ∈ wsX20, w ∈ Wg := by
  show ∀ w ∈ [u_lay RX2 TX2 0], w ∈ Wg
  exact List.forall_mem_cons.mpr ⟨wgm 204 (by decide +kernel) (by decide +kernel), fun _ h => absurd h List.not_mem_nil⟩
theorem inX3 : ∀ w ∈ wsX30, w ∈ Wg := by
  show ∀ w ∈ [u_lay RX3 TX3 0], w ∈ Wg
  exact List.forall_mem_cons.mpr ⟨wgm 194 (by decide +kernel) (by decide +kernel), fun _ h => absurd h List.not_mem_nil⟩
theorem inX4 : ∀ w ∈ wsX40, w ∈ Wg := by
  show ∀ w ∈ [u_lay RX4 TX4 0, u_lay RX4 TX4 1], w ∈ Wg
  exact List.forall_mem_cons.mpr ⟨wgm 182 (by decide +kernel) (by decide +kernel), List.forall_mem_cons.mpr ⟨wgm 184 (by decide +kernel) (by decide +kernel), fun _ h => absurd h List.not_mem_nil⟩⟩
theorem inX5 : ∀ w ∈ wsX50, w ∈ Wg := by
  show ∀ w ∈ [u_lay RX5 TX5 0, u_lay RX5 TX5 1], w ∈ Wg
  exact List.forall_mem_cons.mpr ⟨wgm 251 (by decide +kernel) (by decide +kernel), List.forall_mem_cons.mpr ⟨wgm 253 (by decide +kernel) (by decide +kernel), fun _ h => absurd h List.not_mem_nil⟩⟩
theorem inX6 : ∀ w ∈ wsX60, w ∈ Wg := by
  show ∀ w ∈ [u_lay RX6 TX6 0, u_lay RX6 TX6 1, u_lay RX6 TX6 2, u_lay RX6 TX6 3, u_lay RX6 TX6 4, u_lay RX6 TX6 5, u_lay RX6 TX6 6, u_lay RX6 TX6 7], w ∈ Wg
  exact List.forall_mem_cons.mpr ⟨wgm 153 (by decide +kernel) (by decide +kernel), List.forall_mem_cons.mpr ⟨wgm 155 (by decide +kernel) (by decide +kernel), List.forall_mem_cons.mpr ⟨wgm 157 (by decide +kernel) (by decide +kernel), List.forall_mem_cons.mpr ⟨wgm 159 (by decide +kernel) (by decide +kernel), List.forall_mem_cons.mpr ⟨wgm 161 (by decide +kernel) (by decide +kernel), List.forall_mem_cons.mpr ⟨wgm 163 (by decide +kernel) (by decide +kernel), List.forall_mem_cons.mpr ⟨wgm 165 (by decide +kernel) (by decide +kernel), List.forall_mem_cons.mpr ⟨wgm 167 (by decide +kernel) (by decide +kernel), fun _ h => absurd h List.not_mem_nil⟩⟩⟩⟩⟩⟩⟩⟩
theorem inX7 : ∀ w ∈ wsX70, w ∈ Wg := by
  show ∀ w ∈ [u_lay RX7 TX7 0, u_lay RX7 TX7 1, u_lay RX7 TX7 2, u_lay RX7 TX7 3, u_lay RX7 TX7 4, u_lay RX7 TX7 5, u_lay RX7 TX7 6, u_lay RX7 TX7 7, u_lay RX7 TX7 8, u_lay RX7 TX7 9, u_lay RX7 TX7 10, u_lay RX7 TX7 11, u_lay RX7 TX7 12, u_lay RX7 TX7 13, u_lay RX7 TX7 14], w ∈ Wg
  exact List.forall_mem_cons.mpr ⟨wgm 95 (by decide +kernel) (by decide +kernel), List.forall_mem_cons.mpr ⟨wgm 97 (by decide +kernel) (by decide +kernel), List.forall_mem_cons.mpr ⟨wgm 99 (by decide +kernel) (by decide +kernel), List.forall_mem_cons.mpr ⟨wgm 101 (by decide +kernel) (by decide +kernel), List.forall_mem_cons.mpr ⟨wgm 103 (by decide +kernel) (by decide +kernel), List.forall_mem_cons.mpr ⟨wgm 105 (by decide +kernel) (by decide +kernel), List.forall_mem_cons.mpr ⟨wgm 107 (by decide +kernel) (by decide +kernel), List.forall_mem_cons.mpr ⟨wgm 109 (by decide +kernel) (by decide +kernel), List.forall_mem_cons.mpr ⟨wgm 111 (by decide +kernel) (by decide +kernel), List.forall_mem_cons.mpr ⟨wgm 113 (by decide +kernel) (by decide +kernel), List.forall_mem_cons.mpr ⟨wgm 115 (by decide +kernel) (by decide +kernel), List.forall_mem_cons.mpr ⟨wgm 117 (by decide +kernel) (by decide +kernel), List.forall_mem_cons.mpr ⟨wgm 119 (by decide +kernel) (by decide +kernel), List.forall_mem_cons.mpr ⟨wgm 121 (by decide +kernel) (by decide +kernel), List.forall_mem_cons.mpr ⟨wgm 123 (by decide +kernel) (by decide +kernel), fun _ h => absurd h List.not_mem_nil⟩⟩⟩⟩⟩⟩⟩⟩⟩⟩⟩⟩⟩⟩⟩
theorem inX8 : ∀ w ∈ wsX80, w ∈ Wg := by
  show ∀ w ∈ [u_lay RX8 TX8 0, u_lay RX8 TX8 1, u_lay RX8 TX8 2, u_lay RX8 TX8 3, u_lay RX8 TX8 4, u_lay RX8 TX8 5, u_lay RX8 TX8 6], w ∈ Wg
  exact List.forall_mem_cons.mpr ⟨wgm 263 (by decide +kernel) (by decide +kernel), List.forall_mem_cons.mpr ⟨wgm 265 (by decide +kernel) (by decide +kernel), List.forall_mem_cons.mpr ⟨wgm 267 (by decide +kernel) (by decide +kernel), List.forall_mem_cons.mpr ⟨wgm 269 (by decide +kernel) (by decide +kernel), List.forall_mem_cons.mpr ⟨wgm 271 (by decide +kernel) (by decide +kernel), List.forall_mem_cons.mpr ⟨wgm 273 (by decide +kernel) (by decide +kernel), List.forall_mem_cons.mpr ⟨wgm 275 (by decide +kernel) (by decide +kernel), fun _ h => absurd h List.not_mem_nil⟩⟩⟩⟩⟩⟩⟩
theorem inX9 : ∀ w ∈ wsX90, w ∈ Wg := by
  show ∀ w ∈ [u_lay RX9 TX9 0, u_lay RX9 TX9 1, u_lay RX9 TX9 2, u_lay RX9 TX9 3, u_lay RX9 TX9 4, u_lay RX9 TX9 5, u_lay RX9 TX9 6, u_lay RX9 TX9 7, u_lay RX9 TX9 8, u_lay RX9 TX9 9, u_lay RX9 TX9 10], w ∈ Wg
  exact List.forall_mem_cons.mpr ⟨wgm 971 (by decide +kernel) (by decide +kernel), List.forall_mem_cons.mpr ⟨wgm 973 (by decide +kernel) (by decide +kernel), List.forall_mem_cons.mpr ⟨wgm 975 (by decide +kernel) (by decide +kernel), List.forall_mem_cons.mpr ⟨wgm 977 (by decide +kernel) (by decide +kernel), List.forall_mem_cons.mpr ⟨wgm 979 (by decide +kernel) (by decide +kernel), List.forall_mem_cons.mpr ⟨wgm 981 (by decide +kernel) (by decide +kernel), List.forall_mem_cons.mpr ⟨wgm 983 (by decide +kernel) (by decide +kernel), List.forall_mem_cons.mpr ⟨wgm 985 (by decide +kernel) (by decide +kernel), List.forall_mem_cons.mpr ⟨wgm 987 (by decide +kernel) (by decide +kernel), List.forall_mem_cons.mpr ⟨wgm 989 (by decide +kernel) (by decide +kernel), List.forall_mem_cons.mpr ⟨wgm 991 (by decide +kernel) (by decide +kernel), fun _ h => absurd h List.not_mem_nil⟩⟩⟩⟩⟩⟩⟩⟩⟩⟩⟩
def RC (c : Nat) : String := (vwCl.getD c ("", fun _ => ("", "", "", false), 0)).1
def TC (c : Nat) : u_T := (vwCl.getD c ("", fun _ => ("", "", "", false), 0)).2.1
def NC (c : Nat) : Nat := (vwCl.getD c ("", fun _ => ("", "", "", false), 0)).2.2
def yC (c : Nat) : Nat → FieldType := match c with
  | 0 => tyX0
  | 1 => tyX1
  | 2 => tyX2
  | 3 => tyX3
  | 4 => tyX4
  | 5 => tyX5
  | 6 => tyX6
  | 7 => tyX7
  | 8 => tyX8
  | _ => tyX9
def ownN (c : Nat) : String := match c with
  | 0 => RX0
  | 1 => RX1
  | 2 => RX2
  | 3 => RX3
  | 4 => RX4
  | 5 => RX5
  | 6 => RX6
  | 7 => RX7
  | 8 => RX8
  | 9 => RX9
  | 10 => RL
  | 11 => RJ9
  | _ => RJ7
theorem cls_ok (c : Nat) (h : c < 10) : vwCl[c]? = some (RC c, TC c, NC c) ∧ (∀ w ∈ u_ws (RC c) (TC c) (NC c), w ∈ Wg) ∧ (∀ a, a < NC c → ∀ b, b < NC c → a ≠ b → (TC c a).2.1 ≠ (TC c b).2.1) ∧ (∀ k, k < NC c → parseFieldDescriptor (TC c k).2.2.1 = some (yC c k)) := by
  match c, h with
  | 0, _ => exact ⟨rfl, inX0, nmX0, tyX0_ok⟩
  | 1, _ => exact ⟨rfl, inX1, nmX1, tyX1_ok⟩
  | 2, _ => exact ⟨rfl, inX2, nmX2, tyX2_ok⟩
  | 3, _ => exact ⟨rfl, inX3, nmX3, tyX3_ok⟩
  | 4, _ => exact ⟨rfl, inX4, nmX4, tyX4_ok⟩
  | 5, _ => exact ⟨rfl, inX5, nmX5, tyX5_ok⟩
  | 6, _ => exact ⟨rfl, inX6, nmX6, tyX6_ok⟩
  | 7, _ => exact ⟨rfl, inX7, nmX7, tyX7_ok⟩
  | 8, _ => exact ⟨rfl, inX8, nmX8, tyX8_ok⟩
  | 9, _ => exact ⟨rfl, inX9, nmX9, tyX9_ok⟩
  | n + 10, h => exact absurd h (by omega)
/-- own, name, bytes, locals, answer, table, frames, words, arguments -/
abbrev Mi := Nat × MethodName × ByteArray × Nat × Option FieldType × List (Nat × Nat × Nat × Nat) × Nat × Nat × Nat
def mT0 : List Mi := [(0, yX0_init, cX0_init, 2, none, [], 1, 20, 2), (0, yX0_cellsFor, cX0_cellsFor, 2, (some .int), [], 5, 117, 2), (0, yX0_pointsLeft, cX0_pointsLeft, 3, (some .int), [], 5, 117, 3), (0, yX0_explore, cX0_explore, 5, none, [], 4, 93, 2), (0, yX0_spread, cX0_spread, 9, none, [], 3, 65, 4), (0, yX0_note, cX0_note, 7, none, [], 1, 21, 5), (1, yX1_init, cX1_init, 2, none, [], 1, 20, 2), (1, yX1_canTie, cX1_canTie, 3, (some .boolean), [], 2, 45, 3), (1, yX1_storm, cX1_storm, 5, (some .boolean), [], 3, 66, 3), (1, yX1_seize, cX1_seize, 5, none, [], 2, 42, 3), (2, yX2_init, cX2_init, 2, none, [], 1, 20, 2), (2, yX2_arcOf, cX2_arcOf, 4, (some .int), [], 1, 22, 2), (2, yX2_isHidden, cX2_isHidden, 7, (some .boolean), [], 3, 63, 3), (2, yX2_rakes, cX2_rakes, 5, (some .boolean), [], 2, 46, 3), (2, yX2_forceOn, cX2_forceOn, 7, (some .int), [], 4, 89, 4), (2, yX2_canShoot, cX2_canShoot, 5, (some .boolean), [], 5, 115, 5)]
def mT1 : List Mi := [(2, yX2_shoot, cX2_shoot, 7, (some .int), [], 5, 115, 5), (2, yX2_hitHull, cX2_hitHull, 6, (some .int), [], 2, 46, 4), (2, yX2_strongestShot, cX2_strongestShot, 7, (some .int), [], 5, 115, 2), (3, yX3_init, cX3_init, 2, none, [], 1, 20, 2), (3, yX3_canMove, cX3_canMove, 2, (some .boolean), [], 3, 65, 2), (3, yX3_move, cX3_move, 2, none, [], 2, 47, 2), (3, yX3_canSwing, cX3_canSwing, 3, (some .boolean), [], 3, 65, 3), (3, yX3_readyForRound, cX3_readyForRound, 3, none, [], 3, 67, 2), (3, yX3_finishRound, cX3_finishRound, 3, (some .int), [], 4, 89, 1), (3, yX3_drift, cX3_drift, 3, (some .boolean), [], 3, 63, 2), (3, yX3_obey, cX3_obey, 5, (some .boolean), [], 5, 111, 3), (3, yX3_obeyAhead, cX3_obeyAhead, 2, (some .boolean), [], 4, 86, 2), (3, yX3_obeyTurn, cX3_obeyTurn, 3, (some .boolean), [], 4, 87, 3), (4, yX4_init, cX4_init, 2, none, [], 3, 66, 1), (4, yX4_save, cX4_save, 2, none, [], 2, 43, 2), (4, yX4_dropOldest, cX4_dropOldest, 3, none, [], 0, 0, 1)]
def mT2 : List Mi := [(4, yX4_restore, cX4_restore, 2, none, [], 2, 43, 2), (5, yX5_init, cX5_init, 1, none, [], 1, 20, 1), (5, yX5_isFull, cX5_isFull, 1, (some .boolean), [], 0, 0, 1), (5, yX5_add, cX5_add, 2, none, [], 0, 0, 2), (5, yX5_byteAt, cX5_byteAt, 2, (some .int), [], 0, 0, 2), (5, yX5_errorPosition, cX5_errorPosition, 3, (some .int), [], 2, 41, 1), (5, yX5_placeBehind, cX5_placeBehind, 2, (some .int), [], 1, 20, 2), (5, yX5_placeBehindFirst, cX5_placeBehindFirst, 1, (some .int), [], 0, 0, 1), (6, yX6_init, cX6_init, 2, none, [], 2, 45, 1), (6, yX6_makeAnew, cX6_makeAnew, 3, none, [], 1, 23, 3), (6, yX6_copyFrom, cX6_copyFrom, 3, none, [], 1, 21, 2), (6, yX6_cellCount, cX6_cellCount, 1, (some .int), [], 1, 21, 1), (6, yX6_isCell, cX6_isCell, 2, (some .boolean), [], 0, 0, 2), (6, yX6_isShip, cX6_isShip, 2, (some .boolean), [], 0, 0, 2), (6, yX6_rowOf, cX6_rowOf, 2, (some .int), [], 0, 0, 2), (6, yX6_columnOf, cX6_columnOf, 2, (some .int), [], 0, 0, 2)]
def mT3 : List Mi := [(6, yX6_isRock, cX6_isRock, 2, (some .boolean), [], 1, 21, 2), (6, yX6_markRock, cX6_markRock, 3, none, [], 1, 21, 3), (6, yX6_shipOn, cX6_shipOn, 3, (some .int), [], 1, 20, 2), (6, yX6_isFree, cX6_isFree, 2, (some .boolean), [], 2, 42, 2), (6, yX6_occupant, cX6_occupant, 2, (some .int), [], 2, 42, 2), (6, yX6_neighbour, cX6_neighbour, 6, (some .int), [], 1, 22, 3), (6, yX6_movesBetween, cX6_movesBetween, 5, (some .int), [], 1, 21, 3), (6, yX6_sight, cX6_sight, 6, (some .int), [], 1, 21, 3), (6, yX6_sector, cX6_sector, 2, (some .int), [], 0, 0, 2), (6, yX6_angleToWind, cX6_angleToWind, 2, (some .int), [], 2, 44, 2), (6, yX6_angleBetween, cX6_angleBetween, 3, (some .int), [], 1, 22, 2), (6, yX6_factorOf, cX6_factorOf, 1, (some .int), [], 0, 0, 1), (6, yX6_speedIn, cX6_speedIn, 4, (some .int), [], 2, 44, 3), (6, yX6_fairestWind, cX6_fairestWind, 4, (some .int), [], 3, 67, 2), (6, yX6_untie, cX6_untie, 2, none, [], 1, 21, 2), (6, yX6_tiedShips, cX6_tiedShips, 3, (some .int), [], 1, 20, 1)]
def mT4 : List Mi := [(6, yX6_shipsAfloat, cX6_shipsAfloat, 4, (some .int), [], 1, 20, 2), (6, yX6_weightOf, cX6_weightOf, 4, (some .int), [], 1, 20, 2), (6, yX6_rockCount, cX6_rockCount, 3, (some .int), [], 2, 42, 1), (6, yX6_lastRock, cX6_lastRock, 2, (some .int), [], 2, 42, 1), (6, yX6_numberAbout, cX6_numberAbout, 2, (some .int), [], 3, 64, 2), (6, yX6_numberAboutShip, cX6_numberAboutShip, 3, (some .int), [], 3, 67, 3), (7, yX7_init, cX7_init, 1, none, [], 1, 20, 1), (7, yX7_launch, cX7_launch, 7, none, [], 0, 0, 7), (7, yX7_copyFrom, cX7_copyFrom, 2, none, [], 0, 0, 2), (7, yX7_isAfloat, cX7_isAfloat, 1, (some .boolean), [], 0, 0, 1), (7, yX7_isTied, cX7_isTied, 1, (some .boolean), [], 0, 0, 1), (7, yX7_canSail, cX7_canSail, 1, (some .boolean), [], 1, 20, 1), (7, yX7_headingAfter, cX7_headingAfter, 2, (some .int), [], 1, 22, 2), (7, yX7_swing, cX7_swing, 2, none, [], 2, 43, 2), (7, yX7_gunsOn, cX7_gunsOn, 2, (some .int), [], 0, 0, 2), (7, yX7_waitOn, cX7_waitOn, 2, (some .int), [], 0, 0, 2)]
def mT5 : List Mi := [(7, yX7_startWait, cX7_startWait, 3, none, [], 0, 0, 2), (7, yX7_shortenWaits, cX7_shortenWaits, 1, none, [], 1, 21, 1), (8, yX8_init, cX8_init, 2, none, [], 4, 87, 1), (8, yX8_begin, cX8_begin, 4, (some .int), [], 6, 82, 3), (8, yX8_setRock, cX8_setRock, 4, (some .int), [], 7, 103, 3), (8, yX8_setWind, cX8_setWind, 4, (some .int), [], 6, 82, 3), (8, yX8_addShip, cX8_addShip, 9, (some .int), [], 7, 103, 7), (8, yX8_value, cX8_value, 2, (some .int), [], 6, 85, 2), (8, yX8_ship, cX8_ship, 3, (some .int), [], 7, 103, 3), (8, yX8_at, cX8_at, 2, (some .int), [], 7, 103, 2), (8, yX8_distance, cX8_distance, 3, (some .int), [], 7, 103, 3), (8, yX8_bearing, cX8_bearing, 3, (some .int), [], 7, 103, 3), (8, yX8_ahead, cX8_ahead, 3, (some .int), [], 7, 103, 2), (8, yX8_turn, cX8_turn, 4, (some .int), [], 7, 103, 3), (8, yX8_endRound, cX8_endRound, 1, (some .int), [], 5, 111, 1), (8, yX8_force, cX8_force, 4, (some .int), [], 8, 125, 4)]
def mT6 : List Mi := [(8, yX8_fire, cX8_fire, 7, (some .int), [], 8, 141, 5), (8, yX8_grapple, cX8_grapple, 3, (some .int), [], 8, 125, 3), (8, yX8_cut, cX8_cut, 3, (some .int), [], 7, 103, 2), (8, yX8_board, cX8_board, 3, (some .int), [], 7, 103, 2), (8, yX8_reach, cX8_reach, 2, (some .int), [], 7, 138, 2), (8, yX8_pointsAt, cX8_pointsAt, 3, (some .int), [], 7, 139, 3), (8, yX8_bestShot, cX8_bestShot, 2, (some .int), [], 7, 141, 2), (8, yX8_bestWind, cX8_bestWind, 2, (some .int), [], 7, 103, 2), (8, yX8_balance, cX8_balance, 4, (some .double), [], 6, 82, 2), (8, yX8_append, cX8_append, 2, (some .int), [], 6, 82, 2), (8, yX8_clearText, cX8_clearText, 2, (some .int), [], 0, 0, 1), (8, yX8_carryOut, cX8_carryOut, 4, (some .int), [], 6, 135, 1), (8, yX8_undo, cX8_undo, 1, (some .int), [], 6, 82, 1), (8, yX8_digest, cX8_digest, 5, (some .long), [], 6, 138, 1), (8, yX8_needCell, cX8_needCell, 2, none, [], 6, 82, 2), (8, yX8_needShip, cX8_needShip, 2, none, [], 6, 82, 2)]
def mT7 : List Mi := [(8, yX8_needTwoShips, cX8_needTwoShips, 3, none, [], 7, 103, 3), (8, yX8_isSide, cX8_isSide, 1, (some .boolean), [], 0, 0, 1), (8, yX8_isDirection, cX8_isDirection, 1, (some .boolean), [], 0, 0, 1), (9, yX9_init, cX9_init, 1, none, [], 1, 23, 1), (9, yX9_anew, cX9_anew, 4, none, [], 0, 0, 3), (9, yX9_thrown, cX9_thrown, 1, (some .int), [], 0, 0, 1), (9, yX9_in, cX9_in, 3, (some .boolean), [], 0, 0, 3), (9, yX9_size, cX9_size, 1, (some .int), [], 0, 0, 1), (9, yX9_lesser, cX9_lesser, 2, (some .int), [], 0, 0, 2), (9, yX9_keep, cX9_keep, 2, none, [], 0, 0, 1), (9, yX9_cells, cX9_cells, 1, (some .int), [], 0, 0, 1), (9, yX9_isCell, cX9_isCell, 2, (some .boolean), [], 1, 22, 2), (9, yX9_isShip, cX9_isShip, 2, (some .boolean), [], 1, 22, 2), (9, yX9_of, cX9_of, 3, (some .int), [], 0, 0, 3), (9, yX9_put, cX9_put, 4, none, [], 0, 0, 4), (9, yX9_isAfloat, cX9_isAfloat, 2, (some .boolean), [], 1, 22, 2)]
def mT8 : List Mi := [(9, yX9_downward, cX9_downward, 1, (some .int), [], 0, 0, 1), (9, yX9_rightward, cX9_rightward, 1, (some .int), [], 0, 0, 1), (9, yX9_next, cX9_next, 5, (some .int), [], 1, 22, 3), (9, yX9_shipOn, cX9_shipOn, 3, (some .int), [], 2, 43, 2), (9, yX9_thing, cX9_thing, 2, (some .int), [], 3, 65, 2), (9, yX9_isFree, cX9_isFree, 2, (some .boolean), [], 4, 86, 2), (9, yX9_down, cX9_down, 3, (some .int), [], 0, 0, 3), (9, yX9_right, cX9_right, 3, (some .int), [], 0, 0, 3), (9, yX9_far, cX9_far, 6, (some .int), [], 1, 22, 3), (9, yX9_bears, cX9_bears, 10, (some .int), [], 1, 22, 3), (9, yX9_arc, cX9_arc, 6, (some .int), [], 2, 51, 3), (9, yX9_isHidden, cX9_isHidden, 6, (some .boolean), [], 4, 86, 3), (9, yX9_begin, cX9_begin, 4, (some .int), [], 1, 23, 3), (9, yX9_setRock, cX9_setRock, 4, (some .int), [], 3, 65, 3), (9, yX9_setWind, cX9_setWind, 4, (some .int), [], 1, 22, 3), (9, yX9_angle, cX9_angle, 3, (some .int), [], 0, 0, 2)]
def mT9 : List Mi := [(9, yX9_speedIn, cX9_speedIn, 5, (some .int), [], 1, 22, 3), (9, yX9_speed, cX9_speed, 2, (some .int), [], 2, 46, 2), (9, yX9_begins, cX9_begins, 3, none, [], 3, 67, 2), (9, yX9_isGiven, cX9_isGiven, 6, (some .boolean), [], 1, 22, 6), (9, yX9_addShip, cX9_addShip, 8, (some .int), [], 5, 107, 7), (9, yX9_afloat, cX9_afloat, 4, (some .int), [], 2, 43, 2), (9, yX9_rocks, cX9_rocks, 5, (some .int), [], 1, 20, 2), (9, yX9_valueOf, cX9_valueOf, 2, (some .int), [], 3, 66, 2), (9, yX9_value, cX9_value, 2, (some .int), [], 4, 87, 2), (9, yX9_shipOf, cX9_shipOf, 3, (some .int), [], 3, 67, 3), (9, yX9_ship, cX9_ship, 3, (some .int), [], 4, 89, 3), (9, yX9_at, cX9_at, 2, (some .int), [], 4, 86, 2), (9, yX9_distance, cX9_distance, 3, (some .int), [], 2, 47, 3), (9, yX9_bearing, cX9_bearing, 3, (some .int), [], 2, 51, 3), (9, yX9_canSail, cX9_canSail, 2, (some .boolean), [], 2, 43, 2), (9, yX9_notAhead, cX9_notAhead, 3, (some .int), [], 5, 107, 2)]
def mT10 : List Mi := [(9, yX9_goes, cX9_goes, 2, (some .int), [], 2, 46, 2), (9, yX9_ahead, cX9_ahead, 2, (some .int), [], 6, 129, 2), (9, yX9_turned, cX9_turned, 2, (some .int), [], 0, 0, 2), (9, yX9_notTurn, cX9_notTurn, 4, (some .int), [], 3, 64, 3), (9, yX9_turns, cX9_turns, 3, (some .int), [], 1, 23, 3), (9, yX9_turn, cX9_turn, 3, (some .int), [], 4, 87, 3), (9, yX9_ends, cX9_ends, 4, (some .int), [], 5, 107, 1), (9, yX9_endRound, cX9_endRound, 1, (some .int), [], 6, 130, 1), (9, yX9_isRaking, cX9_isRaking, 4, (some .boolean), [], 2, 51, 3), (9, yX9_forceOf, cX9_forceOf, 7, (some .int), [], 5, 111, 4), (9, yX9_notPair, cX9_notPair, 3, (some .int), [], 2, 43, 3), (9, yX9_force, cX9_force, 4, (some .int), [], 6, 137, 4), (9, yX9_notFire, cX9_notFire, 7, (some .int), [], 6, 137, 5), (9, yX9_loses, cX9_loses, 6, (some .int), [], 1, 23, 5), (9, yX9_loose, cX9_loose, 2, none, [], 1, 23, 2), (9, yX9_fires, cX9_fires, 9, (some .int), [], 6, 137, 5)]
def mT11 : List Mi := [(9, yX9_fire, cX9_fire, 5, (some .int), [], 7, 165, 5), (9, yX9_grappled, cX9_grappled, 3, (some .int), [], 1, 22, 1), (9, yX9_canGrapple, cX9_canGrapple, 4, (some .boolean), [], 2, 47, 3), (9, yX9_grapple, cX9_grapple, 3, (some .int), [], 3, 70, 3), (9, yX9_cut, cX9_cut, 3, (some .int), [], 2, 44, 2), (9, yX9_boards, cX9_boards, 7, (some .int), [], 2, 44, 2), (9, yX9_board, cX9_board, 2, (some .int), [], 3, 70, 2), (9, yX9_stand, cX9_stand, 4, (some .int), [], 0, 0, 4), (9, yX9_isOpen, cX9_isOpen, 3, (some .boolean), [], 5, 107, 3), (9, yX9_arrive, cX9_arrive, 3, none, [], 0, 0, 3), (9, yX9_goOn, cX9_goOn, 9, none, [], 6, 129, 4), (9, yX9_spread, cX9_spread, 5, none, [], 7, 157, 2), (9, yX9_pointsOn, cX9_pointsOn, 4, (some .int), [], 0, 0, 2), (9, yX9_reached, cX9_reached, 4, (some .int), [], 8, 181, 2), (9, yX9_reach, cX9_reach, 2, (some .int), [], 9, 204, 2), (9, yX9_pointsAt, cX9_pointsAt, 3, (some .int), [], 8, 181, 3)]
def mT12 : List Mi := [(9, yX9_bestShot, cX9_bestShot, 6, (some .int), [], 6, 137, 2), (9, yX9_bestWind, cX9_bestWind, 4, (some .int), [], 2, 46, 2), (9, yX9_balance, cX9_balance, 6, (some .double), [], 2, 43, 2), (9, yX9_append, cX9_append, 2, (some .int), [], 1, 22, 2), (9, yX9_clearText, cX9_clearText, 2, (some .int), [], 0, 0, 1), (9, yX9_here, cX9_here, 1, (some .int), [], 0, 0, 1), (9, yX9_takesDigit, cX9_takesDigit, 3, (some .boolean), [], 1, 22, 2), (9, yX9_takesLetter, cX9_takesLetter, 2, (some .boolean), [], 1, 20, 2), (9, yX9_readOrder, cX9_readOrder, 3, (some .boolean), [], 2, 44, 1), (9, yX9_isText, cX9_isText, 2, (some .boolean), [], 3, 66, 1), (9, yX9_canCarryOut, cX9_canCarryOut, 1, (some .boolean), [], 6, 129, 1), (9, yX9_order, cX9_order, 1, (some .int), [], 6, 130, 1), (9, yX9_carryOut, cX9_carryOut, 4, (some .int), [], 7, 150, 1), (9, yX9_undo, cX9_undo, 2, (some .int), [], 0, 0, 1), (9, yX9_mix, cX9_mix, 3, none, [], 0, 0, 2), (9, yX9_digest, cX9_digest, 3, (some .long), [], 9, 204, 1)]
def mT13 : List Mi := [(11, yJ9_floorMod_7cf53, cJ9_floorMod_7cf53, 3, (some .int), [], 0, 0, 2), (11, yJ9_abs_0f7a4, cJ9_abs_0f7a4, 1, (some .int), [], 0, 0, 1), (11, yJ9_max_7cf53, cJ9_max_7cf53, 2, (some .int), [], 0, 0, 2), (11, yJ9_min_7cf53, cJ9_min_7cf53, 2, (some .int), [], 0, 0, 2), (12, yJ7_fill_53178, cJ7_fill_53178, 4, none, [], 0, 0, 2), (10, yL_begin, cL_begin, 5, (some .int), [(0, 10, 13, 13)], 7, 105, 4), (10, yL_setRock, cL_setRock, 5, (some .int), [(0, 10, 13, 19), (0, 10, 17, 21)], 8, 126, 4), (10, yL_setWind, cL_setWind, 5, (some .int), [(0, 10, 13, 13)], 7, 105, 4), (10, yL_addShip, cL_addShip, 9, (some .int), [(0, 18, 21, 19), (0, 18, 25, 13), (0, 18, 29, 21)], 8, 131, 8), (10, yL_value, cL_value, 4, (some .int), [(0, 9, 12, 13)], 7, 106, 3), (10, yL_ship, cL_ship, 5, (some .int), [(0, 10, 13, 19), (0, 10, 17, 13)], 8, 125, 4), (10, yL_at, cL_at, 4, (some .int), [(0, 9, 12, 19)], 8, 124, 3), (10, yL_distance, cL_distance, 5, (some .int), [(0, 10, 13, 19)], 8, 125, 4), (10, yL_bearing, cL_bearing, 5, (some .int), [(0, 10, 13, 19)], 8, 125, 4), (10, yL_ahead, cL_ahead, 4, (some .int), [(0, 9, 12, 19), (0, 9, 15, 21)], 8, 125, 3), (10, yL_turn, cL_turn, 5, (some .int), [(0, 10, 13, 19), (0, 10, 17, 21)], 8, 126, 4)]
def mT14 : List Mi := [(10, yL_force, cL_force, 6, (some .int), [(0, 12, 15, 19), (0, 12, 19, 13)], 9, 148, 5), (10, yL_fire, cL_fire, 7, (some .int), [(0, 14, 17, 19), (0, 14, 21, 13), (0, 14, 25, 21)], 9, 167, 6), (10, yL_grapple, cL_grapple, 5, (some .int), [(0, 10, 13, 19), (0, 10, 17, 13), (0, 10, 21, 21)], 9, 147, 4), (10, yL_cut, cL_cut, 4, (some .int), [(0, 9, 12, 19), (0, 9, 15, 21)], 8, 125, 3), (10, yL_board, cL_board, 4, (some .int), [(0, 9, 12, 19), (0, 9, 15, 21)], 8, 125, 3), (10, yL_reach, cL_reach, 4, (some .int), [(0, 9, 12, 19)], 8, 159, 3), (10, yL_pointsAt, cL_pointsAt, 5, (some .int), [(0, 10, 13, 19)], 8, 161, 4), (10, yL_bestShot, cL_bestShot, 4, (some .int), [(0, 9, 12, 19)], 8, 162, 3), (10, yL_bestWind, cL_bestWind, 4, (some .int), [(0, 9, 12, 19)], 8, 124, 3), (10, yL_balance, cL_balance, 4, (some .int), [(0, 8, 11, 13)], 7, 105, 3), (10, yL_append, cL_append, 4, (some .int), [(0, 9, 12, 13), (0, 9, 15, 21)], 7, 103, 3), (10, yL_undo, cL_undo, 3, (some .int), [(0, 8, 11, 21)], 7, 102, 2), (10, yL_law, cL_law, 9, ret, [], 10, 226, 1)]
def mOf (m : Nat) : Mi := match m / 16 with
  | 0 => mT0.getD (m % 16) (0, yX0_init, cX0_init, 0, none, [], 0, 0, 0)
  | 1 => mT1.getD (m % 16) (0, yX0_init, cX0_init, 0, none, [], 0, 0, 0)
  | 2 => mT2.getD (m % 16) (0, yX0_init, cX0_init, 0, none, [], 0, 0, 0)
  | 3 => mT3.getD (m % 16) (0, yX0_init, cX0_init, 0, none, [], 0, 0, 0)
  | 4 => mT4.getD (m % 16) (0, yX0_init, cX0_init, 0, none, [], 0, 0, 0)
  | 5 => mT5.getD (m % 16) (0, yX0_init, cX0_init, 0, none, [], 0, 0, 0)
  | 6 => mT6.getD (m % 16) (0, yX0_init, cX0_init, 0, none, [], 0, 0, 0)
  | 7 => mT7.getD (m % 16) (0, yX0_init, cX0_init, 0, none, [], 0, 0, 0)
  | 8 => mT8.getD (m % 16) (0, yX0_init, cX0_init, 0, none, [], 0, 0, 0)
  | 9 => mT9.getD (m % 16) (0, yX0_init, cX0_init, 0, none, [], 0, 0, 0)
  | 10 => mT10.getD (m % 16) (0, yX0_init, cX0_init, 0, none, [], 0, 0, 0)
  | 11 => mT11.getD (m % 16) (0, yX0_init, cX0_init, 0, none, [], 0, 0, 0)
  | 12 => mT12.getD (m % 16) (0, yX0_init, cX0_init, 0, none, [], 0, 0, 0)
  | 13 => mT13.getD (m % 16) (0, yX0_init, cX0_init, 0, none, [], 0, 0, 0)
  | _ => mT14.getD (m % 16) (0, yX0_init, cX0_init, 0, none, [], 0, 0, 0)
def mOwn (m : Nat) := (mOf m).1
def mY (m : Nat) := (mOf m).2.1
def mCc (m : Nat) := (mOf m).2.2.1
def mMax (m : Nat) := (mOf m).2.2.2.1
def mRet (m : Nat) := (mOf m).2.2.2.2.1
def mHh (m : Nat) := (mOf m).2.2.2.2.2.1
def mF (m : Nat) := (mOf m).2.2.2.2.2.2.1
def mL (m : Nat) := (mOf m).2.2.2.2.2.2.2.1
def mNa (m : Nat) := (mOf m).2.2.2.2.2.2.2.2
def cd_0 : List (Nat × Instr × Nat) := [(0, .aload_n 0, 1), (1, .invokespecial 3, 3), (4, .aload_n 0, 1), (5, .aload_n 1, 1), (6, .putfield 9, 3), (9, .aload_n 0, 1), (10, .sipush 144, 3), (13, .newarray .int, 2), (15, .putfield 15, 3), (18, .aload_n 0, 1), (19, .sipush 144, 3), (22, .newarray .int, 2), (24, .putfield 19, 3), (27, .aload_n 0, 1), (28, .sipush 1728, 3), (31, .newarray .int, 2), (33, .putfield 22, 3), (36, .aload_n 0, 1), (37, .iconst 0, 1), (38, .putfield 25, 3), (41, .aload_n 0, 1), (42, .iconst 0, 1), (43, .putfield 29, 3), (46, .return_, 1)]
def cd_1 : List (Nat × Instr × Nat) := [(0, .aload_n 0, 1), (1, .aload_n 1, 1), (2, .invokevirtual 32, 3), (5, .aload_n 0, 1), (6, .getfield 29, 3), (9, .ireturn, 1)]
def cd_2 : List (Nat × Instr × Nat) := [(0, .aload_n 0, 1), (1, .aload_n 1, 1), (2, .invokevirtual 32, 3), (5, .aload_n 0, 1), (6, .getfield 9, 3), (9, .iload_n 2, 1), (10, .invokevirtual 36, 3), (13, .ifCond .eq 12, 3), (16, .aload_n 0, 1), (17, .getfield 19, 3), (20, .iload_n 2, 1), (21, .iaload, 1), (22, .goto 4, 3), (25, .iconst (-1), 1), (26, .ireturn, 1)]
def cd_3 : List (Nat × Instr × Nat) := [(0, .aload_n 0, 1), (1, .getfield 15, 3), (4, .iconst 0, 1), (5, .invokestatic 42, 3), (8, .aload_n 0, 1), (9, .getfield 19, 3), (12, .iconst (-1), 1), (13, .invokestatic 42, 3), (16, .aload_n 0, 1), (17, .iconst 0, 1), (18, .putfield 25, 3), (21, .aload_n 0, 1), (22, .iconst 0, 1), (23, .putfield 29, 3), (26, .aload_n 1, 1), (27, .invokevirtual 48, 3), (30, .ifCond .ne 4, 3), (33, .return_, 1), (34, .aload_n 0, 1), (35, .aload_n 1, 1), (36, .getfield 54, 3), (39, .aload_n 1, 1), (40, .getfield 57, 3), (43, .aload_n 1, 1), (44, .getfield 60, 3), (47, .aload_n 1, 1), (48, .getfield 64, 3), (51, .invokevirtual 67, 3), (54, .aload_n 1, 1), (55, .invokevirtual 71, 3), (58, .ifCond .ne 4, 3), (61, .return_, 1), (62, .iconst 0, 1), (63, .istore_n 2, 1), (64, .aload_n 1, 1), (65, .getfield 64, 3), (68, .istore_n 3, 1), (69, .iload_n 3, 1), (70, .ifCond .le 50, 3), (73, .aload_n 0, 1), (74, .getfield 25, 3), (77, .istore 4, 2), (79, .iload_n 2, 1), (80, .iload 4, 2), (82, .if_icmp .ge 32, 3), (85, .iload_n 2, 1), (86, .aload_n 0, 1), (87, .getfield 22, 3), (90, .arraylength, 1), (91, .if_icmp .ge 23, 3), (94, .aload_n 0, 1), (95, .aload_n 1, 1), (96, .aload_n 0, 1), (97, .getfield 22, 3), (100, .iload_n 2, 1), (101, .iaload, 1), (102, .iload_n 3, 1), (103, .iconst 1, 1), (104, .isub, 1), (105, .invokevirtual 74, 3), (108, .iinc 2 1, 3), (111, .goto (-32), 3), (114, .iinc 3 (-1), 3), (117, .goto (-48), 3), (120, .return_, 1)]
def cd_4 : List (Nat × Instr × Nat) := [(0, .iload_n 2, 1), (1, .bipush 12, 2), (3, .idiv, 1), (4, .istore 4, 2), (6, .iload_n 2, 1), (7, .bipush 12, 2), (9, .irem, 1), (10, .iconst 2, 1), (11, .idiv, 1), (12, .istore 5, 2), (14, .iload_n 2, 1), (15, .iconst 2, 1), (16, .irem, 1), (17, .ifCond .eq 7, 3), (20, .iconst 1, 1), (21, .goto 4, 3), (24, .iconst 0, 1), (25, .istore 6, 2), (27, .aload_n 0, 1), (28, .getfield 9, 3), (31, .iload 5, 2), (33, .invokevirtual 78, 3), (36, .iconst 3, 1), (37, .if_icmp .eq 47, 3), (40, .aload_n 0, 1), (41, .getfield 9, 3), (44, .iload 4, 2), (46, .iload 5, 2), (48, .invokevirtual 82, 3), (51, .istore 7, 2), (53, .iload 7, 2), (55, .aload_n 1, 1), (56, .getfield 54, 3), (59, .if_icmp .eq 15, 3), (62, .aload_n 0, 1), (63, .getfield 9, 3), (66, .iload 7, 2), (68, .invokevirtual 86, 3), (71, .ifCond .eq 13, 3), (74, .aload_n 0, 1), (75, .iload 7, 2), (77, .iload 5, 2), (79, .iconst 1, 1), (80, .iload_n 3, 1), (81, .invokevirtual 67, 3), (84, .iload 5, 2), (86, .iconst 1, 1), (87, .iadd, 1), (88, .bipush 6, 2), (90, .irem, 1), (91, .istore 7, 2), (93, .iload 6, 2), (95, .ifCond .ne 16, 3), (98, .aload_n 0, 1), (99, .getfield 9, 3), (102, .iload 7, 2), (104, .invokevirtual 78, 3), (107, .iconst 3, 1), (108, .if_icmp .eq 13, 3), (111, .aload_n 0, 1), (112, .iload 4, 2), (114, .iload 7, 2), (116, .iconst 0, 1), (117, .iload_n 3, 1), (118, .invokevirtual 67, 3), (121, .iload 5, 2), (123, .bipush 6, 2), (125, .iadd, 1), (126, .iconst 1, 1), (127, .isub, 1), (128, .bipush 6, 2), (130, .irem, 1), (131, .istore 8, 2), (133, .iload 6, 2), (135, .ifCond .ne 16, 3), (138, .aload_n 0, 1), (139, .getfield 9, 3), (142, .iload 8, 2), (144, .invokevirtual 78, 3), (147, .iconst 3, 1), (148, .if_icmp .eq 13, 3), (151, .aload_n 0, 1), (152, .iload 4, 2), (154, .iload 8, 2), (156, .iconst 0, 1), (157, .iload_n 3, 1), (158, .invokevirtual 67, 3), (161, .return_, 1)]
def cd_5 : List (Nat × Instr × Nat) := [(0, .aload_n 0, 1), (1, .getfield 9, 3), (4, .iload_n 1, 1), (5, .invokevirtual 36, 3), (8, .ifCond .eq 15, 3), (11, .aload_n 0, 1), (12, .getfield 25, 3), (15, .aload_n 0, 1), (16, .getfield 22, 3), (19, .arraylength, 1), (20, .if_icmp .lt 4, 3), (23, .return_, 1), (24, .iconst 2, 1), (25, .iload_n 2, 1), (26, .imul, 1), (27, .iload_n 3, 1), (28, .ifCond .eq 7, 3), (31, .iconst 1, 1), (32, .goto 4, 3), (35, .iconst 0, 1), (36, .iadd, 1), (37, .istore 5, 2), (39, .iconst 1, 1), (40, .iload 5, 2), (42, .ishl, 1), (43, .istore 6, 2), (45, .aload_n 0, 1), (46, .getfield 15, 3), (49, .iload_n 1, 1), (50, .iaload, 1), (51, .iload 6, 2), (53, .iand, 1), (54, .ifCond .eq 4, 3), (57, .return_, 1), (58, .aload_n 0, 1), (59, .getfield 15, 3), (62, .iload_n 1, 1), (63, .dup2, 1), (64, .iaload, 1), (65, .iload 6, 2), (67, .ior, 1), (68, .iastore, 1), (69, .aload_n 0, 1), (70, .getfield 22, 3), (73, .aload_n 0, 1), (74, .getfield 25, 3), (77, .iload_n 1, 1), (78, .bipush 12, 2), (80, .imul, 1), (81, .iload 5, 2), (83, .iadd, 1), (84, .iastore, 1), (85, .aload_n 0, 1), (86, .dup, 1), (87, .getfield 25, 3), (90, .iconst 1, 1), (91, .iadd, 1), (92, .putfield 25, 3), (95, .aload_n 0, 1), (96, .getfield 19, 3), (99, .iload_n 1, 1), (100, .iaload, 1), (101, .iconst (-1), 1), (102, .if_icmp .ne 21, 3), (105, .aload_n 0, 1), (106, .getfield 19, 3), (109, .iload_n 1, 1), (110, .iload 4, 2), (112, .iastore, 1), (113, .aload_n 0, 1), (114, .dup, 1), (115, .getfield 29, 3), (118, .iconst 1, 1), (119, .iadd, 1), (120, .putfield 29, 3), (123, .return_, 1)]
def cd_6 : List (Nat × Instr × Nat) := [(0, .aload_n 0, 1), (1, .invokespecial 1, 3), (4, .aload_n 0, 1), (5, .aload_n 1, 1), (6, .putfield 7, 3), (9, .return_, 1)]
def cd_7 : List (Nat × Instr × Nat) := [(0, .aload_n 1, 1), (1, .invokevirtual 13, 3), (4, .ifCond .eq 58, 3), (7, .aload_n 2, 1), (8, .invokevirtual 13, 3), (11, .ifCond .eq 51, 3), (14, .aload_n 1, 1), (15, .getfield 19, 3), (18, .aload_n 2, 1), (19, .getfield 19, 3), (22, .if_icmp .eq 40, 3), (25, .aload_n 1, 1), (26, .invokevirtual 23, 3), (29, .ifCond .ne 33, 3), (32, .aload_n 2, 1), (33, .invokevirtual 23, 3), (36, .ifCond .ne 26, 3), (39, .aload_n 0, 1), (40, .getfield 7, 3), (43, .aload_n 1, 1), (44, .getfield 26, 3), (47, .aload_n 2, 1), (48, .getfield 26, 3), (51, .invokevirtual 29, 3), (54, .iconst 1, 1), (55, .if_icmp .ne 7, 3), (58, .iconst 1, 1), (59, .goto 4, 3), (62, .iconst 0, 1), (63, .ireturn, 1)]
def cd_8 : List (Nat × Instr × Nat) := [(0, .aload_n 1, 1), (1, .getfield 35, 3), (4, .istore_n 3, 1), (5, .aload_n 2, 1), (6, .getfield 35, 3), (9, .istore 4, 2), (11, .aload_n 2, 1), (12, .iload 4, 2), (14, .iload_n 3, 1), (15, .iconst 2, 1), (16, .iadd, 1), (17, .iconst 3, 1), (18, .idiv, 1), (19, .isub, 1), (20, .putfield 35, 3), (23, .aload_n 1, 1), (24, .iconst 1, 1), (25, .iload_n 3, 1), (26, .iload 4, 2), (28, .iconst 3, 1), (29, .iadd, 1), (30, .iconst 4, 1), (31, .idiv, 1), (32, .isub, 1), (33, .invokestatic 38, 3), (36, .putfield 35, 3), (39, .aload_n 1, 1), (40, .iconst 1, 1), (41, .putfield 43, 3), (44, .aload_n 2, 1), (45, .getfield 35, 3), (48, .ifCond .le 5, 3), (51, .iconst 0, 1), (52, .ireturn, 1), (53, .aload_n 0, 1), (54, .aload_n 1, 1), (55, .aload_n 2, 1), (56, .invokevirtual 47, 3), (59, .iconst 1, 1), (60, .ireturn, 1)]
def cd_9 : List (Nat × Instr × Nat) := [(0, .aload_n 1, 1), (1, .getfield 35, 3), (4, .istore_n 3, 1), (5, .iload_n 3, 1), (6, .iconst 3, 1), (7, .iadd, 1), (8, .iconst 4, 1), (9, .idiv, 1), (10, .iload_n 3, 1), (11, .iconst 1, 1), (12, .isub, 1), (13, .invokestatic 51, 3), (16, .istore 4, 2), (18, .aload_n 1, 1), (19, .iload_n 3, 1), (20, .iload 4, 2), (22, .isub, 1), (23, .putfield 35, 3), (26, .aload_n 2, 1), (27, .iconst 1, 1), (28, .iload 4, 2), (30, .invokestatic 38, 3), (33, .putfield 35, 3), (36, .aload_n 2, 1), (37, .aload_n 1, 1), (38, .getfield 19, 3), (41, .putfield 19, 3), (44, .aload_n 0, 1), (45, .getfield 7, 3), (48, .aload_n 1, 1), (49, .invokevirtual 54, 3), (52, .return_, 1)]
def cd_10 : List (Nat × Instr × Nat) := [(0, .aload_n 0, 1), (1, .invokespecial 3, 3), (4, .aload_n 0, 1), (5, .aload_n 1, 1), (6, .putfield 9, 3), (9, .return_, 1)]
def cd_11 : List (Nat × Instr × Nat) := [(0, .iload_n 1, 1), (1, .iconst (-1), 1), (2, .if_icmp .ne 5, 3), (5, .iconst (-1), 1), (6, .ireturn, 1), (7, .iload_n 1, 1), (8, .bipush 10, 2), (10, .if_icmp .lt 7, 3), (13, .iconst 1, 1), (14, .goto 4, 3), (17, .iconst 0, 1), (18, .istore_n 2, 1), (19, .iload_n 1, 1), (20, .bipush 10, 2), (22, .irem, 1), (23, .iload_n 0, 1), (24, .isub, 1), (25, .bipush 6, 2), (27, .invokestatic 15, 3), (30, .istore_n 3, 1), (31, .iload_n 3, 1), (32, .iconst 1, 1), (33, .if_icmp .eq 12, 3), (36, .iload_n 3, 1), (37, .iconst 2, 1), (38, .if_icmp .ne 9, 3), (41, .iload_n 2, 1), (42, .ifCond .eq 5, 3), (45, .iconst 1, 1), (46, .ireturn, 1), (47, .iload_n 3, 1), (48, .iconst 4, 1), (49, .if_icmp .eq 12, 3), (52, .iload_n 3, 1), (53, .iconst 5, 1), (54, .if_icmp .ne 9, 3), (57, .iload_n 2, 1), (58, .ifCond .eq 5, 3), (61, .iconst 0, 1), (62, .ireturn, 1), (63, .iconst (-1), 1), (64, .ireturn, 1)]
def cd_12 : List (Nat × Instr × Nat) := [(0, .aload_n 0, 1), (1, .getfield 9, 3), (4, .iload_n 1, 1), (5, .iload_n 2, 1), (6, .invokevirtual 21, 3), (9, .istore_n 3, 1), (10, .iload_n 3, 1), (11, .bipush 10, 2), (13, .if_icmp .ge 5, 3), (16, .iconst 0, 1), (17, .ireturn, 1), (18, .aload_n 0, 1), (19, .getfield 9, 3), (22, .iload_n 1, 1), (23, .iload_n 2, 1), (24, .invokevirtual 26, 3), (27, .istore 4, 2), (29, .iload_n 1, 1), (30, .istore 5, 2), (32, .iconst 1, 1), (33, .istore 6, 2), (35, .iload 6, 2), (37, .iload 4, 2), (39, .if_icmp .ge 38, 3), (42, .aload_n 0, 1), (43, .getfield 9, 3), (46, .iload 5, 2), (48, .iload_n 3, 1), (49, .bipush 10, 2), (51, .isub, 1), (52, .invokevirtual 29, 3), (55, .istore 5, 2), (57, .aload_n 0, 1), (58, .getfield 9, 3), (61, .iload 5, 2), (63, .invokevirtual 32, 3), (66, .ifCond .ne 5, 3), (69, .iconst 1, 1), (70, .ireturn, 1), (71, .iinc 6 1, 3), (74, .goto (-39), 3), (77, .iconst 0, 1), (78, .ireturn, 1)]
def cd_13 : List (Nat × Instr × Nat) := [(0, .aload_n 0, 1), (1, .getfield 9, 3), (4, .aload_n 2, 1), (5, .getfield 36, 3), (8, .aload_n 1, 1), (9, .getfield 36, 3), (12, .invokevirtual 21, 3), (15, .istore_n 3, 1), (16, .iload_n 3, 1), (17, .bipush 10, 2), (19, .if_icmp .ge 5, 3), (22, .iconst 0, 1), (23, .ireturn, 1), (24, .iload_n 3, 1), (25, .bipush 10, 2), (27, .isub, 1), (28, .aload_n 2, 1), (29, .getfield 42, 3), (32, .isub, 1), (33, .bipush 6, 2), (35, .invokestatic 15, 3), (38, .istore 4, 2), (40, .iload 4, 2), (42, .ifCond .eq 9, 3), (45, .iload 4, 2), (47, .iconst 3, 1), (48, .if_icmp .ne 7, 3), (51, .iconst 1, 1), (52, .goto 4, 3), (55, .iconst 0, 1), (56, .ireturn, 1)]
def cd_14 : List (Nat × Instr × Nat) := [(0, .aload_n 1, 1), (1, .invokevirtual 45, 3), (4, .ifCond .eq 21, 3), (7, .aload_n 3, 1), (8, .invokevirtual 45, 3), (11, .ifCond .eq 14, 3), (14, .aload_n 1, 1), (15, .getfield 49, 3), (18, .aload_n 3, 1), (19, .getfield 49, 3), (22, .if_icmp .ne 5, 3), (25, .iconst 0, 1), (26, .ireturn, 1), (27, .aload_n 0, 1), (28, .getfield 9, 3), (31, .aload_n 1, 1), (32, .getfield 36, 3), (35, .aload_n 3, 1), (36, .getfield 36, 3), (39, .invokevirtual 26, 3), (42, .istore 4, 2), (44, .aload_n 1, 1), (45, .getfield 42, 3), (48, .aload_n 0, 1), (49, .getfield 9, 3), (52, .aload_n 1, 1), (53, .getfield 36, 3), (56, .aload_n 3, 1), (57, .getfield 36, 3), (60, .invokevirtual 21, 3), (63, .invokestatic 52, 3), (66, .istore 5, 2), (68, .iload 4, 2), (70, .bipush 6, 2), (72, .if_icmp .gt 32, 3), (75, .iload 5, 2), (77, .iload_n 2, 1), (78, .ifCond .eq 7, 3), (81, .iconst 1, 1), (82, .goto 4, 3), (85, .iconst 0, 1), (86, .if_icmp .ne 18, 3), (89, .aload_n 0, 1), (90, .aload_n 1, 1), (91, .getfield 36, 3), (94, .aload_n 3, 1), (95, .getfield 36, 3), (98, .invokevirtual 55, 3), (101, .ifCond .eq 5, 3), (104, .iconst 0, 1), (105, .ireturn, 1), (106, .aload_n 1, 1), (107, .iload_n 2, 1), (108, .invokevirtual 59, 3), (111, .bipush 7, 2), (113, .iload 4, 2), (115, .isub, 1), (116, .imul, 1), (117, .istore 6, 2), (119, .aload_n 0, 1), (120, .aload_n 1, 1), (121, .aload_n 3, 1), (122, .invokevirtual 63, 3), (125, .ifCond .eq 10, 3), (128, .iconst 2, 1), (129, .iload 6, 2), (131, .imul, 1), (132, .goto 5, 3), (135, .iload 6, 2), (137, .ireturn, 1)]
def cd_15 : List (Nat × Instr × Nat) := [(0, .aload_n 1, 1), (1, .iload_n 2, 1), (2, .invokevirtual 67, 3), (5, .ifCond .gt 13, 3), (8, .aload_n 0, 1), (9, .aload_n 1, 1), (10, .iload_n 2, 1), (11, .aload_n 3, 1), (12, .invokevirtual 70, 3), (15, .ifCond .gt 5, 3), (18, .iconst 0, 1), (19, .ireturn, 1), (20, .iload 4, 2), (22, .iconst 2, 1), (23, .if_icmp .ne 22, 3), (26, .aload_n 0, 1), (27, .getfield 9, 3), (30, .aload_n 1, 1), (31, .getfield 36, 3), (34, .aload_n 3, 1), (35, .getfield 36, 3), (38, .invokevirtual 26, 3), (41, .iconst 2, 1), (42, .if_icmp .gt 7, 3), (45, .iconst 1, 1), (46, .goto 4, 3), (49, .iconst 0, 1), (50, .ireturn, 1)]
def cd_16 : List (Nat × Instr × Nat) := [(0, .aload_n 0, 1), (1, .aload_n 1, 1), (2, .iload_n 2, 1), (3, .aload_n 3, 1), (4, .invokevirtual 70, 3), (7, .istore 5, 2), (9, .aload_n 1, 1), (10, .iload_n 2, 1), (11, .invokevirtual 74, 3), (14, .iload 4, 2), (16, .ifCond .ne 12, 3), (19, .aload_n 0, 1), (20, .aload_n 1, 1), (21, .aload_n 3, 1), (22, .iload 5, 2), (24, .invokevirtual 78, 3), (27, .ireturn, 1), (28, .iload 4, 2), (30, .iconst 1, 1), (31, .if_icmp .ne 31, 3), (34, .aload_n 3, 1), (35, .getfield 82, 3), (38, .iload 5, 2), (40, .bipush 6, 2), (42, .idiv, 1), (43, .invokestatic 85, 3), (46, .istore 6, 2), (48, .aload_n 3, 1), (49, .dup, 1), (50, .getfield 82, 3), (53, .iload 6, 2), (55, .isub, 1), (56, .putfield 82, 3), (59, .iload 6, 2), (61, .ireturn, 1), (62, .iconst 0, 1), (63, .aload_n 3, 1), (64, .getfield 88, 3), (67, .iconst 1, 1), (68, .isub, 1), (69, .iload 5, 2), (71, .iconst 5, 1), (72, .idiv, 1), (73, .invokestatic 85, 3), (76, .invokestatic 91, 3), (79, .istore 6, 2), (81, .aload_n 3, 1), (82, .dup, 1), (83, .getfield 88, 3), (86, .iload 6, 2), (88, .isub, 1), (89, .putfield 88, 3), (92, .iload 6, 2), (94, .ireturn, 1)]
def cd_17 : List (Nat × Instr × Nat) := [(0, .aload_n 2, 1), (1, .getfield 94, 3), (4, .iload_n 3, 1), (5, .iconst 4, 1), (6, .idiv, 1), (7, .invokestatic 85, 3), (10, .istore 4, 2), (12, .aload_n 2, 1), (13, .getfield 42, 3), (16, .aload_n 0, 1), (17, .getfield 9, 3), (20, .aload_n 2, 1), (21, .getfield 36, 3), (24, .aload_n 1, 1), (25, .getfield 36, 3), (28, .invokevirtual 21, 3), (31, .invokestatic 52, 3), (34, .istore 5, 2), (36, .iload 5, 2), (38, .ifCond .ne 23, 3), (41, .aload_n 2, 1), (42, .iconst 0, 1), (43, .aload_n 2, 1), (44, .getfield 97, 3), (47, .iload_n 3, 1), (48, .bipush 12, 2), (50, .idiv, 1), (51, .isub, 1), (52, .invokestatic 91, 3), (55, .putfield 97, 3), (58, .goto 26, 3), (61, .iload 5, 2), (63, .iconst 1, 1), (64, .if_icmp .ne 20, 3), (67, .aload_n 2, 1), (68, .iconst 0, 1), (69, .aload_n 2, 1), (70, .getfield 100, 3), (73, .iload_n 3, 1), (74, .bipush 12, 2), (76, .idiv, 1), (77, .isub, 1), (78, .invokestatic 91, 3), (81, .putfield 100, 3), (84, .aload_n 2, 1), (85, .dup, 1), (86, .getfield 94, 3), (89, .iload 4, 2), (91, .isub, 1), (92, .putfield 94, 3), (95, .aload_n 2, 1), (96, .invokevirtual 45, 3), (99, .ifCond .ne 11, 3), (102, .aload_n 0, 1), (103, .getfield 9, 3), (106, .aload_n 2, 1), (107, .invokevirtual 103, 3), (110, .iload 4, 2), (112, .ireturn, 1)]
def cd_18 : List (Nat × Instr × Nat) := [(0, .iconst (-1), 1), (1, .istore_n 2, 1), (2, .iconst 0, 1), (3, .istore_n 3, 1), (4, .iconst 0, 1), (5, .istore 4, 2), (7, .iload 4, 2), (9, .aload_n 0, 1), (10, .getfield 9, 3), (13, .getfield 107, 3), (16, .if_icmp .ge 76, 3), (19, .iload 4, 2), (21, .bipush 8, 2), (23, .if_icmp .ge 69, 3), (26, .iconst 0, 1), (27, .istore 5, 2), (29, .iload 5, 2), (31, .iconst 1, 1), (32, .if_icmp .gt 54, 3), (35, .aload_n 0, 1), (36, .aload_n 1, 1), (37, .iload 5, 2), (39, .iconst 1, 1), (40, .if_icmp .ne 7, 3), (43, .iconst 1, 1), (44, .goto 4, 3), (47, .iconst 0, 1), (48, .aload_n 0, 1), (49, .getfield 9, 3), (52, .getfield 110, 3), (55, .iload 4, 2), (57, .aaload, 1), (58, .invokevirtual 70, 3), (61, .istore 6, 2), (63, .iload 6, 2), (65, .iload_n 3, 1), (66, .if_icmp .le 14, 3), (69, .iload 6, 2), (71, .istore_n 3, 1), (72, .iconst 2, 1), (73, .iload 4, 2), (75, .imul, 1), (76, .iload 5, 2), (78, .iadd, 1), (79, .istore_n 2, 1), (80, .iinc 5 1, 3), (83, .goto (-54), 3), (86, .iinc 4 1, 3), (89, .goto (-82), 3), (92, .iload_n 2, 1), (93, .ireturn, 1)]
def cd_19 : List (Nat × Instr × Nat) := [(0, .aload_n 0, 1), (1, .invokespecial 3, 3), (4, .aload_n 0, 1), (5, .aload_n 1, 1), (6, .putfield 9, 3), (9, .return_, 1)]
def cd_20 : List (Nat × Instr × Nat) := [(0, .aload_n 1, 1), (1, .invokevirtual 15, 3), (4, .ifCond .eq 47, 3), (7, .aload_n 0, 1), (8, .getfield 9, 3), (11, .aload_n 1, 1), (12, .getfield 21, 3), (15, .invokevirtual 25, 3), (18, .iconst 3, 1), (19, .if_icmp .eq 32, 3), (22, .aload_n 0, 1), (23, .getfield 9, 3), (26, .aload_n 0, 1), (27, .getfield 9, 3), (30, .aload_n 1, 1), (31, .getfield 31, 3), (34, .aload_n 1, 1), (35, .getfield 21, 3), (38, .invokevirtual 34, 3), (41, .invokevirtual 38, 3), (44, .ifCond .eq 7, 3), (47, .iconst 1, 1), (48, .goto 4, 3), (51, .iconst 0, 1), (52, .ireturn, 1)]
def cd_21 : List (Nat × Instr × Nat) := [(0, .aload_n 1, 1), (1, .aload_n 0, 1), (2, .getfield 9, 3), (5, .aload_n 1, 1), (6, .getfield 31, 3), (9, .aload_n 1, 1), (10, .getfield 21, 3), (13, .invokevirtual 34, 3), (16, .putfield 31, 3), (19, .aload_n 1, 1), (20, .dup, 1), (21, .getfield 42, 3), (24, .iconst 1, 1), (25, .isub, 1), (26, .putfield 42, 3), (29, .aload_n 1, 1), (30, .iconst 1, 1), (31, .putfield 45, 3), (34, .return_, 1)]
def cd_22 : List (Nat × Instr × Nat) := [(0, .aload_n 1, 1), (1, .invokevirtual 15, 3), (4, .ifCond .eq 30, 3), (7, .aload_n 1, 1), (8, .getfield 45, 3), (11, .ifCond .ne 19, 3), (14, .aload_n 0, 1), (15, .getfield 9, 3), (18, .aload_n 1, 1), (19, .iload_n 2, 1), (20, .invokevirtual 49, 3), (23, .invokevirtual 25, 3), (26, .iconst 3, 1), (27, .if_icmp .eq 7, 3), (30, .iconst 1, 1), (31, .goto 4, 3), (34, .iconst 0, 1), (35, .ireturn, 1)]
def cd_23 : List (Nat × Instr × Nat) := [(0, .aload_n 1, 1), (1, .getfield 53, 3), (4, .ifCond .le 7, 3), (7, .iconst 1, 1), (8, .goto 4, 3), (11, .iconst 0, 1), (12, .istore_n 2, 1), (13, .aload_n 1, 1), (14, .iload_n 2, 1), (15, .aload_n 0, 1), (16, .getfield 9, 3), (19, .aload_n 1, 1), (20, .aload_n 0, 1), (21, .getfield 9, 3), (24, .getfield 56, 3), (27, .invokevirtual 59, 3), (30, .invokestatic 63, 3), (33, .putfield 42, 3), (36, .aload_n 1, 1), (37, .iconst 0, 1), (38, .putfield 45, 3), (41, .aload_n 1, 1), (42, .iconst 0, 1), (43, .putfield 68, 3), (46, .return_, 1)]
def cd_24 : List (Nat × Instr × Nat) := [(0, .iconst 0, 1), (1, .istore_n 1, 1), (2, .iconst 0, 1), (3, .istore_n 2, 1), (4, .iload_n 2, 1), (5, .aload_n 0, 1), (6, .getfield 9, 3), (9, .getfield 71, 3), (12, .if_icmp .ge 34, 3), (15, .iload_n 2, 1), (16, .bipush 8, 2), (18, .if_icmp .ge 28, 3), (21, .aload_n 0, 1), (22, .aload_n 0, 1), (23, .getfield 9, 3), (26, .getfield 74, 3), (29, .iload_n 2, 1), (30, .aaload, 1), (31, .invokevirtual 78, 3), (34, .ifCond .eq 6, 3), (37, .iinc 1 1, 3), (40, .iinc 2 1, 3), (43, .goto (-39), 3), (46, .aload_n 0, 1), (47, .getfield 9, 3), (50, .dup, 1), (51, .getfield 82, 3), (54, .iconst 1, 1), (55, .iadd, 1), (56, .putfield 82, 3), (59, .iconst 0, 1), (60, .istore_n 2, 1), (61, .iload_n 2, 1), (62, .aload_n 0, 1), (63, .getfield 9, 3), (66, .getfield 71, 3), (69, .if_icmp .ge 40, 3), (72, .iload_n 2, 1), (73, .bipush 8, 2), (75, .if_icmp .ge 34, 3), (78, .aload_n 0, 1), (79, .getfield 9, 3), (82, .getfield 74, 3), (85, .iload_n 2, 1), (86, .aaload, 1), (87, .invokevirtual 85, 3), (90, .aload_n 0, 1), (91, .aload_n 0, 1), (92, .getfield 9, 3), (95, .getfield 74, 3), (98, .iload_n 2, 1), (99, .aaload, 1), (100, .invokevirtual 88, 3), (103, .iinc 2 1, 3), (106, .goto (-45), 3), (109, .iload_n 1, 1), (110, .ireturn, 1)]
def cd_25 : List (Nat × Instr × Nat) := [(0, .aload_n 1, 1), (1, .invokevirtual 92, 3), (4, .ifCond .eq 17, 3), (7, .aload_n 1, 1), (8, .getfield 53, 3), (11, .ifCond .gt 10, 3), (14, .aload_n 1, 1), (15, .invokevirtual 95, 3), (18, .ifCond .eq 5, 3), (21, .iconst 0, 1), (22, .ireturn, 1), (23, .aload_n 0, 1), (24, .getfield 9, 3), (27, .aload_n 1, 1), (28, .getfield 31, 3), (31, .aload_n 0, 1), (32, .getfield 9, 3), (35, .getfield 56, 3), (38, .invokevirtual 34, 3), (41, .istore_n 2, 1), (42, .aload_n 0, 1), (43, .getfield 9, 3), (46, .getfield 98, 3), (49, .ifCond .le 14, 3), (52, .aload_n 0, 1), (53, .getfield 9, 3), (56, .iload_n 2, 1), (57, .invokevirtual 38, 3), (60, .ifCond .ne 5, 3), (63, .iconst 0, 1), (64, .ireturn, 1), (65, .aload_n 1, 1), (66, .iload_n 2, 1), (67, .putfield 31, 3), (70, .iconst 1, 1), (71, .ireturn, 1)]
def cd_26 : List (Nat × Instr × Nat) := [(0, .iload_n 1, 1), (1, .bipush 101, 2), (3, .if_icmp .ne 10, 3), (6, .aload_n 0, 1), (7, .invokevirtual 101, 3), (10, .pop, 1), (11, .iconst 1, 1), (12, .ireturn, 1), (13, .iload_n 1, 1), (14, .bipush 119, 2), (16, .if_icmp .ne 16, 3), (19, .aload_n 0, 1), (20, .getfield 9, 3), (23, .iload_n 2, 1), (24, .bipush 48, 2), (26, .isub, 1), (27, .putfield 56, 3), (30, .iconst 1, 1), (31, .ireturn, 1), (32, .iload_n 1, 1), (33, .bipush 48, 2), (35, .isub, 1), (36, .istore_n 3, 1), (37, .aload_n 0, 1), (38, .getfield 9, 3), (41, .iload_n 3, 1), (42, .invokevirtual 105, 3), (45, .ifCond .ne 5, 3), (48, .iconst 0, 1), (49, .ireturn, 1), (50, .aload_n 0, 1), (51, .getfield 9, 3), (54, .getfield 74, 3), (57, .iload_n 3, 1), (58, .aaload, 1), (59, .astore 4, 2), (61, .iload_n 2, 1), (62, .bipush 97, 2), (64, .if_icmp .ne 12, 3), (67, .aload_n 0, 1), (68, .aload 4, 2), (70, .invokevirtual 108, 3), (73, .goto 20, 3), (76, .aload_n 0, 1), (77, .aload 4, 2), (79, .iload_n 2, 1), (80, .bipush 114, 2), (82, .if_icmp .ne 7, 3), (85, .iconst 1, 1), (86, .goto 4, 3), (89, .iconst 0, 1), (90, .invokevirtual 111, 3), (93, .ireturn, 1)]
def cd_27 : List (Nat × Instr × Nat) := [(0, .aload_n 0, 1), (1, .aload_n 1, 1), (2, .invokevirtual 115, 3), (5, .ifCond .ne 5, 3), (8, .iconst 0, 1), (9, .ireturn, 1), (10, .aload_n 0, 1), (11, .aload_n 1, 1), (12, .invokevirtual 118, 3), (15, .iconst 1, 1), (16, .ireturn, 1)]
def cd_28 : List (Nat × Instr × Nat) := [(0, .aload_n 0, 1), (1, .aload_n 1, 1), (2, .iload_n 2, 1), (3, .invokevirtual 121, 3), (6, .ifCond .ne 5, 3), (9, .iconst 0, 1), (10, .ireturn, 1), (11, .aload_n 1, 1), (12, .iload_n 2, 1), (13, .invokevirtual 124, 3), (16, .iconst 1, 1), (17, .ireturn, 1)]
def cd_29 : List (Nat × Instr × Nat) := [(0, .aload_n 0, 1), (1, .invokespecial 1, 3), (4, .aload_n 0, 1), (5, .iconst 4, 1), (6, .anewarray 9, 3), (9, .putfield 11, 3), (12, .iconst 0, 1), (13, .istore_n 1, 1), (14, .iload_n 1, 1), (15, .iconst 4, 1), (16, .if_icmp .ge 22, 3), (19, .aload_n 0, 1), (20, .getfield 11, 3), (23, .iload_n 1, 1), (24, .new 9, 3), (27, .dup, 1), (28, .invokespecial 15, 3), (31, .aastore, 1), (32, .iinc 1 1, 3), (35, .goto (-21), 3), (38, .aload_n 0, 1), (39, .iconst 0, 1), (40, .putfield 16, 3), (43, .return_, 1)]
def cd_30 : List (Nat × Instr × Nat) := [(0, .aload_n 0, 1), (1, .getfield 16, 3), (4, .iconst 4, 1), (5, .if_icmp .lt 7, 3), (8, .aload_n 0, 1), (9, .invokevirtual 20, 3), (12, .aload_n 0, 1), (13, .getfield 11, 3), (16, .aload_n 0, 1), (17, .getfield 16, 3), (20, .aaload, 1), (21, .aload_n 1, 1), (22, .invokevirtual 23, 3), (25, .aload_n 0, 1), (26, .dup, 1), (27, .getfield 16, 3), (30, .iconst 1, 1), (31, .iadd, 1), (32, .putfield 16, 3), (35, .return_, 1)]
def cd_31 : List (Nat × Instr × Nat) := [(0, .aload_n 0, 1), (1, .getfield 11, 3), (4, .iconst 0, 1), (5, .aaload, 1), (6, .astore_n 1, 1), (7, .iconst 1, 1), (8, .istore_n 2, 1), (9, .iload_n 2, 1), (10, .iconst 4, 1), (11, .if_icmp .ge 23, 3), (14, .aload_n 0, 1), (15, .getfield 11, 3), (18, .iload_n 2, 1), (19, .iconst 1, 1), (20, .isub, 1), (21, .aload_n 0, 1), (22, .getfield 11, 3), (25, .iload_n 2, 1), (26, .aaload, 1), (27, .aastore, 1), (28, .iinc 2 1, 3), (31, .goto (-22), 3), (34, .aload_n 0, 1), (35, .getfield 11, 3), (38, .iconst 3, 1), (39, .aload_n 1, 1), (40, .aastore, 1), (41, .aload_n 0, 1), (42, .iconst 3, 1), (43, .putfield 16, 3), (46, .return_, 1)]
def cd_32 : List (Nat × Instr × Nat) := [(0, .aload_n 0, 1), (1, .getfield 16, 3), (4, .ifCond .le 34, 3), (7, .aload_n 0, 1), (8, .getfield 16, 3), (11, .iconst 4, 1), (12, .if_icmp .gt 26, 3), (15, .aload_n 0, 1), (16, .dup, 1), (17, .getfield 16, 3), (20, .iconst 1, 1), (21, .isub, 1), (22, .putfield 16, 3), (25, .aload_n 1, 1), (26, .aload_n 0, 1), (27, .getfield 11, 3), (30, .aload_n 0, 1), (31, .getfield 16, 3), (34, .aaload, 1), (35, .invokevirtual 23, 3), (38, .return_, 1)]
def cd_33 : List (Nat × Instr × Nat) := [(0, .aload_n 0, 1), (1, .invokespecial 3, 3), (4, .aload_n 0, 1), (5, .sipush 150, 3), (8, .newarray .int, 2), (10, .putfield 11, 3), (13, .aload_n 0, 1), (14, .iconst 0, 1), (15, .putfield 15, 3), (18, .return_, 1)]
def cd_34 : List (Nat × Instr × Nat) := [(0, .aload_n 0, 1), (1, .getfield 15, 3), (4, .sipush 150, 3), (7, .if_icmp .lt 7, 3), (10, .iconst 1, 1), (11, .goto 4, 3), (14, .iconst 0, 1), (15, .ireturn, 1)]
def cd_35 : List (Nat × Instr × Nat) := [(0, .aload_n 0, 1), (1, .getfield 15, 3), (4, .ifCond .lt 33, 3), (7, .aload_n 0, 1), (8, .getfield 15, 3), (11, .sipush 150, 3), (14, .if_icmp .ge 23, 3), (17, .aload_n 0, 1), (18, .getfield 11, 3), (21, .aload_n 0, 1), (22, .getfield 15, 3), (25, .iload_n 1, 1), (26, .iastore, 1), (27, .aload_n 0, 1), (28, .dup, 1), (29, .getfield 15, 3), (32, .iconst 1, 1), (33, .iadd, 1), (34, .putfield 15, 3), (37, .return_, 1)]
def cd_36 : List (Nat × Instr × Nat) := [(0, .iload_n 1, 1), (1, .ifCond .lt 27, 3), (4, .iload_n 1, 1), (5, .aload_n 0, 1), (6, .getfield 15, 3), (9, .if_icmp .ge 19, 3), (12, .iload_n 1, 1), (13, .sipush 150, 3), (16, .if_icmp .ge 12, 3), (19, .aload_n 0, 1), (20, .getfield 11, 3), (23, .iload_n 1, 1), (24, .iaload, 1), (25, .goto 4, 3), (28, .iconst (-1), 1), (29, .ireturn, 1)]
def cd_37 : List (Nat × Instr × Nat) := [(0, .iconst 0, 1), (1, .istore_n 1, 1), (2, .iconst 0, 1), (3, .istore_n 2, 1), (4, .iload_n 2, 1), (5, .aload_n 0, 1), (6, .getfield 15, 3), (9, .if_icmp .ge 26, 3), (12, .iload_n 1, 1), (13, .aload_n 0, 1), (14, .iload_n 2, 1), (15, .invokevirtual 19, 3), (18, .invokestatic 23, 3), (21, .istore_n 1, 1), (22, .iload_n 1, 1), (23, .iconst (-1), 1), (24, .if_icmp .ne 5, 3), (27, .iload_n 2, 1), (28, .ireturn, 1), (29, .iinc 2 1, 3), (32, .goto (-28), 3), (35, .iload_n 1, 1), (36, .ifCond .ne 7, 3), (39, .iconst (-1), 1), (40, .goto 7, 3), (43, .aload_n 0, 1), (44, .getfield 15, 3), (47, .ireturn, 1)]
def cd_38 : List (Nat × Instr × Nat) := [(0, .iload_n 0, 1), (1, .tableswitch 74 0 2 #[27, 32, 56], 27), (28, .iload_n 1, 1), (29, .invokestatic 27, 3), (32, .ireturn, 1), (33, .iload_n 1, 1), (34, .bipush 97, 2), (36, .if_icmp .eq 15, 3), (39, .iload_n 1, 1), (40, .bipush 108, 2), (42, .if_icmp .eq 9, 3), (45, .iload_n 1, 1), (46, .bipush 114, 2), (48, .if_icmp .ne 7, 3), (51, .iconst 3, 1), (52, .goto 4, 3), (55, .iconst (-1), 1), (56, .ireturn, 1), (57, .iload_n 1, 1), (58, .bipush 48, 2), (60, .if_icmp .lt 13, 3), (63, .iload_n 1, 1), (64, .bipush 53, 2), (66, .if_icmp .gt 7, 3), (69, .iconst 3, 1), (70, .goto 4, 3), (73, .iconst (-1), 1), (74, .ireturn, 1), (75, .iload_n 1, 1), (76, .bipush 59, 2), (78, .if_icmp .ne 7, 3), (81, .iconst 0, 1), (82, .goto 4, 3), (85, .iconst (-1), 1), (86, .ireturn, 1)]
def cd_39 : List (Nat × Instr × Nat) := [(0, .iload_n 0, 1), (1, .bipush 48, 2), (3, .if_icmp .lt 11, 3), (6, .iload_n 0, 1), (7, .bipush 57, 2), (9, .if_icmp .gt 5, 3), (12, .iconst 1, 1), (13, .ireturn, 1), (14, .iload_n 0, 1), (15, .bipush 119, 2), (17, .if_icmp .ne 5, 3), (20, .iconst 2, 1), (21, .ireturn, 1), (22, .iload_n 0, 1), (23, .bipush 101, 2), (25, .if_icmp .ne 7, 3), (28, .iconst 3, 1), (29, .goto 4, 3), (32, .iconst (-1), 1), (33, .ireturn, 1)]
def cd_40 : List (Nat × Instr × Nat) := [(0, .aload_n 0, 1), (1, .invokespecial 3, 3), (4, .aload_n 0, 1), (5, .sipush 144, 3), (8, .newarray .int, 2), (10, .putfield 9, 3), (13, .aload_n 0, 1), (14, .bipush 8, 2), (16, .anewarray 15, 3), (19, .putfield 17, 3), (22, .iconst 0, 1), (23, .istore_n 1, 1), (24, .iload_n 1, 1), (25, .bipush 8, 2), (27, .if_icmp .ge 22, 3), (30, .aload_n 0, 1), (31, .getfield 17, 3), (34, .iload_n 1, 1), (35, .new 15, 3), (38, .dup, 1), (39, .invokespecial 21, 3), (42, .aastore, 1), (43, .iinc 1 1, 3), (46, .goto (-22), 3), (49, .aload_n 0, 1), (50, .bipush 10, 2), (52, .bipush 8, 2), (54, .invokevirtual 22, 3), (57, .return_, 1)]
def cd_41 : List (Nat × Instr × Nat) := [(0, .aload_n 0, 1), (1, .iload_n 1, 1), (2, .putfield 26, 3), (5, .aload_n 0, 1), (6, .iload_n 2, 1), (7, .putfield 30, 3), (10, .aload_n 0, 1), (11, .iconst 0, 1), (12, .putfield 33, 3), (15, .aload_n 0, 1), (16, .iconst 2, 1), (17, .putfield 36, 3), (20, .aload_n 0, 1), (21, .iconst 1, 1), (22, .putfield 39, 3), (25, .aload_n 0, 1), (26, .iconst 0, 1), (27, .putfield 42, 3), (30, .aload_n 0, 1), (31, .getfield 9, 3), (34, .iconst 0, 1), (35, .invokestatic 45, 3), (38, .return_, 1)]
def cd_42 : List (Nat × Instr × Nat) := [(0, .aload_n 0, 1), (1, .aload_n 1, 1), (2, .getfield 26, 3), (5, .putfield 26, 3), (8, .aload_n 0, 1), (9, .aload_n 1, 1), (10, .getfield 30, 3), (13, .putfield 30, 3), (16, .aload_n 0, 1), (17, .aload_n 1, 1), (18, .getfield 33, 3), (21, .putfield 33, 3), (24, .aload_n 0, 1), (25, .aload_n 1, 1), (26, .getfield 36, 3), (29, .putfield 36, 3), (32, .aload_n 0, 1), (33, .aload_n 1, 1), (34, .getfield 39, 3), (37, .putfield 39, 3), (40, .aload_n 0, 1), (41, .aload_n 1, 1), (42, .getfield 42, 3), (45, .putfield 42, 3), (48, .aload_n 1, 1), (49, .getfield 9, 3), (52, .iconst 0, 1), (53, .aload_n 0, 1), (54, .getfield 9, 3), (57, .iconst 0, 1), (58, .sipush 144, 3), (61, .invokestatic 51, 3), (64, .iconst 0, 1), (65, .istore_n 2, 1), (66, .iload_n 2, 1), (67, .aload_n 0, 1), (68, .getfield 42, 3), (71, .if_icmp .ge 30, 3), (74, .iload_n 2, 1), (75, .bipush 8, 2), (77, .if_icmp .ge 24, 3), (80, .aload_n 0, 1), (81, .getfield 17, 3), (84, .iload_n 2, 1), (85, .aaload, 1), (86, .aload_n 1, 1), (87, .getfield 17, 3), (90, .iload_n 2, 1), (91, .aaload, 1), (92, .invokevirtual 57, 3), (95, .iinc 2 1, 3), (98, .goto (-32), 3), (101, .return_, 1)]
def cd_43 : List (Nat × Instr × Nat) := [(0, .aload_n 0, 1), (1, .getfield 26, 3), (4, .aload_n 0, 1), (5, .getfield 30, 3), (8, .imul, 1), (9, .sipush 144, 3), (12, .invokestatic 61, 3), (15, .ireturn, 1)]
def cd_44 : List (Nat × Instr × Nat) := [(0, .iload_n 1, 1), (1, .ifCond .lt 27, 3), (4, .iload_n 1, 1), (5, .aload_n 0, 1), (6, .getfield 26, 3), (9, .aload_n 0, 1), (10, .getfield 30, 3), (13, .imul, 1), (14, .if_icmp .ge 14, 3), (17, .iload_n 1, 1), (18, .sipush 144, 3), (21, .if_icmp .ge 7, 3), (24, .iconst 1, 1), (25, .goto 4, 3), (28, .iconst 0, 1), (29, .ireturn, 1)]
def cd_45 : List (Nat × Instr × Nat) := [(0, .iload_n 1, 1), (1, .ifCond .lt 21, 3), (4, .iload_n 1, 1), (5, .aload_n 0, 1), (6, .getfield 42, 3), (9, .if_icmp .ge 13, 3), (12, .iload_n 1, 1), (13, .bipush 8, 2), (15, .if_icmp .ge 7, 3), (18, .iconst 1, 1), (19, .goto 4, 3), (22, .iconst 0, 1), (23, .ireturn, 1)]
def cd_46 : List (Nat × Instr × Nat) := [(0, .aload_n 0, 1), (1, .getfield 26, 3), (4, .ifCond .le 12, 3), (7, .iload_n 1, 1), (8, .aload_n 0, 1), (9, .getfield 26, 3), (12, .idiv, 1), (13, .goto 4, 3), (16, .iconst 0, 1), (17, .ireturn, 1)]
def cd_47 : List (Nat × Instr × Nat) := [(0, .aload_n 0, 1), (1, .getfield 26, 3), (4, .ifCond .le 12, 3), (7, .iload_n 1, 1), (8, .aload_n 0, 1), (9, .getfield 26, 3), (12, .irem, 1), (13, .goto 4, 3), (16, .iconst 0, 1), (17, .ireturn, 1)]
def cd_48 : List (Nat × Instr × Nat) := [(0, .aload_n 0, 1), (1, .iload_n 1, 1), (2, .invokevirtual 67, 3), (5, .ifCond .eq 16, 3), (8, .aload_n 0, 1), (9, .getfield 9, 3), (12, .iload_n 1, 1), (13, .iaload, 1), (14, .ifCond .eq 7, 3), (17, .iconst 1, 1), (18, .goto 4, 3), (21, .iconst 0, 1), (22, .ireturn, 1)]
def cd_49 : List (Nat × Instr × Nat) := [(0, .aload_n 0, 1), (1, .iload_n 1, 1), (2, .invokevirtual 67, 3), (5, .ifCond .eq 18, 3), (8, .aload_n 0, 1), (9, .getfield 9, 3), (12, .iload_n 1, 1), (13, .iload_n 2, 1), (14, .ifCond .eq 7, 3), (17, .iconst 1, 1), (18, .goto 4, 3), (21, .iconst 0, 1), (22, .iastore, 1), (23, .return_, 1)]
def cd_50 : List (Nat × Instr × Nat) := [(0, .iconst 0, 1), (1, .istore_n 2, 1), (2, .iload_n 2, 1), (3, .aload_n 0, 1), (4, .getfield 42, 3), (7, .if_icmp .ge 42, 3), (10, .iload_n 2, 1), (11, .bipush 8, 2), (13, .if_icmp .ge 36, 3), (16, .aload_n 0, 1), (17, .getfield 17, 3), (20, .iload_n 2, 1), (21, .aaload, 1), (22, .invokevirtual 71, 3), (25, .ifCond .eq 18, 3), (28, .aload_n 0, 1), (29, .getfield 17, 3), (32, .iload_n 2, 1), (33, .aaload, 1), (34, .getfield 75, 3), (37, .iload_n 1, 1), (38, .if_icmp .ne 5, 3), (41, .iload_n 2, 1), (42, .ireturn, 1), (43, .iinc 2 1, 3), (46, .goto (-44), 3), (49, .iconst (-1), 1), (50, .ireturn, 1)]
def cd_51 : List (Nat × Instr × Nat) := [(0, .aload_n 0, 1), (1, .iload_n 1, 1), (2, .invokevirtual 67, 3), (5, .ifCond .eq 25, 3), (8, .aload_n 0, 1), (9, .getfield 9, 3), (12, .iload_n 1, 1), (13, .iaload, 1), (14, .ifCond .ne 16, 3), (17, .aload_n 0, 1), (18, .iload_n 1, 1), (19, .invokevirtual 78, 3), (22, .iconst (-1), 1), (23, .if_icmp .ne 7, 3), (26, .iconst 1, 1), (27, .goto 4, 3), (30, .iconst 0, 1), (31, .ireturn, 1)]
def cd_52 : List (Nat × Instr × Nat) := [(0, .aload_n 0, 1), (1, .iload_n 1, 1), (2, .invokevirtual 82, 3), (5, .ifCond .eq 8, 3), (8, .bipush (-2), 2), (10, .goto 8, 3), (13, .aload_n 0, 1), (14, .iload_n 1, 1), (15, .invokevirtual 78, 3), (18, .ireturn, 1)]
def cd_53 : List (Nat × Instr × Nat) := [(0, .aload_n 0, 1), (1, .iload_n 1, 1), (2, .invokevirtual 67, 3), (5, .ifCond .ne 5, 3), (8, .iconst (-1), 1), (9, .ireturn, 1), (10, .iload_n 2, 1), (11, .bipush 6, 2), (13, .invokestatic 85, 3), (16, .istore_n 3, 1), (17, .aload_n 0, 1), (18, .iload_n 1, 1), (19, .invokevirtual 88, 3), (22, .getstatic 91, 3), (25, .iload_n 3, 1), (26, .iaload, 1), (27, .iadd, 1), (28, .istore 4, 2), (30, .aload_n 0, 1), (31, .iload_n 1, 1), (32, .invokevirtual 94, 3), (35, .getstatic 97, 3), (38, .iload_n 3, 1), (39, .iaload, 1), (40, .iadd, 1), (41, .istore 5, 2), (43, .iload 4, 2), (45, .ifCond .lt 26, 3), (48, .iload 4, 2), (50, .aload_n 0, 1), (51, .getfield 30, 3), (54, .if_icmp .ge 17, 3), (57, .iload 5, 2), (59, .ifCond .lt 12, 3), (62, .iload 5, 2), (64, .aload_n 0, 1), (65, .getfield 26, 3), (68, .if_icmp .lt 5, 3), (71, .iconst (-1), 1), (72, .ireturn, 1), (73, .iload 4, 2), (75, .aload_n 0, 1), (76, .getfield 26, 3), (79, .imul, 1), (80, .iload 5, 2), (82, .iadd, 1), (83, .ireturn, 1)]
def cd_54 : List (Nat × Instr × Nat) := [(0, .aload_n 0, 1), (1, .iload_n 2, 1), (2, .invokevirtual 88, 3), (5, .aload_n 0, 1), (6, .iload_n 1, 1), (7, .invokevirtual 88, 3), (10, .isub, 1), (11, .istore_n 3, 1), (12, .aload_n 0, 1), (13, .iload_n 2, 1), (14, .invokevirtual 94, 3), (17, .aload_n 0, 1), (18, .iload_n 1, 1), (19, .invokevirtual 94, 3), (22, .isub, 1), (23, .istore 4, 2), (25, .iload_n 3, 1), (26, .iload 4, 2), (28, .iadd, 1), (29, .invokestatic 100, 3), (32, .iload_n 3, 1), (33, .invokestatic 100, 3), (36, .iload 4, 2), (38, .invokestatic 100, 3), (41, .invokestatic 103, 3), (44, .invokestatic 103, 3), (47, .ireturn, 1)]
def cd_55 : List (Nat × Instr × Nat) := [(0, .aload_n 0, 1), (1, .iload_n 2, 1), (2, .invokevirtual 88, 3), (5, .aload_n 0, 1), (6, .iload_n 1, 1), (7, .invokevirtual 88, 3), (10, .isub, 1), (11, .istore_n 3, 1), (12, .aload_n 0, 1), (13, .iload_n 2, 1), (14, .invokevirtual 94, 3), (17, .aload_n 0, 1), (18, .iload_n 1, 1), (19, .invokevirtual 94, 3), (22, .isub, 1), (23, .istore 4, 2), (25, .iload_n 3, 1), (26, .ifCond .ne 10, 3), (29, .iload 4, 2), (31, .ifCond .ne 5, 3), (34, .iconst (-1), 1), (35, .ireturn, 1), (36, .iload_n 3, 1), (37, .ifCond .eq 15, 3), (40, .iload 4, 2), (42, .ifCond .eq 10, 3), (45, .iload_n 3, 1), (46, .iload 4, 2), (48, .iadd, 1), (49, .ifCond .ne 7, 3), (52, .iconst 1, 1), (53, .goto 4, 3), (56, .iconst 0, 1), (57, .istore 5, 2), (59, .iload_n 3, 1), (60, .iload 4, 2), (62, .invokestatic 106, 3), (65, .iload 5, 2), (67, .ifCond .eq 8, 3), (70, .bipush 10, 2), (72, .goto 4, 3), (75, .iconst 0, 1), (76, .iadd, 1), (77, .ireturn, 1)]
def cd_56 : List (Nat × Instr × Nat) := [(0, .iload_n 0, 1), (1, .ifCond .lt 9, 3), (4, .iload_n 1, 1), (5, .ifCond .le 5, 3), (8, .iconst 0, 1), (9, .ireturn, 1), (10, .iload_n 1, 1), (11, .ifCond .gt 11, 3), (14, .iload_n 0, 1), (15, .iload_n 1, 1), (16, .iadd, 1), (17, .ifCond .le 5, 3), (20, .iconst 1, 1), (21, .ireturn, 1), (22, .iload_n 0, 1), (23, .ifCond .le 5, 3), (26, .iconst 2, 1), (27, .ireturn, 1), (28, .iload_n 1, 1), (29, .ifCond .ge 5, 3), (32, .iconst 3, 1), (33, .ireturn, 1), (34, .iload_n 0, 1), (35, .iload_n 1, 1), (36, .iadd, 1), (37, .ifCond .ge 7, 3), (40, .iconst 4, 1), (41, .goto 4, 3), (44, .iconst 5, 1), (45, .ireturn, 1)]
def cd_57 : List (Nat × Instr × Nat) := [(0, .iload_n 1, 1), (1, .aload_n 0, 1), (2, .getfield 33, 3), (5, .invokestatic 109, 3), (8, .ireturn, 1)]
def cd_58 : List (Nat × Instr × Nat) := [(0, .iload_n 0, 1), (1, .iload_n 1, 1), (2, .isub, 1), (3, .bipush 6, 2), (5, .invokestatic 85, 3), (8, .istore_n 2, 1), (9, .iload_n 2, 1), (10, .bipush 6, 2), (12, .iload_n 2, 1), (13, .isub, 1), (14, .invokestatic 61, 3), (17, .ireturn, 1)]
def cd_59 : List (Nat × Instr × Nat) := [(0, .iload_n 0, 1), (1, .tableswitch 33 0 2 #[27, 29, 31], 27), (28, .iconst 2, 1), (29, .ireturn, 1), (30, .iconst 3, 1), (31, .ireturn, 1), (32, .iconst 1, 1), (33, .ireturn, 1), (34, .iconst 0, 1), (35, .ireturn, 1)]
def cd_60 : List (Nat × Instr × Nat) := [(0, .aload_n 1, 1), (1, .getfield 112, 3), (4, .iload_n 2, 1), (5, .invokestatic 109, 3), (8, .invokestatic 115, 3), (11, .istore_n 3, 1), (12, .iload_n 3, 1), (13, .aload_n 0, 1), (14, .getfield 36, 3), (17, .imul, 1), (18, .aload_n 1, 1), (19, .getfield 118, 3), (22, .imul, 1), (23, .bipush 19, 2), (25, .iadd, 1), (26, .bipush 20, 2), (28, .idiv, 1), (29, .ireturn, 1)]
def cd_61 : List (Nat × Instr × Nat) := [(0, .iconst 0, 1), (1, .istore_n 2, 1), (2, .iconst 1, 1), (3, .istore_n 3, 1), (4, .iload_n 3, 1), (5, .bipush 6, 2), (7, .if_icmp .ge 26, 3), (10, .aload_n 0, 1), (11, .aload_n 1, 1), (12, .iload_n 3, 1), (13, .invokevirtual 121, 3), (16, .aload_n 0, 1), (17, .aload_n 1, 1), (18, .iload_n 2, 1), (19, .invokevirtual 121, 3), (22, .if_icmp .le 5, 3), (25, .iload_n 3, 1), (26, .istore_n 2, 1), (27, .iinc 3 1, 3), (30, .goto (-26), 3), (33, .iload_n 2, 1), (34, .ireturn, 1)]
def cd_62 : List (Nat × Instr × Nat) := [(0, .aload_n 0, 1), (1, .aload_n 1, 1), (2, .getfield 125, 3), (5, .invokevirtual 128, 3), (8, .ifCond .eq 16, 3), (11, .aload_n 0, 1), (12, .getfield 17, 3), (15, .aload_n 1, 1), (16, .getfield 125, 3), (19, .aaload, 1), (20, .iconst (-1), 1), (21, .putfield 125, 3), (24, .aload_n 1, 1), (25, .iconst (-1), 1), (26, .putfield 125, 3), (29, .return_, 1)]
def cd_63 : List (Nat × Instr × Nat) := [(0, .iconst 0, 1), (1, .istore_n 1, 1), (2, .iconst 0, 1), (3, .istore_n 2, 1), (4, .iload_n 2, 1), (5, .aload_n 0, 1), (6, .getfield 42, 3), (9, .if_icmp .ge 30, 3), (12, .iload_n 2, 1), (13, .bipush 8, 2), (15, .if_icmp .ge 24, 3), (18, .aload_n 0, 1), (19, .getfield 17, 3), (22, .iload_n 2, 1), (23, .aaload, 1), (24, .invokevirtual 131, 3), (27, .ifCond .eq 6, 3), (30, .iinc 1 1, 3), (33, .iinc 2 1, 3), (36, .goto (-32), 3), (39, .iload_n 1, 1), (40, .ireturn, 1)]
def cd_64 : List (Nat × Instr × Nat) := [(0, .iconst 0, 1), (1, .istore_n 2, 1), (2, .iconst 0, 1), (3, .istore_n 3, 1), (4, .iload_n 3, 1), (5, .aload_n 0, 1), (6, .getfield 42, 3), (9, .if_icmp .ge 43, 3), (12, .iload_n 3, 1), (13, .bipush 8, 2), (15, .if_icmp .ge 37, 3), (18, .aload_n 0, 1), (19, .getfield 17, 3), (22, .iload_n 3, 1), (23, .aaload, 1), (24, .invokevirtual 71, 3), (27, .ifCond .eq 19, 3), (30, .aload_n 0, 1), (31, .getfield 17, 3), (34, .iload_n 3, 1), (35, .aaload, 1), (36, .getfield 134, 3), (39, .iload_n 1, 1), (40, .if_icmp .ne 6, 3), (43, .iinc 2 1, 3), (46, .iinc 3 1, 3), (49, .goto (-45), 3), (52, .iload_n 2, 1), (53, .ireturn, 1)]
def cd_65 : List (Nat × Instr × Nat) := [(0, .iconst 0, 1), (1, .istore_n 2, 1), (2, .iconst 0, 1), (3, .istore_n 3, 1), (4, .iload_n 3, 1), (5, .aload_n 0, 1), (6, .getfield 42, 3), (9, .if_icmp .ge 62, 3), (12, .iload_n 3, 1), (13, .bipush 8, 2), (15, .if_icmp .ge 56, 3), (18, .aload_n 0, 1), (19, .getfield 17, 3), (22, .iload_n 3, 1), (23, .aaload, 1), (24, .invokevirtual 71, 3), (27, .ifCond .eq 38, 3), (30, .aload_n 0, 1), (31, .getfield 17, 3), (34, .iload_n 3, 1), (35, .aaload, 1), (36, .getfield 134, 3), (39, .iload_n 1, 1), (40, .if_icmp .ne 25, 3), (43, .iload_n 2, 1), (44, .aload_n 0, 1), (45, .getfield 17, 3), (48, .iload_n 3, 1), (49, .aaload, 1), (50, .getfield 137, 3), (53, .aload_n 0, 1), (54, .getfield 17, 3), (57, .iload_n 3, 1), (58, .aaload, 1), (59, .getfield 140, 3), (62, .iadd, 1), (63, .iadd, 1), (64, .istore_n 2, 1), (65, .iinc 3 1, 3), (68, .goto (-64), 3), (71, .iload_n 2, 1), (72, .ireturn, 1)]
def cd_66 : List (Nat × Instr × Nat) := [(0, .iconst 0, 1), (1, .istore_n 1, 1), (2, .iconst 0, 1), (3, .istore_n 2, 1), (4, .iload_n 2, 1), (5, .sipush 144, 3), (8, .if_icmp .ge 20, 3), (11, .aload_n 0, 1), (12, .iload_n 2, 1), (13, .invokevirtual 82, 3), (16, .ifCond .eq 6, 3), (19, .iinc 1 1, 3), (22, .iinc 2 1, 3), (25, .goto (-21), 3), (28, .iload_n 1, 1), (29, .ireturn, 1)]
def cd_67 : List (Nat × Instr × Nat) := [(0, .sipush 143, 3), (3, .istore_n 1, 1), (4, .iload_n 1, 1), (5, .ifCond .lt 19, 3), (8, .aload_n 0, 1), (9, .iload_n 1, 1), (10, .invokevirtual 82, 3), (13, .ifCond .eq 5, 3), (16, .iload_n 1, 1), (17, .ireturn, 1), (18, .iinc 1 (-1), 3), (21, .goto (-17), 3), (24, .iconst (-1), 1), (25, .ireturn, 1)]
def cd_68 : List (Nat × Instr × Nat) := [(0, .iload_n 1, 1), (1, .tableswitch 98 0 8 #[51, 56, 61, 66, 71, 76, 81, 87, 93], 51), (52, .aload_n 0, 1), (53, .getfield 26, 3), (56, .ireturn, 1), (57, .aload_n 0, 1), (58, .getfield 30, 3), (61, .ireturn, 1), (62, .aload_n 0, 1), (63, .getfield 33, 3), (66, .ireturn, 1), (67, .aload_n 0, 1), (68, .getfield 36, 3), (71, .ireturn, 1), (72, .aload_n 0, 1), (73, .getfield 39, 3), (76, .ireturn, 1), (77, .aload_n 0, 1), (78, .getfield 42, 3), (81, .ireturn, 1), (82, .aload_n 0, 1), (83, .iconst 0, 1), (84, .invokevirtual 143, 3), (87, .ireturn, 1), (88, .aload_n 0, 1), (89, .iconst 1, 1), (90, .invokevirtual 143, 3), (93, .ireturn, 1), (94, .aload_n 0, 1), (95, .invokevirtual 146, 3), (98, .ireturn, 1), (99, .aload_n 0, 1), (100, .invokevirtual 150, 3), (103, .ireturn, 1)]
def cd_69 : List (Nat × Instr × Nat) := [(0, .iload_n 2, 1), (1, .tableswitch 161 0 13 #[71, 76, 92, 97, 102, 107, 112, 117, 122, 127, 132, 137, 142, 152], 71), (72, .aload_n 1, 1), (73, .getfield 134, 3), (76, .ireturn, 1), (77, .aload_n 1, 1), (78, .invokevirtual 71, 3), (81, .ifCond .eq 10, 3), (84, .aload_n 1, 1), (85, .getfield 75, 3), (88, .goto 4, 3), (91, .iconst (-1), 1), (92, .ireturn, 1), (93, .aload_n 1, 1), (94, .getfield 112, 3), (97, .ireturn, 1), (98, .aload_n 1, 1), (99, .getfield 137, 3), (102, .ireturn, 1), (103, .aload_n 1, 1), (104, .getfield 118, 3), (107, .ireturn, 1), (108, .aload_n 1, 1), (109, .getfield 153, 3), (112, .ireturn, 1), (113, .aload_n 1, 1), (114, .getfield 156, 3), (117, .ireturn, 1), (118, .aload_n 1, 1), (119, .getfield 140, 3), (122, .ireturn, 1), (123, .aload_n 1, 1), (124, .getfield 159, 3), (127, .ireturn, 1), (128, .aload_n 1, 1), (129, .getfield 162, 3), (132, .ireturn, 1), (133, .aload_n 1, 1), (134, .getfield 165, 3), (137, .ireturn, 1), (138, .aload_n 1, 1), (139, .getfield 125, 3), (142, .ireturn, 1), (143, .aload_n 0, 1), (144, .aload_n 1, 1), (145, .aload_n 0, 1), (146, .getfield 33, 3), (149, .invokevirtual 121, 3), (152, .ireturn, 1), (153, .aload_n 0, 1), (154, .aload_n 1, 1), (155, .getfield 112, 3), (158, .invokevirtual 168, 3), (161, .ireturn, 1), (162, .aload_n 1, 1), (163, .getfield 171, 3), (166, .ifCond .eq 7, 3), (169, .iconst 1, 1), (170, .goto 4, 3), (173, .iconst 0, 1), (174, .ireturn, 1)]
def cd_70 : List (Nat × Instr × Nat) := [(0, .aload_n 0, 1), (1, .invokespecial 3, 3), (4, .return_, 1)]
def cd_71 : List (Nat × Instr × Nat) := [(0, .aload_n 0, 1), (1, .iload_n 1, 1), (2, .putfield 9, 3), (5, .aload_n 0, 1), (6, .iload_n 2, 1), (7, .putfield 15, 3), (10, .aload_n 0, 1), (11, .iload_n 3, 1), (12, .putfield 18, 3), (15, .aload_n 0, 1), (16, .iload 4, 2), (18, .putfield 21, 3), (21, .aload_n 0, 1), (22, .bipush 20, 2), (24, .putfield 24, 3), (27, .aload_n 0, 1), (28, .iload 5, 2), (30, .putfield 27, 3), (33, .aload_n 0, 1), (34, .iload 5, 2), (36, .putfield 30, 3), (39, .aload_n 0, 1), (40, .iload 6, 2), (42, .putfield 33, 3), (45, .aload_n 0, 1), (46, .iload 6, 2), (48, .putfield 36, 3), (51, .aload_n 0, 1), (52, .iconst 0, 1), (53, .putfield 39, 3), (56, .aload_n 0, 1), (57, .iconst 0, 1), (58, .putfield 42, 3), (61, .aload_n 0, 1), (62, .iconst 0, 1), (63, .putfield 45, 3), (66, .aload_n 0, 1), (67, .iconst (-1), 1), (68, .putfield 48, 3), (71, .aload_n 0, 1), (72, .iconst 0, 1), (73, .putfield 51, 3), (76, .aload_n 0, 1), (77, .iconst 0, 1), (78, .putfield 55, 3), (81, .return_, 1)]
def cd_72 : List (Nat × Instr × Nat) := [(0, .aload_n 0, 1), (1, .aload_n 1, 1), (2, .getfield 9, 3), (5, .putfield 9, 3), (8, .aload_n 0, 1), (9, .aload_n 1, 1), (10, .getfield 15, 3), (13, .putfield 15, 3), (16, .aload_n 0, 1), (17, .aload_n 1, 1), (18, .getfield 18, 3), (21, .putfield 18, 3), (24, .aload_n 0, 1), (25, .aload_n 1, 1), (26, .getfield 21, 3), (29, .putfield 21, 3), (32, .aload_n 0, 1), (33, .aload_n 1, 1), (34, .getfield 24, 3), (37, .putfield 24, 3), (40, .aload_n 0, 1), (41, .aload_n 1, 1), (42, .getfield 27, 3), (45, .putfield 27, 3), (48, .aload_n 0, 1), (49, .aload_n 1, 1), (50, .getfield 30, 3), (53, .putfield 30, 3), (56, .aload_n 0, 1), (57, .aload_n 1, 1), (58, .getfield 33, 3), (61, .putfield 33, 3), (64, .aload_n 0, 1), (65, .aload_n 1, 1), (66, .getfield 36, 3), (69, .putfield 36, 3), (72, .aload_n 0, 1), (73, .aload_n 1, 1), (74, .getfield 39, 3), (77, .putfield 39, 3), (80, .aload_n 0, 1), (81, .aload_n 1, 1), (82, .getfield 42, 3), (85, .putfield 42, 3), (88, .aload_n 0, 1), (89, .aload_n 1, 1), (90, .getfield 45, 3), (93, .putfield 45, 3), (96, .aload_n 0, 1), (97, .aload_n 1, 1), (98, .getfield 48, 3), (101, .putfield 48, 3), (104, .aload_n 0, 1), (105, .aload_n 1, 1), (106, .getfield 51, 3), (109, .putfield 51, 3), (112, .aload_n 0, 1), (113, .aload_n 1, 1), (114, .getfield 55, 3), (117, .putfield 55, 3), (120, .return_, 1)]
def cd_73 : List (Nat × Instr × Nat) := [(0, .aload_n 0, 1), (1, .getfield 21, 3), (4, .ifCond .le 7, 3), (7, .iconst 1, 1), (8, .goto 4, 3), (11, .iconst 0, 1), (12, .ireturn, 1)]
def cd_74 : List (Nat × Instr × Nat) := [(0, .aload_n 0, 1), (1, .getfield 48, 3), (4, .iconst (-1), 1), (5, .if_icmp .eq 7, 3), (8, .iconst 1, 1), (9, .goto 4, 3), (12, .iconst 0, 1), (13, .ireturn, 1)]
def cd_75 : List (Nat × Instr × Nat) := [(0, .aload_n 0, 1), (1, .invokevirtual 58, 3), (4, .ifCond .eq 28, 3), (7, .aload_n 0, 1), (8, .getfield 24, 3), (11, .ifCond .le 21, 3), (14, .aload_n 0, 1), (15, .invokevirtual 62, 3), (18, .ifCond .ne 14, 3), (21, .aload_n 0, 1), (22, .getfield 39, 3), (25, .ifCond .le 7, 3), (28, .iconst 1, 1), (29, .goto 4, 3), (32, .iconst 0, 1), (33, .ireturn, 1)]
def cd_76 : List (Nat × Instr × Nat) := [(0, .aload_n 0, 1), (1, .getfield 18, 3), (4, .iload_n 1, 1), (5, .ifCond .eq 7, 3), (8, .iconst 1, 1), (9, .goto 4, 3), (12, .iconst (-1), 1), (13, .iadd, 1), (14, .bipush 6, 2), (16, .invokestatic 65, 3), (19, .ireturn, 1)]
def cd_77 : List (Nat × Instr × Nat) := [(0, .aload_n 0, 1), (1, .aload_n 0, 1), (2, .iload_n 1, 1), (3, .invokevirtual 71, 3), (6, .putfield 18, 3), (9, .aload_n 0, 1), (10, .dup, 1), (11, .getfield 39, 3), (14, .iconst 1, 1), (15, .isub, 1), (16, .putfield 39, 3), (19, .aload_n 0, 1), (20, .iconst 0, 1), (21, .putfield 55, 3), (24, .return_, 1)]
def cd_78 : List (Nat × Instr × Nat) := [(0, .iload_n 1, 1), (1, .ifCond .eq 10, 3), (4, .aload_n 0, 1), (5, .getfield 30, 3), (8, .goto 7, 3), (11, .aload_n 0, 1), (12, .getfield 27, 3), (15, .ireturn, 1)]
def cd_79 : List (Nat × Instr × Nat) := [(0, .iload_n 1, 1), (1, .ifCond .eq 10, 3), (4, .aload_n 0, 1), (5, .getfield 45, 3), (8, .goto 7, 3), (11, .aload_n 0, 1), (12, .getfield 42, 3), (15, .ireturn, 1)]
def cd_80 : List (Nat × Instr × Nat) := [(0, .iconst 2, 1), (1, .aload_n 0, 1), (2, .getfield 33, 3), (5, .imul, 1), (6, .aload_n 0, 1), (7, .getfield 36, 3), (10, .if_icmp .lt 7, 3), (13, .iconst 1, 1), (14, .goto 4, 3), (17, .iconst 2, 1), (18, .istore_n 2, 1), (19, .iload_n 1, 1), (20, .ifCond .eq 11, 3), (23, .aload_n 0, 1), (24, .iload_n 2, 1), (25, .putfield 45, 3), (28, .goto 8, 3), (31, .aload_n 0, 1), (32, .iload_n 2, 1), (33, .putfield 42, 3), (36, .return_, 1)]
def cd_81 : List (Nat × Instr × Nat) := [(0, .aload_n 0, 1), (1, .iconst 0, 1), (2, .aload_n 0, 1), (3, .getfield 42, 3), (6, .iconst 1, 1), (7, .isub, 1), (8, .invokestatic 75, 3), (11, .putfield 42, 3), (14, .aload_n 0, 1), (15, .iconst 0, 1), (16, .aload_n 0, 1), (17, .getfield 45, 3), (20, .iconst 1, 1), (21, .isub, 1), (22, .invokestatic 75, 3), (25, .putfield 45, 3), (28, .return_, 1)]
def cd_82 : List (Nat × Instr × Nat) := [(0, .aload_n 0, 1), (1, .invokespecial 1, 3), (4, .new 7, 3), (7, .dup, 1), (8, .invokespecial 9, 3), (11, .astore_n 1, 1), (12, .aload_n 0, 1), (13, .aload_n 1, 1), (14, .putfield 10, 3), (17, .aload_n 0, 1), (18, .new 16, 3), (21, .dup, 1), (22, .invokespecial 18, 3), (25, .putfield 19, 3), (28, .aload_n 0, 1), (29, .new 23, 3), (32, .dup, 1), (33, .aload_n 1, 1), (34, .invokespecial 25, 3), (37, .putfield 28, 3), (40, .aload_n 0, 1), (41, .new 32, 3), (44, .dup, 1), (45, .aload_n 1, 1), (46, .invokespecial 34, 3), (49, .putfield 35, 3), (52, .aload_n 0, 1), (53, .new 39, 3), (56, .dup, 1), (57, .aload_n 1, 1), (58, .invokespecial 41, 3), (61, .putfield 42, 3), (64, .aload_n 0, 1), (65, .new 46, 3), (68, .dup, 1), (69, .aload_n 1, 1), (70, .invokespecial 48, 3), (73, .putfield 49, 3), (76, .aload_n 0, 1), (77, .new 53, 3), (80, .dup, 1), (81, .invokespecial 55, 3), (84, .putfield 56, 3), (87, .return_, 1)]
def cd_83 : List (Nat × Instr × Nat) := [(0, .iload_n 1, 1), (1, .iconst 4, 1), (2, .if_icmp .lt 20, 3), (5, .iload_n 1, 1), (6, .bipush 12, 2), (8, .if_icmp .gt 14, 3), (11, .iload_n 2, 1), (12, .iconst 4, 1), (13, .if_icmp .lt 9, 3), (16, .iload_n 2, 1), (17, .bipush 12, 2), (19, .if_icmp .le 13, 3), (22, .new 60, 3), (25, .dup, 1), (26, .ldc 62, 2), (28, .invokespecial 64, 3), (31, .athrow, 1), (32, .aload_n 0, 1), (33, .getfield 10, 3), (36, .getfield 67, 3), (39, .istore_n 3, 1), (40, .aload_n 0, 1), (41, .getfield 19, 3), (44, .aload_n 0, 1), (45, .getfield 10, 3), (48, .invokevirtual 71, 3), (51, .aload_n 0, 1), (52, .getfield 10, 3), (55, .iload_n 1, 1), (56, .iload_n 2, 1), (57, .invokevirtual 74, 3), (60, .iload_n 3, 1), (61, .ireturn, 1)]
def cd_84 : List (Nat × Instr × Nat) := [(0, .aload_n 0, 1), (1, .iload_n 1, 1), (2, .invokevirtual 78, 3), (5, .aload_n 0, 1), (6, .getfield 10, 3), (9, .iload_n 1, 1), (10, .invokevirtual 82, 3), (13, .iconst (-1), 1), (14, .if_icmp .eq 13, 3), (17, .new 86, 3), (20, .dup, 1), (21, .ldc 88, 2), (23, .invokespecial 90, 3), (26, .athrow, 1), (27, .aload_n 0, 1), (28, .getfield 10, 3), (31, .iload_n 1, 1), (32, .invokevirtual 91, 3), (35, .istore_n 3, 1), (36, .aload_n 0, 1), (37, .getfield 19, 3), (40, .aload_n 0, 1), (41, .getfield 10, 3), (44, .invokevirtual 71, 3), (47, .aload_n 0, 1), (48, .getfield 10, 3), (51, .iload_n 1, 1), (52, .iload_n 2, 1), (53, .invokevirtual 95, 3), (56, .iload_n 3, 1), (57, .ifCond .eq 7, 3), (60, .iconst 1, 1), (61, .goto 4, 3), (64, .iconst 0, 1), (65, .ireturn, 1)]
def cd_85 : List (Nat × Instr × Nat) := [(0, .iload_n 1, 1), (1, .invokestatic 99, 3), (4, .ifCond .eq 12, 3), (7, .iload_n 2, 1), (8, .ifCond .lt 8, 3), (11, .iload_n 2, 1), (12, .iconst 3, 1), (13, .if_icmp .le 13, 3), (16, .new 60, 3), (19, .dup, 1), (20, .ldc 102, 2), (22, .invokespecial 64, 3), (25, .athrow, 1), (26, .aload_n 0, 1), (27, .getfield 10, 3), (30, .getfield 104, 3), (33, .istore_n 3, 1), (34, .aload_n 0, 1), (35, .getfield 19, 3), (38, .aload_n 0, 1), (39, .getfield 10, 3), (42, .invokevirtual 71, 3), (45, .aload_n 0, 1), (46, .getfield 10, 3), (49, .iload_n 1, 1), (50, .putfield 104, 3), (53, .aload_n 0, 1), (54, .getfield 10, 3), (57, .iload_n 2, 1), (58, .putfield 107, 3), (61, .iload_n 3, 1), (62, .ireturn, 1)]
def cd_86 : List (Nat × Instr × Nat) := [(0, .aload_n 0, 1), (1, .iload_n 2, 1), (2, .invokevirtual 78, 3), (5, .iload_n 1, 1), (6, .invokestatic 110, 3), (9, .ifCond .eq 10, 3), (12, .iload_n 3, 1), (13, .invokestatic 99, 3), (16, .ifCond .ne 13, 3), (19, .new 60, 3), (22, .dup, 1), (23, .ldc 113, 2), (25, .invokespecial 64, 3), (28, .athrow, 1), (29, .iload 4, 2), (31, .iconst 1, 1), (32, .if_icmp .lt 35, 3), (35, .iload 4, 2), (37, .bipush 60, 2), (39, .if_icmp .gt 28, 3), (42, .iload 5, 2), (44, .ifCond .lt 23, 3), (47, .iload 5, 2), (49, .bipush 12, 2), (51, .if_icmp .gt 16, 3), (54, .iload 6, 2), (56, .iconst 1, 1), (57, .if_icmp .lt 10, 3), (60, .iload 6, 2), (62, .bipush 60, 2), (64, .if_icmp .le 13, 3), (67, .new 60, 3), (70, .dup, 1), (71, .ldc 115, 2), (73, .invokespecial 64, 3), (76, .athrow, 1), (77, .aload_n 0, 1), (78, .getfield 10, 3), (81, .getfield 67, 3), (84, .bipush 8, 2), (86, .if_icmp .ge 14, 3), (89, .aload_n 0, 1), (90, .getfield 10, 3), (93, .iload_n 2, 1), (94, .invokevirtual 117, 3), (97, .ifCond .ne 13, 3), (100, .new 86, 3), (103, .dup, 1), (104, .ldc 120, 2), (106, .invokespecial 90, 3), (109, .athrow, 1), (110, .aload_n 0, 1), (111, .getfield 19, 3), (114, .aload_n 0, 1), (115, .getfield 10, 3), (118, .invokevirtual 71, 3), (121, .aload_n 0, 1), (122, .getfield 10, 3), (125, .getfield 67, 3), (128, .istore 7, 2), (130, .aload_n 0, 1), (131, .getfield 10, 3), (134, .getfield 122, 3), (137, .iload 7, 2), (139, .aaload, 1), (140, .astore 8, 2), (142, .aload 8, 2), (144, .iload_n 1, 1), (145, .iload_n 2, 1), (146, .iload_n 3, 1), (147, .iload 4, 2), (149, .iload 5, 2), (151, .iload 6, 2), (153, .invokevirtual 126, 3), (156, .aload_n 0, 1), (157, .getfield 10, 3), (160, .iload 7, 2), (162, .iconst 1, 1), (163, .iadd, 1), (164, .putfield 67, 3), (167, .aload_n 0, 1), (168, .getfield 28, 3), (171, .aload 8, 2), (173, .invokevirtual 132, 3), (176, .iload 7, 2), (178, .ireturn, 1)]
def cd_87 : List (Nat × Instr × Nat) := [(0, .iload_n 1, 1), (1, .ifCond .lt 9, 3), (4, .iload_n 1, 1), (5, .bipush 9, 2), (7, .if_icmp .le 13, 3), (10, .new 60, 3), (13, .dup, 1), (14, .ldc 136, 2), (16, .invokespecial 64, 3), (19, .athrow, 1), (20, .aload_n 0, 1), (21, .getfield 10, 3), (24, .iload_n 1, 1), (25, .invokevirtual 138, 3), (28, .ireturn, 1)]
def cd_88 : List (Nat × Instr × Nat) := [(0, .aload_n 0, 1), (1, .iload_n 1, 1), (2, .invokevirtual 141, 3), (5, .iload_n 2, 1), (6, .ifCond .lt 9, 3), (9, .iload_n 2, 1), (10, .bipush 14, 2), (12, .if_icmp .le 13, 3), (15, .new 60, 3), (18, .dup, 1), (19, .ldc 144, 2), (21, .invokespecial 64, 3), (24, .athrow, 1), (25, .aload_n 0, 1), (26, .getfield 10, 3), (29, .aload_n 0, 1), (30, .getfield 10, 3), (33, .getfield 122, 3), (36, .iload_n 1, 1), (37, .aaload, 1), (38, .iload_n 2, 1), (39, .invokevirtual 146, 3), (42, .ireturn, 1)]
def cd_89 : List (Nat × Instr × Nat) := [(0, .aload_n 0, 1), (1, .iload_n 1, 1), (2, .invokevirtual 78, 3), (5, .aload_n 0, 1), (6, .getfield 10, 3), (9, .iload_n 1, 1), (10, .invokevirtual 150, 3), (13, .ireturn, 1)]
def cd_90 : List (Nat × Instr × Nat) := [(0, .aload_n 0, 1), (1, .iload_n 1, 1), (2, .invokevirtual 78, 3), (5, .aload_n 0, 1), (6, .iload_n 2, 1), (7, .invokevirtual 78, 3), (10, .aload_n 0, 1), (11, .getfield 10, 3), (14, .iload_n 1, 1), (15, .iload_n 2, 1), (16, .invokevirtual 153, 3), (19, .ireturn, 1)]
def cd_91 : List (Nat × Instr × Nat) := [(0, .aload_n 0, 1), (1, .iload_n 1, 1), (2, .invokevirtual 78, 3), (5, .aload_n 0, 1), (6, .iload_n 2, 1), (7, .invokevirtual 78, 3), (10, .aload_n 0, 1), (11, .getfield 10, 3), (14, .iload_n 1, 1), (15, .iload_n 2, 1), (16, .invokevirtual 157, 3), (19, .ireturn, 1)]
def cd_92 : List (Nat × Instr × Nat) := [(0, .aload_n 0, 1), (1, .iload_n 1, 1), (2, .invokevirtual 141, 3), (5, .aload_n 0, 1), (6, .getfield 10, 3), (9, .getfield 122, 3), (12, .iload_n 1, 1), (13, .aaload, 1), (14, .astore_n 2, 1), (15, .aload_n 0, 1), (16, .getfield 28, 3), (19, .aload_n 2, 1), (20, .invokevirtual 160, 3), (23, .ifCond .ne 13, 3), (26, .new 86, 3), (29, .dup, 1), (30, .ldc 164, 2), (32, .invokespecial 90, 3), (35, .athrow, 1), (36, .aload_n 0, 1), (37, .getfield 19, 3), (40, .aload_n 0, 1), (41, .getfield 10, 3), (44, .invokevirtual 71, 3), (47, .aload_n 0, 1), (48, .getfield 28, 3), (51, .aload_n 2, 1), (52, .invokevirtual 166, 3), (55, .aload_n 2, 1), (56, .getfield 169, 3), (59, .ireturn, 1)]
def cd_93 : List (Nat × Instr × Nat) := [(0, .aload_n 0, 1), (1, .iload_n 1, 1), (2, .invokevirtual 141, 3), (5, .aload_n 0, 1), (6, .getfield 10, 3), (9, .getfield 122, 3), (12, .iload_n 1, 1), (13, .aaload, 1), (14, .astore_n 3, 1), (15, .aload_n 0, 1), (16, .getfield 28, 3), (19, .aload_n 3, 1), (20, .iload_n 2, 1), (21, .invokevirtual 172, 3), (24, .ifCond .ne 13, 3), (27, .new 86, 3), (30, .dup, 1), (31, .ldc 176, 2), (33, .invokespecial 90, 3), (36, .athrow, 1), (37, .aload_n 0, 1), (38, .getfield 19, 3), (41, .aload_n 0, 1), (42, .getfield 10, 3), (45, .invokevirtual 71, 3), (48, .aload_n 3, 1), (49, .iload_n 2, 1), (50, .invokevirtual 178, 3), (53, .aload_n 3, 1), (54, .getfield 182, 3), (57, .ireturn, 1)]
def cd_94 : List (Nat × Instr × Nat) := [(0, .aload_n 0, 1), (1, .getfield 19, 3), (4, .aload_n 0, 1), (5, .getfield 10, 3), (8, .invokevirtual 71, 3), (11, .aload_n 0, 1), (12, .getfield 28, 3), (15, .invokevirtual 185, 3), (18, .ireturn, 1)]
def cd_95 : List (Nat × Instr × Nat) := [(0, .aload_n 0, 1), (1, .iload_n 1, 1), (2, .iload_n 3, 1), (3, .invokevirtual 189, 3), (6, .aload_n 0, 1), (7, .getfield 35, 3), (10, .aload_n 0, 1), (11, .getfield 10, 3), (14, .getfield 122, 3), (17, .iload_n 1, 1), (18, .aaload, 1), (19, .iload_n 2, 1), (20, .aload_n 0, 1), (21, .getfield 10, 3), (24, .getfield 122, 3), (27, .iload_n 3, 1), (28, .aaload, 1), (29, .invokevirtual 192, 3), (32, .ireturn, 1)]
def cd_96 : List (Nat × Instr × Nat) := [(0, .aload_n 0, 1), (1, .iload_n 1, 1), (2, .iload_n 3, 1), (3, .invokevirtual 189, 3), (6, .iload 4, 2), (8, .ifCond .lt 9, 3), (11, .iload 4, 2), (13, .iconst 2, 1), (14, .if_icmp .le 13, 3), (17, .new 60, 3), (20, .dup, 1), (21, .ldc 196, 2), (23, .invokespecial 64, 3), (26, .athrow, 1), (27, .aload_n 0, 1), (28, .getfield 10, 3), (31, .getfield 122, 3), (34, .iload_n 1, 1), (35, .aaload, 1), (36, .astore 5, 2), (38, .aload_n 0, 1), (39, .getfield 10, 3), (42, .getfield 122, 3), (45, .iload_n 3, 1), (46, .aaload, 1), (47, .astore 6, 2), (49, .aload_n 0, 1), (50, .getfield 35, 3), (53, .aload 5, 2), (55, .iload_n 2, 1), (56, .aload 6, 2), (58, .iload 4, 2), (60, .invokevirtual 198, 3), (63, .ifCond .ne 13, 3), (66, .new 86, 3), (69, .dup, 1), (70, .ldc 202, 2), (72, .invokespecial 90, 3), (75, .athrow, 1), (76, .aload_n 0, 1), (77, .getfield 19, 3), (80, .aload_n 0, 1), (81, .getfield 10, 3), (84, .invokevirtual 71, 3), (87, .aload_n 0, 1), (88, .getfield 35, 3), (91, .aload 5, 2), (93, .iload_n 2, 1), (94, .aload 6, 2), (96, .iload 4, 2), (98, .invokevirtual 204, 3), (101, .ireturn, 1)]
def cd_97 : List (Nat × Instr × Nat) := [(0, .aload_n 0, 1), (1, .iload_n 1, 1), (2, .iload_n 2, 1), (3, .invokevirtual 189, 3), (6, .aload_n 0, 1), (7, .getfield 42, 3), (10, .aload_n 0, 1), (11, .getfield 10, 3), (14, .getfield 122, 3), (17, .iload_n 1, 1), (18, .aaload, 1), (19, .aload_n 0, 1), (20, .getfield 10, 3), (23, .getfield 122, 3), (26, .iload_n 2, 1), (27, .aaload, 1), (28, .invokevirtual 208, 3), (31, .ifCond .ne 13, 3), (34, .new 86, 3), (37, .dup, 1), (38, .ldc 212, 2), (40, .invokespecial 90, 3), (43, .athrow, 1), (44, .aload_n 0, 1), (45, .getfield 19, 3), (48, .aload_n 0, 1), (49, .getfield 10, 3), (52, .invokevirtual 71, 3), (55, .aload_n 0, 1), (56, .getfield 10, 3), (59, .getfield 122, 3), (62, .iload_n 1, 1), (63, .aaload, 1), (64, .iload_n 2, 1), (65, .putfield 214, 3), (68, .aload_n 0, 1), (69, .getfield 10, 3), (72, .getfield 122, 3), (75, .iload_n 2, 1), (76, .aaload, 1), (77, .iload_n 1, 1), (78, .putfield 214, 3), (81, .aload_n 0, 1), (82, .getfield 10, 3), (85, .invokevirtual 217, 3), (88, .ireturn, 1)]
def cd_98 : List (Nat × Instr × Nat) := [(0, .aload_n 0, 1), (1, .iload_n 1, 1), (2, .invokevirtual 141, 3), (5, .aload_n 0, 1), (6, .getfield 10, 3), (9, .getfield 122, 3), (12, .iload_n 1, 1), (13, .aaload, 1), (14, .getfield 214, 3), (17, .istore_n 2, 1), (18, .iload_n 2, 1), (19, .iconst (-1), 1), (20, .if_icmp .ne 13, 3), (23, .new 86, 3), (26, .dup, 1), (27, .ldc 220, 2), (29, .invokespecial 90, 3), (32, .athrow, 1), (33, .aload_n 0, 1), (34, .getfield 19, 3), (37, .aload_n 0, 1), (38, .getfield 10, 3), (41, .invokevirtual 71, 3), (44, .aload_n 0, 1), (45, .getfield 10, 3), (48, .aload_n 0, 1), (49, .getfield 10, 3), (52, .getfield 122, 3), (55, .iload_n 1, 1), (56, .aaload, 1), (57, .invokevirtual 222, 3), (60, .iload_n 2, 1), (61, .ireturn, 1)]
def cd_99 : List (Nat × Instr × Nat) := [(0, .aload_n 0, 1), (1, .iload_n 1, 1), (2, .invokevirtual 141, 3), (5, .aload_n 0, 1), (6, .getfield 10, 3), (9, .getfield 122, 3), (12, .iload_n 1, 1), (13, .aaload, 1), (14, .astore_n 2, 1), (15, .aload_n 0, 1), (16, .getfield 10, 3), (19, .aload_n 2, 1), (20, .getfield 214, 3), (23, .invokevirtual 225, 3), (26, .ifCond .eq 10, 3), (29, .aload_n 2, 1), (30, .getfield 228, 3), (33, .ifCond .eq 13, 3), (36, .new 86, 3), (39, .dup, 1), (40, .ldc 232, 2), (42, .invokespecial 90, 3), (45, .athrow, 1), (46, .aload_n 0, 1), (47, .getfield 19, 3), (50, .aload_n 0, 1), (51, .getfield 10, 3), (54, .invokevirtual 71, 3), (57, .aload_n 0, 1), (58, .getfield 42, 3), (61, .aload_n 2, 1), (62, .aload_n 0, 1), (63, .getfield 10, 3), (66, .getfield 122, 3), (69, .aload_n 2, 1), (70, .getfield 214, 3), (73, .aaload, 1), (74, .invokevirtual 234, 3), (77, .ifCond .eq 7, 3), (80, .iconst 1, 1), (81, .goto 4, 3), (84, .iconst 0, 1), (85, .ireturn, 1)]
def cd_100 : List (Nat × Instr × Nat) := [(0, .aload_n 0, 1), (1, .iload_n 1, 1), (2, .invokevirtual 141, 3), (5, .aload_n 0, 1), (6, .getfield 49, 3), (9, .aload_n 0, 1), (10, .getfield 10, 3), (13, .getfield 122, 3), (16, .iload_n 1, 1), (17, .aaload, 1), (18, .invokevirtual 237, 3), (21, .ireturn, 1)]
def cd_101 : List (Nat × Instr × Nat) := [(0, .aload_n 0, 1), (1, .iload_n 1, 1), (2, .invokevirtual 141, 3), (5, .aload_n 0, 1), (6, .iload_n 2, 1), (7, .invokevirtual 78, 3), (10, .aload_n 0, 1), (11, .getfield 49, 3), (14, .aload_n 0, 1), (15, .getfield 10, 3), (18, .getfield 122, 3), (21, .iload_n 1, 1), (22, .aaload, 1), (23, .iload_n 2, 1), (24, .invokevirtual 241, 3), (27, .ireturn, 1)]
def cd_102 : List (Nat × Instr × Nat) := [(0, .aload_n 0, 1), (1, .iload_n 1, 1), (2, .invokevirtual 141, 3), (5, .aload_n 0, 1), (6, .getfield 35, 3), (9, .aload_n 0, 1), (10, .getfield 10, 3), (13, .getfield 122, 3), (16, .iload_n 1, 1), (17, .aaload, 1), (18, .invokevirtual 244, 3), (21, .ireturn, 1)]
def cd_103 : List (Nat × Instr × Nat) := [(0, .aload_n 0, 1), (1, .iload_n 1, 1), (2, .invokevirtual 141, 3), (5, .aload_n 0, 1), (6, .getfield 10, 3), (9, .aload_n 0, 1), (10, .getfield 10, 3), (13, .getfield 122, 3), (16, .iload_n 1, 1), (17, .aaload, 1), (18, .invokevirtual 247, 3), (21, .ireturn, 1)]
def cd_104 : List (Nat × Instr × Nat) := [(0, .iload_n 1, 1), (1, .invokestatic 110, 3), (4, .ifCond .ne 13, 3), (7, .new 60, 3), (10, .dup, 1), (11, .ldc 250, 2), (13, .invokespecial 64, 3), (16, .athrow, 1), (17, .aload_n 0, 1), (18, .getfield 10, 3), (21, .iload_n 1, 1), (22, .invokevirtual 252, 3), (25, .istore_n 2, 1), (26, .iload_n 2, 1), (27, .aload_n 0, 1), (28, .getfield 10, 3), (31, .iconst 1, 1), (32, .iload_n 1, 1), (33, .isub, 1), (34, .invokevirtual 252, 3), (37, .iadd, 1), (38, .istore_n 3, 1), (39, .iload_n 3, 1), (40, .ifCond .le 11, 3), (43, .iload_n 2, 1), (44, .i2d, 1), (45, .iload_n 3, 1), (46, .i2d, 1), (47, .ddiv, 1), (48, .goto 6, 3), (51, .ldc2_w 255, 3), (54, .dreturn, 1)]
def cd_105 : List (Nat × Instr × Nat) := [(0, .iload_n 1, 1), (1, .ifCond .lt 9, 3), (4, .iload_n 1, 1), (5, .bipush 127, 2), (7, .if_icmp .le 14, 3), (10, .new 60, 3), (13, .dup, 1), (14, .ldc_w 257, 3), (17, .invokespecial 64, 3), (20, .athrow, 1), (21, .aload_n 0, 1), (22, .getfield 56, 3), (25, .invokevirtual 259, 3), (28, .ifCond .eq 14, 3), (31, .new 86, 3), (34, .dup, 1), (35, .ldc_w 263, 3), (38, .invokespecial 90, 3), (41, .athrow, 1), (42, .aload_n 0, 1), (43, .getfield 56, 3), (46, .iload_n 1, 1), (47, .invokevirtual 265, 3), (50, .aload_n 0, 1), (51, .getfield 56, 3), (54, .getfield 268, 3), (57, .ireturn, 1)]
def cd_106 : List (Nat × Instr × Nat) := [(0, .aload_n 0, 1), (1, .getfield 56, 3), (4, .getfield 268, 3), (7, .istore_n 1, 1), (8, .aload_n 0, 1), (9, .getfield 56, 3), (12, .iconst 0, 1), (13, .putfield 268, 3), (16, .iload_n 1, 1), (17, .ireturn, 1)]
def cd_107 : List (Nat × Instr × Nat) := [(0, .aload_n 0, 1), (1, .getfield 56, 3), (4, .invokevirtual 271, 3), (7, .istore_n 1, 1), (8, .iload_n 1, 1), (9, .iconst (-1), 1), (10, .if_icmp .eq 8, 3), (13, .bipush (-10), 2), (15, .iload_n 1, 1), (16, .isub, 1), (17, .ireturn, 1), (18, .aload_n 0, 1), (19, .getfield 19, 3), (22, .aload_n 0, 1), (23, .getfield 10, 3), (26, .invokevirtual 71, 3), (29, .iconst 0, 1), (30, .istore_n 2, 1), (31, .iconst 0, 1), (32, .istore_n 3, 1), (33, .iload_n 3, 1), (34, .aload_n 0, 1), (35, .getfield 56, 3), (38, .getfield 268, 3), (41, .if_icmp .ge 60, 3), (44, .aload_n 0, 1), (45, .getfield 28, 3), (48, .aload_n 0, 1), (49, .getfield 56, 3), (52, .iload_n 3, 1), (53, .invokevirtual 274, 3), (56, .aload_n 0, 1), (57, .getfield 56, 3), (60, .iload_n 3, 1), (61, .iconst 1, 1), (62, .iadd, 1), (63, .invokevirtual 274, 3), (66, .invokevirtual 277, 3), (69, .ifCond .ne 5, 3), (72, .iload_n 2, 1), (73, .ireturn, 1), (74, .iinc 2 1, 3), (77, .iload_n 3, 1), (78, .aload_n 0, 1), (79, .getfield 56, 3), (82, .iload_n 3, 1), (83, .invokevirtual 274, 3), (86, .bipush 101, 2), (88, .if_icmp .ne 7, 3), (91, .iconst 2, 1), (92, .goto 4, 3), (95, .iconst 3, 1), (96, .iadd, 1), (97, .istore_n 3, 1), (98, .goto (-65), 3), (101, .iload_n 2, 1), (102, .ireturn, 1)]
def cd_108 : List (Nat × Instr × Nat) := [(0, .aload_n 0, 1), (1, .getfield 19, 3), (4, .getfield 281, 3), (7, .ifCond .ne 14, 3), (10, .new 86, 3), (13, .dup, 1), (14, .ldc_w 284, 3), (17, .invokespecial 90, 3), (20, .athrow, 1), (21, .aload_n 0, 1), (22, .getfield 19, 3), (25, .aload_n 0, 1), (26, .getfield 10, 3), (29, .invokevirtual 286, 3), (32, .aload_n 0, 1), (33, .getfield 19, 3), (36, .getfield 281, 3), (39, .ireturn, 1)]
def cd_109 : List (Nat × Instr × Nat) := [(0, .ldc2_w 289, 3), (3, .aload_n 0, 1), (4, .getfield 56, 3), (7, .getfield 268, 3), (10, .i2l, 1), (11, .ladd, 1), (12, .lstore_n 1, 1), (13, .iconst 0, 1), (14, .istore_n 3, 1), (15, .iload_n 3, 1), (16, .bipush 9, 2), (18, .if_icmp .gt 25, 3), (21, .ldc2_w 291, 3), (24, .lload_n 1, 1), (25, .lmul, 1), (26, .aload_n 0, 1), (27, .getfield 10, 3), (30, .iload_n 3, 1), (31, .invokevirtual 138, 3), (34, .i2l, 1), (35, .ladd, 1), (36, .lstore_n 1, 1), (37, .iinc 3 1, 3), (40, .goto (-25), 3), (43, .iconst 0, 1), (44, .istore_n 3, 1), (45, .iload_n 3, 1), (46, .aload_n 0, 1), (47, .getfield 10, 3), (50, .getfield 67, 3), (53, .if_icmp .ge 81, 3), (56, .iload_n 3, 1), (57, .bipush 8, 2), (59, .if_icmp .ge 75, 3), (62, .iconst 0, 1), (63, .istore 4, 2), (65, .iload 4, 2), (67, .bipush 14, 2), (69, .if_icmp .gt 35, 3), (72, .ldc2_w 291, 3), (75, .lload_n 1, 1), (76, .lmul, 1), (77, .aload_n 0, 1), (78, .getfield 10, 3), (81, .aload_n 0, 1), (82, .getfield 10, 3), (85, .getfield 122, 3), (88, .iload_n 3, 1), (89, .aaload, 1), (90, .iload 4, 2), (92, .invokevirtual 146, 3), (95, .i2l, 1), (96, .ladd, 1), (97, .lstore_n 1, 1), (98, .iinc 4 1, 3), (101, .goto (-36), 3), (104, .ldc2_w 291, 3), (107, .lload_n 1, 1), (108, .lmul, 1), (109, .aload_n 0, 1), (110, .getfield 49, 3), (113, .aload_n 0, 1), (114, .getfield 10, 3), (117, .getfield 122, 3), (120, .iload_n 3, 1), (121, .aaload, 1), (122, .invokevirtual 237, 3), (125, .i2l, 1), (126, .ladd, 1), (127, .lstore_n 1, 1), (128, .iinc 3 1, 3), (131, .goto (-86), 3), (134, .aload_n 0, 1), (135, .getfield 10, 3), (138, .invokevirtual 293, 3), (141, .istore_n 3, 1), (142, .iconst 0, 1), (143, .istore 4, 2), (145, .iload 4, 2), (147, .iload_n 3, 1), (148, .if_icmp .ge 26, 3), (151, .ldc2_w 291, 3), (154, .lload_n 1, 1), (155, .lmul, 1), (156, .aload_n 0, 1), (157, .getfield 10, 3), (160, .iload 4, 2), (162, .invokevirtual 150, 3), (165, .i2l, 1), (166, .ladd, 1), (167, .lstore_n 1, 1), (168, .iinc 4 1, 3), (171, .goto (-26), 3), (174, .ldc2_w 291, 3), (177, .lload_n 1, 1), (178, .lmul, 1), (179, .aload_n 0, 1), (180, .getfield 19, 3), (183, .getfield 281, 3), (186, .i2l, 1), (187, .ladd, 1), (188, .lreturn, 1)]
def cd_110 : List (Nat × Instr × Nat) := [(0, .aload_n 0, 1), (1, .getfield 10, 3), (4, .iload_n 1, 1), (5, .invokevirtual 296, 3), (8, .ifCond .ne 14, 3), (11, .new 299, 3), (14, .dup, 1), (15, .ldc_w 301, 3), (18, .invokespecial 303, 3), (21, .athrow, 1), (22, .return_, 1)]
def cd_111 : List (Nat × Instr × Nat) := [(0, .aload_n 0, 1), (1, .getfield 10, 3), (4, .iload_n 1, 1), (5, .invokevirtual 225, 3), (8, .ifCond .ne 14, 3), (11, .new 299, 3), (14, .dup, 1), (15, .ldc_w 304, 3), (18, .invokespecial 303, 3), (21, .athrow, 1), (22, .return_, 1)]
def cd_112 : List (Nat × Instr × Nat) := [(0, .aload_n 0, 1), (1, .iload_n 1, 1), (2, .invokevirtual 141, 3), (5, .aload_n 0, 1), (6, .iload_n 2, 1), (7, .invokevirtual 141, 3), (10, .iload_n 1, 1), (11, .iload_n 2, 1), (12, .if_icmp .ne 14, 3), (15, .new 60, 3), (18, .dup, 1), (19, .ldc_w 306, 3), (22, .invokespecial 64, 3), (25, .athrow, 1), (26, .return_, 1)]
def cd_113 : List (Nat × Instr × Nat) := [(0, .iload_n 0, 1), (1, .ifCond .eq 8, 3), (4, .iload_n 0, 1), (5, .iconst 1, 1), (6, .if_icmp .ne 7, 3), (9, .iconst 1, 1), (10, .goto 4, 3), (13, .iconst 0, 1), (14, .ireturn, 1)]
def cd_114 : List (Nat × Instr × Nat) := [(0, .iload_n 0, 1), (1, .ifCond .lt 13, 3), (4, .iload_n 0, 1), (5, .bipush 6, 2), (7, .if_icmp .ge 7, 3), (10, .iconst 1, 1), (11, .goto 4, 3), (14, .iconst 0, 1), (15, .ireturn, 1)]
def cd_115 : List (Nat × Instr × Nat) := [(0, .aload_n 0, 1), (1, .invokespecial 1, 3), (4, .aload_n 0, 1), (5, .sipush 270, 3), (8, .newarray .int, 2), (10, .putfield 7, 3), (13, .aload_n 0, 1), (14, .sipush 1080, 3), (17, .newarray .int, 2), (19, .putfield 13, 3), (22, .aload_n 0, 1), (23, .sipush 150, 3), (26, .newarray .int, 2), (28, .putfield 16, 3), (31, .aload_n 0, 1), (32, .sipush 1728, 3), (35, .newarray .int, 2), (37, .putfield 19, 3), (40, .aload_n 0, 1), (41, .bipush 10, 2), (43, .bipush 8, 2), (45, .invokevirtual 22, 3), (48, .return_, 1)]
def cd_116 : List (Nat × Instr × Nat) := [(0, .iconst 0, 1), (1, .istore_n 3, 1), (2, .iload_n 3, 1), (3, .sipush 270, 3), (6, .if_icmp .ge 16, 3), (9, .aload_n 0, 1), (10, .getfield 7, 3), (13, .iload_n 3, 1), (14, .iconst 0, 1), (15, .iastore, 1), (16, .iinc 3 1, 3), (19, .goto (-17), 3), (22, .aload_n 0, 1), (23, .getfield 7, 3), (26, .iconst 0, 1), (27, .iload_n 1, 1), (28, .iastore, 1), (29, .aload_n 0, 1), (30, .getfield 7, 3), (33, .iconst 1, 1), (34, .iload_n 2, 1), (35, .iastore, 1), (36, .aload_n 0, 1), (37, .getfield 7, 3), (40, .iconst 3, 1), (41, .iconst 2, 1), (42, .iastore, 1), (43, .aload_n 0, 1), (44, .getfield 7, 3), (47, .iconst 4, 1), (48, .iconst 1, 1), (49, .iastore, 1), (50, .return_, 1)]
def cd_117 : List (Nat × Instr × Nat) := [(0, .aload_n 0, 1), (1, .getfield 26, 3), (4, .ireturn, 1)]
def cd_118 : List (Nat × Instr × Nat) := [(0, .iload_n 0, 1), (1, .iload_n 1, 1), (2, .if_icmp .lt 12, 3), (5, .iload_n 0, 1), (6, .iload_n 2, 1), (7, .if_icmp .gt 7, 3), (10, .iconst 1, 1), (11, .goto 4, 3), (14, .iconst 0, 1), (15, .ireturn, 1)]
def cd_119 : List (Nat × Instr × Nat) := [(0, .iload_n 0, 1), (1, .ifCond .ge 8, 3), (4, .iload_n 0, 1), (5, .ineg, 1), (6, .goto 4, 3), (9, .iload_n 0, 1), (10, .ireturn, 1)]
def cd_120 : List (Nat × Instr × Nat) := [(0, .iload_n 0, 1), (1, .iload_n 1, 1), (2, .if_icmp .ge 7, 3), (5, .iload_n 0, 1), (6, .goto 4, 3), (9, .iload_n 1, 1), (10, .ireturn, 1)]
def cd_121 : List (Nat × Instr × Nat) := [(0, .aload_n 0, 1), (1, .getfield 30, 3), (4, .iconst 4, 1), (5, .if_icmp .ne 44, 3), (8, .iconst 0, 1), (9, .istore_n 1, 1), (10, .iload_n 1, 1), (11, .sipush 810, 3), (14, .if_icmp .ge 25, 3), (17, .aload_n 0, 1), (18, .getfield 13, 3), (21, .iload_n 1, 1), (22, .aload_n 0, 1), (23, .getfield 13, 3), (26, .iload_n 1, 1), (27, .sipush 270, 3), (30, .iadd, 1), (31, .iaload, 1), (32, .iastore, 1), (33, .iinc 1 1, 3), (36, .goto (-26), 3), (39, .aload_n 0, 1), (40, .dup, 1), (41, .getfield 30, 3), (44, .iconst 1, 1), (45, .isub, 1), (46, .putfield 30, 3), (49, .iconst 0, 1), (50, .istore_n 1, 1), (51, .iload_n 1, 1), (52, .sipush 270, 3), (55, .if_icmp .ge 30, 3), (58, .aload_n 0, 1), (59, .getfield 13, 3), (62, .sipush 270, 3), (65, .aload_n 0, 1), (66, .getfield 30, 3), (69, .imul, 1), (70, .iload_n 1, 1), (71, .iadd, 1), (72, .aload_n 0, 1), (73, .getfield 7, 3), (76, .iload_n 1, 1), (77, .iaload, 1), (78, .iastore, 1), (79, .iinc 1 1, 3), (82, .goto (-31), 3), (85, .aload_n 0, 1), (86, .dup, 1), (87, .getfield 30, 3), (90, .iconst 1, 1), (91, .iadd, 1), (92, .putfield 30, 3), (95, .return_, 1)]
def cd_122 : List (Nat × Instr × Nat) := [(0, .aload_n 0, 1), (1, .getfield 7, 3), (4, .iconst 0, 1), (5, .iaload, 1), (6, .aload_n 0, 1), (7, .getfield 7, 3), (10, .iconst 1, 1), (11, .iaload, 1), (12, .imul, 1), (13, .ireturn, 1)]
def cd_123 : List (Nat × Instr × Nat) := [(0, .iload_n 1, 1), (1, .iconst 0, 1), (2, .aload_n 0, 1), (3, .invokevirtual 33, 3), (6, .iconst 1, 1), (7, .isub, 1), (8, .invokestatic 37, 3), (11, .ireturn, 1)]
def cd_124 : List (Nat × Instr × Nat) := [(0, .iload_n 1, 1), (1, .iconst 0, 1), (2, .aload_n 0, 1), (3, .getfield 7, 3), (6, .iconst 5, 1), (7, .iaload, 1), (8, .iconst 1, 1), (9, .isub, 1), (10, .invokestatic 37, 3), (13, .ireturn, 1)]
def cd_125 : List (Nat × Instr × Nat) := [(0, .aload_n 0, 1), (1, .getfield 7, 3), (4, .bipush 6, 2), (6, .bipush 15, 2), (8, .iload_n 1, 1), (9, .imul, 1), (10, .iadd, 1), (11, .iload_n 2, 1), (12, .iadd, 1), (13, .iaload, 1), (14, .ireturn, 1)]
def cd_126 : List (Nat × Instr × Nat) := [(0, .aload_n 0, 1), (1, .getfield 7, 3), (4, .bipush 6, 2), (6, .bipush 15, 2), (8, .iload_n 1, 1), (9, .imul, 1), (10, .iadd, 1), (11, .iload_n 2, 1), (12, .iadd, 1), (13, .iload_n 3, 1), (14, .iastore, 1), (15, .return_, 1)]
def cd_127 : List (Nat × Instr × Nat) := [(0, .aload_n 0, 1), (1, .iload_n 1, 1), (2, .iconst 3, 1), (3, .invokevirtual 41, 3), (6, .ifCond .le 7, 3), (9, .iconst 1, 1), (10, .goto 4, 3), (13, .iconst 0, 1), (14, .ireturn, 1)]
def cd_128 : List (Nat × Instr × Nat) := [(0, .iload_n 0, 1), (1, .iconst 1, 1), (2, .if_icmp .eq 8, 3), (5, .iload_n 0, 1), (6, .iconst 2, 1), (7, .if_icmp .ne 7, 3), (10, .iconst 1, 1), (11, .goto 18, 3), (14, .iload_n 0, 1), (15, .iconst 4, 1), (16, .if_icmp .eq 8, 3), (19, .iload_n 0, 1), (20, .iconst 5, 1), (21, .if_icmp .ne 7, 3), (24, .iconst (-1), 1), (25, .goto 4, 3), (28, .iconst 0, 1), (29, .ireturn, 1)]
def cd_129 : List (Nat × Instr × Nat) := [(0, .iload_n 0, 1), (1, .ifCond .eq 8, 3), (4, .iload_n 0, 1), (5, .iconst 5, 1), (6, .if_icmp .ne 7, 3), (9, .iconst 1, 1), (10, .goto 18, 3), (13, .iload_n 0, 1), (14, .iconst 2, 1), (15, .if_icmp .eq 8, 3), (18, .iload_n 0, 1), (19, .iconst 3, 1), (20, .if_icmp .ne 7, 3), (23, .iconst (-1), 1), (24, .goto 4, 3), (27, .iconst 0, 1), (28, .ireturn, 1)]
def cd_130 : List (Nat × Instr × Nat) := [(0, .iload_n 1, 1), (1, .aload_n 0, 1), (2, .getfield 7, 3), (5, .iconst 0, 1), (6, .iaload, 1), (7, .idiv, 1), (8, .iload_n 2, 1), (9, .invokestatic 45, 3), (12, .iadd, 1), (13, .istore_n 3, 1), (14, .iload_n 1, 1), (15, .aload_n 0, 1), (16, .getfield 7, 3), (19, .iconst 0, 1), (20, .iaload, 1), (21, .irem, 1), (22, .iload_n 2, 1), (23, .invokestatic 49, 3), (26, .iadd, 1), (27, .istore 4, 2), (29, .iload_n 3, 1), (30, .iconst 0, 1), (31, .aload_n 0, 1), (32, .getfield 7, 3), (35, .iconst 1, 1), (36, .iaload, 1), (37, .iconst 1, 1), (38, .isub, 1), (39, .invokestatic 37, 3), (42, .ifCond .eq 34, 3), (45, .iload 4, 2), (47, .iconst 0, 1), (48, .aload_n 0, 1), (49, .getfield 7, 3), (52, .iconst 0, 1), (53, .iaload, 1), (54, .iconst 1, 1), (55, .isub, 1), (56, .invokestatic 37, 3), (59, .ifCond .eq 17, 3), (62, .aload_n 0, 1), (63, .getfield 7, 3), (66, .iconst 0, 1), (67, .iaload, 1), (68, .iload_n 3, 1), (69, .imul, 1), (70, .iload 4, 2), (72, .iadd, 1), (73, .goto 4, 3), (76, .iconst (-1), 1), (77, .ireturn, 1)]
def cd_131 : List (Nat × Instr × Nat) := [(0, .iconst 0, 1), (1, .istore_n 2, 1), (2, .iload_n 2, 1), (3, .aload_n 0, 1), (4, .getfield 7, 3), (7, .iconst 5, 1), (8, .iaload, 1), (9, .if_icmp .ge 29, 3), (12, .aload_n 0, 1), (13, .iload_n 2, 1), (14, .invokevirtual 52, 3), (17, .ifCond .eq 15, 3), (20, .aload_n 0, 1), (21, .iload_n 2, 1), (22, .iconst 1, 1), (23, .invokevirtual 41, 3), (26, .iload_n 1, 1), (27, .if_icmp .ne 5, 3), (30, .iload_n 2, 1), (31, .ireturn, 1), (32, .iinc 2 1, 3), (35, .goto (-33), 3), (38, .iconst (-1), 1), (39, .ireturn, 1)]
def cd_132 : List (Nat × Instr × Nat) := [(0, .aload_n 0, 1), (1, .getfield 7, 3), (4, .bipush 126, 2), (6, .iload_n 1, 1), (7, .iadd, 1), (8, .iaload, 1), (9, .iconst 1, 1), (10, .if_icmp .ne 8, 3), (13, .bipush (-2), 2), (15, .goto 8, 3), (18, .aload_n 0, 1), (19, .iload_n 1, 1), (20, .invokevirtual 56, 3), (23, .ireturn, 1)]
def cd_133 : List (Nat × Instr × Nat) := [(0, .iload_n 1, 1), (1, .iconst (-1), 1), (2, .if_icmp .eq 16, 3), (5, .aload_n 0, 1), (6, .iload_n 1, 1), (7, .invokevirtual 59, 3), (10, .iconst (-1), 1), (11, .if_icmp .ne 7, 3), (14, .iconst 1, 1), (15, .goto 4, 3), (18, .iconst 0, 1), (19, .ireturn, 1)]
def cd_134 : List (Nat × Instr × Nat) := [(0, .iload_n 2, 1), (1, .aload_n 0, 1), (2, .getfield 7, 3), (5, .iconst 0, 1), (6, .iaload, 1), (7, .idiv, 1), (8, .iload_n 1, 1), (9, .aload_n 0, 1), (10, .getfield 7, 3), (13, .iconst 0, 1), (14, .iaload, 1), (15, .idiv, 1), (16, .isub, 1), (17, .ireturn, 1)]
def cd_135 : List (Nat × Instr × Nat) := [(0, .iload_n 2, 1), (1, .aload_n 0, 1), (2, .getfield 7, 3), (5, .iconst 0, 1), (6, .iaload, 1), (7, .irem, 1), (8, .iload_n 1, 1), (9, .aload_n 0, 1), (10, .getfield 7, 3), (13, .iconst 0, 1), (14, .iaload, 1), (15, .irem, 1), (16, .isub, 1), (17, .ireturn, 1)]
def cd_136 : List (Nat × Instr × Nat) := [(0, .aload_n 0, 1), (1, .iload_n 1, 1), (2, .iload_n 2, 1), (3, .invokevirtual 62, 3), (6, .invokestatic 65, 3), (9, .istore_n 3, 1), (10, .aload_n 0, 1), (11, .iload_n 1, 1), (12, .iload_n 2, 1), (13, .invokevirtual 68, 3), (16, .invokestatic 65, 3), (19, .istore 4, 2), (21, .aload_n 0, 1), (22, .iload_n 1, 1), (23, .iload_n 2, 1), (24, .invokevirtual 62, 3), (27, .aload_n 0, 1), (28, .iload_n 1, 1), (29, .iload_n 2, 1), (30, .invokevirtual 68, 3), (33, .iadd, 1), (34, .invokestatic 65, 3), (37, .istore 5, 2), (39, .iload_n 3, 1), (40, .iload 4, 2), (42, .if_icmp .le 18, 3), (45, .iload_n 3, 1), (46, .iload 5, 2), (48, .if_icmp .le 7, 3), (51, .iload_n 3, 1), (52, .goto 22, 3), (55, .iload 5, 2), (57, .goto 17, 3), (60, .iload 4, 2), (62, .iload 5, 2), (64, .if_icmp .le 8, 3), (67, .iload 4, 2), (69, .goto 5, 3), (72, .iload 5, 2), (74, .ireturn, 1)]
def cd_137 : List (Nat × Instr × Nat) := [(0, .aload_n 0, 1), (1, .iload_n 1, 1), (2, .iload_n 2, 1), (3, .invokevirtual 62, 3), (6, .istore_n 3, 1), (7, .aload_n 0, 1), (8, .iload_n 1, 1), (9, .iload_n 2, 1), (10, .invokevirtual 68, 3), (13, .istore 4, 2), (15, .iconst 0, 1), (16, .istore 5, 2), (18, .iload 5, 2), (20, .bipush 6, 2), (22, .if_icmp .ge 111, 3), (25, .iload 5, 2), (27, .iconst 1, 1), (28, .iadd, 1), (29, .bipush 6, 2), (31, .irem, 1), (32, .istore 6, 2), (34, .iload 5, 2), (36, .invokestatic 45, 3), (39, .iload 6, 2), (41, .invokestatic 49, 3), (44, .imul, 1), (45, .iload 5, 2), (47, .invokestatic 49, 3), (50, .iload 6, 2), (52, .invokestatic 45, 3), (55, .imul, 1), (56, .isub, 1), (57, .istore 7, 2), (59, .iload_n 3, 1), (60, .iload 6, 2), (62, .invokestatic 49, 3), (65, .imul, 1), (66, .iload 4, 2), (68, .iload 6, 2), (70, .invokestatic 45, 3), (73, .imul, 1), (74, .isub, 1), (75, .iload 7, 2), (77, .idiv, 1), (78, .istore 8, 2), (80, .iload 5, 2), (82, .invokestatic 45, 3), (85, .iload 4, 2), (87, .imul, 1), (88, .iload 5, 2), (90, .invokestatic 49, 3), (93, .iload_n 3, 1), (94, .imul, 1), (95, .isub, 1), (96, .iload 7, 2), (98, .idiv, 1), (99, .istore 9, 2), (101, .iload 8, 2), (103, .ifCond .le 24, 3), (106, .iload 9, 2), (108, .ifCond .lt 19, 3), (111, .iload 9, 2), (113, .ifCond .ne 11, 3), (116, .iload 5, 2), (118, .bipush 10, 2), (120, .iadd, 1), (121, .goto 5, 3), (124, .iload 5, 2), (126, .ireturn, 1), (127, .iinc 5 1, 3), (130, .goto (-112), 3), (133, .iconst (-1), 1), (134, .ireturn, 1)]
def cd_138 : List (Nat × Instr × Nat) := [(0, .aload_n 0, 1), (1, .aload_n 0, 1), (2, .iload_n 1, 1), (3, .iconst 1, 1), (4, .invokevirtual 41, 3), (7, .iload_n 2, 1), (8, .invokevirtual 71, 3), (11, .istore_n 3, 1), (12, .iload_n 3, 1), (13, .bipush 10, 2), (15, .irem, 1), (16, .aload_n 0, 1), (17, .iload_n 1, 1), (18, .iconst 2, 1), (19, .invokevirtual 41, 3), (22, .isub, 1), (23, .bipush 6, 2), (25, .iadd, 1), (26, .bipush 6, 2), (28, .irem, 1), (29, .istore 4, 2), (31, .iload_n 3, 1), (32, .bipush 10, 2), (34, .if_icmp .lt 7, 3), (37, .iconst 1, 1), (38, .goto 4, 3), (41, .iconst 0, 1), (42, .istore 5, 2), (44, .iload 4, 2), (46, .iconst 1, 1), (47, .if_icmp .eq 14, 3), (50, .iload 4, 2), (52, .iconst 2, 1), (53, .if_icmp .ne 12, 3), (56, .iload 5, 2), (58, .ifCond .eq 7, 3), (61, .iconst 1, 1), (62, .goto 25, 3), (65, .iload 4, 2), (67, .iconst 4, 1), (68, .if_icmp .eq 14, 3), (71, .iload 4, 2), (73, .iconst 5, 1), (74, .if_icmp .ne 12, 3), (77, .iload 5, 2), (79, .ifCond .eq 7, 3), (82, .iconst 0, 1), (83, .goto 4, 3), (86, .iconst (-1), 1), (87, .ireturn, 1)]
def cd_139 : List (Nat × Instr × Nat) := [(0, .aload_n 0, 1), (1, .iload_n 1, 1), (2, .iload_n 2, 1), (3, .invokevirtual 71, 3), (6, .istore_n 3, 1), (7, .iload_n 3, 1), (8, .bipush 10, 2), (10, .if_icmp .ge 5, 3), (13, .iconst 0, 1), (14, .ireturn, 1), (15, .aload_n 0, 1), (16, .iload_n 1, 1), (17, .iload_n 3, 1), (18, .bipush 10, 2), (20, .isub, 1), (21, .invokevirtual 74, 3), (24, .istore 4, 2), (26, .iconst 0, 1), (27, .istore 5, 2), (29, .iload 4, 2), (31, .iload_n 2, 1), (32, .if_icmp .eq 40, 3), (35, .iload 5, 2), (37, .ifCond .ne 13, 3), (40, .aload_n 0, 1), (41, .iload 4, 2), (43, .invokevirtual 59, 3), (46, .iconst (-1), 1), (47, .if_icmp .eq 7, 3), (50, .iconst 1, 1), (51, .goto 4, 3), (54, .iconst 0, 1), (55, .istore 5, 2), (57, .aload_n 0, 1), (58, .iload 4, 2), (60, .iload_n 3, 1), (61, .bipush 10, 2), (63, .isub, 1), (64, .invokevirtual 74, 3), (67, .istore 4, 2), (69, .goto (-40), 3), (72, .iload 5, 2), (74, .ireturn, 1)]
def cd_140 : List (Nat × Instr × Nat) := [(0, .aload_n 0, 1), (1, .iload_n 1, 1), (2, .iconst 4, 1), (3, .bipush 12, 2), (5, .invokestatic 37, 3), (8, .ifCond .eq 17, 3), (11, .iload_n 2, 1), (12, .iconst 4, 1), (13, .bipush 12, 2), (15, .invokestatic 37, 3), (18, .ifCond .eq 7, 3), (21, .iconst 0, 1), (22, .goto 4, 3), (25, .iconst 1, 1), (26, .putfield 26, 3), (29, .aload_n 0, 1), (30, .getfield 26, 3), (33, .ifCond .eq 5, 3), (36, .iconst 0, 1), (37, .ireturn, 1), (38, .aload_n 0, 1), (39, .invokevirtual 77, 3), (42, .aload_n 0, 1), (43, .getfield 7, 3), (46, .iconst 5, 1), (47, .iaload, 1), (48, .istore_n 3, 1), (49, .aload_n 0, 1), (50, .iload_n 1, 1), (51, .iload_n 2, 1), (52, .invokevirtual 22, 3), (55, .iload_n 3, 1), (56, .ireturn, 1)]
def cd_141 : List (Nat × Instr × Nat) := [(0, .aload_n 0, 1), (1, .aload_n 0, 1), (2, .iload_n 1, 1), (3, .invokevirtual 80, 3), (6, .ifCond .ne 7, 3), (9, .iconst 1, 1), (10, .goto 17, 3), (13, .aload_n 0, 1), (14, .iload_n 1, 1), (15, .invokevirtual 56, 3), (18, .iconst (-1), 1), (19, .if_icmp .eq 7, 3), (22, .iconst 2, 1), (23, .goto 4, 3), (26, .iconst 0, 1), (27, .putfield 26, 3), (30, .aload_n 0, 1), (31, .getfield 26, 3), (34, .ifCond .eq 5, 3), (37, .iconst 0, 1), (38, .ireturn, 1), (39, .aload_n 0, 1), (40, .invokevirtual 77, 3), (43, .aload_n 0, 1), (44, .getfield 7, 3), (47, .bipush 126, 2), (49, .iload_n 1, 1), (50, .iadd, 1), (51, .iaload, 1), (52, .istore_n 3, 1), (53, .aload_n 0, 1), (54, .getfield 7, 3), (57, .bipush 126, 2), (59, .iload_n 1, 1), (60, .iadd, 1), (61, .iload_n 2, 1), (62, .ifCond .eq 7, 3), (65, .iconst 1, 1), (66, .goto 4, 3), (69, .iconst 0, 1), (70, .iastore, 1), (71, .iload_n 3, 1), (72, .ireturn, 1)]
def cd_142 : List (Nat × Instr × Nat) := [(0, .aload_n 0, 1), (1, .iload_n 1, 1), (2, .iconst 0, 1), (3, .iconst 5, 1), (4, .invokestatic 37, 3), (7, .ifCond .eq 16, 3), (10, .iload_n 2, 1), (11, .iconst 0, 1), (12, .iconst 3, 1), (13, .invokestatic 37, 3), (16, .ifCond .eq 7, 3), (19, .iconst 0, 1), (20, .goto 4, 3), (23, .iconst 1, 1), (24, .putfield 26, 3), (27, .aload_n 0, 1), (28, .getfield 26, 3), (31, .ifCond .eq 5, 3), (34, .iconst 0, 1), (35, .ireturn, 1), (36, .aload_n 0, 1), (37, .invokevirtual 77, 3), (40, .aload_n 0, 1), (41, .getfield 7, 3), (44, .iconst 2, 1), (45, .iaload, 1), (46, .istore_n 3, 1), (47, .aload_n 0, 1), (48, .getfield 7, 3), (51, .iconst 2, 1), (52, .iload_n 1, 1), (53, .iastore, 1), (54, .aload_n 0, 1), (55, .getfield 7, 3), (58, .iconst 3, 1), (59, .iload_n 2, 1), (60, .iastore, 1), (61, .iload_n 3, 1), (62, .ireturn, 1)]
def cd_143 : List (Nat × Instr × Nat) := [(0, .iload_n 0, 1), (1, .iload_n 1, 1), (2, .isub, 1), (3, .bipush 6, 2), (5, .iadd, 1), (6, .bipush 6, 2), (8, .irem, 1), (9, .istore_n 2, 1), (10, .iload_n 2, 1), (11, .iconst 3, 1), (12, .if_icmp .le 10, 3), (15, .bipush 6, 2), (17, .iload_n 2, 1), (18, .isub, 1), (19, .goto 4, 3), (22, .iload_n 2, 1), (23, .ireturn, 1)]
def cd_144 : List (Nat × Instr × Nat) := [(0, .aload_n 0, 1), (1, .iload_n 1, 1), (2, .iconst 2, 1), (3, .invokevirtual 41, 3), (6, .iload_n 2, 1), (7, .invokestatic 83, 3), (10, .istore_n 3, 1), (11, .iload_n 3, 1), (12, .ifCond .ne 7, 3), (15, .iconst 2, 1), (16, .goto 22, 3), (19, .iload_n 3, 1), (20, .iconst 1, 1), (21, .if_icmp .ne 7, 3), (24, .iconst 3, 1), (25, .goto 13, 3), (28, .iload_n 3, 1), (29, .iconst 2, 1), (30, .if_icmp .ne 7, 3), (33, .iconst 1, 1), (34, .goto 4, 3), (37, .iconst 0, 1), (38, .istore 4, 2), (40, .iload 4, 2), (42, .aload_n 0, 1), (43, .getfield 7, 3), (46, .iconst 3, 1), (47, .iaload, 1), (48, .imul, 1), (49, .aload_n 0, 1), (50, .iload_n 1, 1), (51, .iconst 4, 1), (52, .invokevirtual 41, 3), (55, .imul, 1), (56, .bipush 19, 2), (58, .iadd, 1), (59, .bipush 20, 2), (61, .idiv, 1), (62, .ireturn, 1)]
def cd_145 : List (Nat × Instr × Nat) := [(0, .aload_n 0, 1), (1, .iload_n 1, 1), (2, .aload_n 0, 1), (3, .getfield 7, 3), (6, .iconst 2, 1), (7, .iaload, 1), (8, .invokevirtual 86, 3), (11, .ireturn, 1)]
def cd_146 : List (Nat × Instr × Nat) := [(0, .aload_n 0, 1), (1, .iload_n 1, 1), (2, .invokevirtual 89, 3), (5, .istore_n 2, 1), (6, .aload_n 0, 1), (7, .iload_n 1, 1), (8, .bipush 8, 2), (10, .iload_n 2, 1), (11, .ifCond .ne 16, 3), (14, .aload_n 0, 1), (15, .iload_n 1, 1), (16, .iconst 4, 1), (17, .invokevirtual 41, 3), (20, .ifCond .le 7, 3), (23, .iconst 1, 1), (24, .goto 4, 3), (27, .iload_n 2, 1), (28, .invokevirtual 92, 3), (31, .aload_n 0, 1), (32, .iload_n 1, 1), (33, .bipush 13, 2), (35, .iconst 0, 1), (36, .invokevirtual 92, 3), (39, .aload_n 0, 1), (40, .iload_n 1, 1), (41, .bipush 14, 2), (43, .iconst 0, 1), (44, .invokevirtual 92, 3), (47, .return_, 1)]
def cd_147 : List (Nat × Instr × Nat) := [(0, .iload_n 1, 1), (1, .iconst 0, 1), (2, .iconst 1, 1), (3, .invokestatic 37, 3), (6, .ifCond .eq 48, 3), (9, .iload_n 2, 1), (10, .iconst 0, 1), (11, .iconst 5, 1), (12, .invokestatic 37, 3), (15, .ifCond .eq 39, 3), (18, .iload_n 3, 1), (19, .iconst 1, 1), (20, .bipush 60, 2), (22, .invokestatic 37, 3), (25, .ifCond .eq 29, 3), (28, .iload 4, 2), (30, .iconst 0, 1), (31, .bipush 12, 2), (33, .invokestatic 37, 3), (36, .ifCond .eq 18, 3), (39, .iload 5, 2), (41, .iconst 1, 1), (42, .bipush 60, 2), (44, .invokestatic 37, 3), (47, .ifCond .eq 7, 3), (50, .iconst 1, 1), (51, .goto 4, 3), (54, .iconst 0, 1), (55, .ireturn, 1)]
def cd_148 : List (Nat × Instr × Nat) := [(0, .aload_n 0, 1), (1, .aload_n 0, 1), (2, .iload_n 2, 1), (3, .invokevirtual 80, 3), (6, .ifCond .ne 7, 3), (9, .iconst 1, 1), (10, .goto 46, 3), (13, .aload_n 0, 1), (14, .iload_n 1, 1), (15, .iload_n 3, 1), (16, .iload 4, 2), (18, .iload 5, 2), (20, .iload 6, 2), (22, .invokevirtual 96, 3), (25, .ifCond .ne 7, 3), (28, .iconst 2, 1), (29, .goto 27, 3), (32, .aload_n 0, 1), (33, .getfield 7, 3), (36, .iconst 5, 1), (37, .iaload, 1), (38, .bipush 8, 2), (40, .if_icmp .eq 11, 3), (43, .aload_n 0, 1), (44, .iload_n 2, 1), (45, .invokevirtual 100, 3), (48, .ifCond .ne 7, 3), (51, .iconst 3, 1), (52, .goto 4, 3), (55, .iconst 0, 1), (56, .putfield 26, 3), (59, .aload_n 0, 1), (60, .getfield 26, 3), (63, .ifCond .eq 5, 3), (66, .iconst 0, 1), (67, .ireturn, 1), (68, .aload_n 0, 1), (69, .invokevirtual 77, 3), (72, .aload_n 0, 1), (73, .getfield 7, 3), (76, .iconst 5, 1), (77, .iaload, 1), (78, .istore 7, 2), (80, .aload_n 0, 1), (81, .getfield 7, 3), (84, .iconst 5, 1), (85, .dup2, 1), (86, .iaload, 1), (87, .iconst 1, 1), (88, .iadd, 1), (89, .iastore, 1), (90, .aload_n 0, 1), (91, .iload 7, 2), (93, .iconst 0, 1), (94, .iload_n 1, 1), (95, .invokevirtual 92, 3), (98, .aload_n 0, 1), (99, .iload 7, 2), (101, .iconst 1, 1), (102, .iload_n 2, 1), (103, .invokevirtual 92, 3), (106, .aload_n 0, 1), (107, .iload 7, 2), (109, .iconst 2, 1), (110, .iload_n 3, 1), (111, .invokevirtual 92, 3), (114, .aload_n 0, 1), (115, .iload 7, 2), (117, .iconst 3, 1), (118, .iload 4, 2), (120, .invokevirtual 92, 3), (123, .aload_n 0, 1), (124, .iload 7, 2), (126, .iconst 4, 1), (127, .bipush 20, 2), (129, .invokevirtual 92, 3), (132, .aload_n 0, 1), (133, .iload 7, 2), (135, .iconst 5, 1), (136, .iload 5, 2), (138, .invokevirtual 92, 3), (141, .aload_n 0, 1), (142, .iload 7, 2), (144, .bipush 6, 2), (146, .iload 5, 2), (148, .invokevirtual 92, 3), (151, .aload_n 0, 1), (152, .iload 7, 2), (154, .bipush 7, 2), (156, .iload 6, 2), (158, .invokevirtual 92, 3), (161, .aload_n 0, 1), (162, .iload 7, 2), (164, .bipush 12, 2), (166, .iload 6, 2), (168, .invokevirtual 92, 3), (171, .aload_n 0, 1), (172, .iload 7, 2), (174, .bipush 9, 2), (176, .iconst 0, 1), (177, .invokevirtual 92, 3), (180, .aload_n 0, 1), (181, .iload 7, 2), (183, .bipush 10, 2), (185, .iconst 0, 1), (186, .invokevirtual 92, 3), (189, .aload_n 0, 1), (190, .iload 7, 2), (192, .bipush 11, 2), (194, .iconst (-1), 1), (195, .invokevirtual 92, 3), (198, .aload_n 0, 1), (199, .iload 7, 2), (201, .invokevirtual 103, 3), (204, .iload 7, 2), (206, .ireturn, 1)]
def cd_149 : List (Nat × Instr × Nat) := [(0, .iconst 0, 1), (1, .istore_n 2, 1), (2, .iconst 0, 1), (3, .istore_n 3, 1), (4, .iload_n 3, 1), (5, .aload_n 0, 1), (6, .getfield 7, 3), (9, .iconst 5, 1), (10, .iaload, 1), (11, .if_icmp .ge 35, 3), (14, .iload_n 2, 1), (15, .aload_n 0, 1), (16, .iload_n 3, 1), (17, .iconst 0, 1), (18, .invokevirtual 41, 3), (21, .iload_n 1, 1), (22, .if_icmp .ne 15, 3), (25, .aload_n 0, 1), (26, .iload_n 3, 1), (27, .invokevirtual 52, 3), (30, .ifCond .eq 7, 3), (33, .iconst 1, 1), (34, .goto 4, 3), (37, .iconst 0, 1), (38, .iadd, 1), (39, .istore_n 2, 1), (40, .iinc 3 1, 3), (43, .goto (-39), 3), (46, .iload_n 2, 1), (47, .ireturn, 1)]
def cd_150 : List (Nat × Instr × Nat) := [(0, .iconst 0, 1), (1, .istore_n 2, 1), (2, .iconst (-1), 1), (3, .istore_n 3, 1), (4, .iconst 0, 1), (5, .istore 4, 2), (7, .iload 4, 2), (9, .aload_n 0, 1), (10, .invokevirtual 33, 3), (13, .if_icmp .ge 43, 3), (16, .iload_n 2, 1), (17, .aload_n 0, 1), (18, .getfield 7, 3), (21, .bipush 126, 2), (23, .iload 4, 2), (25, .iadd, 1), (26, .iaload, 1), (27, .iadd, 1), (28, .istore_n 2, 1), (29, .aload_n 0, 1), (30, .getfield 7, 3), (33, .bipush 126, 2), (35, .iload 4, 2), (37, .iadd, 1), (38, .iaload, 1), (39, .iconst 1, 1), (40, .if_icmp .ne 8, 3), (43, .iload 4, 2), (45, .goto 4, 3), (48, .iload_n 3, 1), (49, .istore_n 3, 1), (50, .iinc 4 1, 3), (53, .goto (-46), 3), (56, .iload_n 1, 1), (57, .ifCond .eq 7, 3), (60, .iload_n 3, 1), (61, .goto 4, 3), (64, .iload_n 2, 1), (65, .ireturn, 1)]
def cd_151 : List (Nat × Instr × Nat) := [(0, .iload_n 1, 1), (1, .bipush 6, 2), (3, .if_icmp .ge 12, 3), (6, .aload_n 0, 1), (7, .getfield 7, 3), (10, .iload_n 1, 1), (11, .iaload, 1), (12, .goto 35, 3), (15, .iload_n 1, 1), (16, .bipush 8, 2), (18, .if_icmp .ge 14, 3), (21, .aload_n 0, 1), (22, .iload_n 1, 1), (23, .bipush 6, 2), (25, .isub, 1), (26, .invokevirtual 107, 3), (29, .goto 18, 3), (32, .aload_n 0, 1), (33, .iload_n 1, 1), (34, .bipush 9, 2), (36, .if_icmp .ne 7, 3), (39, .iconst 1, 1), (40, .goto 4, 3), (43, .iconst 0, 1), (44, .invokevirtual 110, 3), (47, .ireturn, 1)]
def cd_152 : List (Nat × Instr × Nat) := [(0, .aload_n 0, 1), (1, .iload_n 1, 1), (2, .iconst 0, 1), (3, .bipush 9, 2), (5, .invokestatic 37, 3), (8, .ifCond .eq 7, 3), (11, .iconst 0, 1), (12, .goto 4, 3), (15, .iconst 1, 1), (16, .putfield 26, 3), (19, .aload_n 0, 1), (20, .getfield 26, 3), (23, .ifCond .eq 7, 3), (26, .iconst 0, 1), (27, .goto 8, 3), (30, .aload_n 0, 1), (31, .iload_n 1, 1), (32, .invokevirtual 114, 3), (35, .ireturn, 1)]
def cd_153 : List (Nat × Instr × Nat) := [(0, .iload_n 2, 1), (1, .lookupswitch 92 #[(1, 43), (12, 62), (13, 68), (14, 84)], 43), (44, .aload_n 0, 1), (45, .iload_n 1, 1), (46, .invokevirtual 52, 3), (49, .ifCond .eq 12, 3), (52, .aload_n 0, 1), (53, .iload_n 1, 1), (54, .iconst 1, 1), (55, .invokevirtual 41, 3), (58, .goto 4, 3), (61, .iconst (-1), 1), (62, .ireturn, 1), (63, .aload_n 0, 1), (64, .iload_n 1, 1), (65, .invokevirtual 89, 3), (68, .ireturn, 1), (69, .aload_n 0, 1), (70, .iload_n 1, 1), (71, .iconst 2, 1), (72, .invokevirtual 41, 3), (75, .aload_n 0, 1), (76, .getfield 7, 3), (79, .iconst 2, 1), (80, .iaload, 1), (81, .invokestatic 83, 3), (84, .ireturn, 1), (85, .aload_n 0, 1), (86, .iload_n 1, 1), (87, .bipush 14, 2), (89, .invokevirtual 41, 3), (92, .ireturn, 1), (93, .aload_n 0, 1), (94, .iload_n 1, 1), (95, .iload_n 2, 1), (96, .invokevirtual 41, 3), (99, .ireturn, 1)]
def cd_154 : List (Nat × Instr × Nat) := [(0, .aload_n 0, 1), (1, .aload_n 0, 1), (2, .iload_n 1, 1), (3, .invokevirtual 117, 3), (6, .ifCond .ne 7, 3), (9, .iconst 1, 1), (10, .goto 18, 3), (13, .iload_n 2, 1), (14, .iconst 0, 1), (15, .bipush 14, 2), (17, .invokestatic 37, 3), (20, .ifCond .eq 7, 3), (23, .iconst 0, 1), (24, .goto 4, 3), (27, .iconst 2, 1), (28, .putfield 26, 3), (31, .aload_n 0, 1), (32, .getfield 26, 3), (35, .ifCond .eq 7, 3), (38, .iconst 0, 1), (39, .goto 9, 3), (42, .aload_n 0, 1), (43, .iload_n 1, 1), (44, .iload_n 2, 1), (45, .invokevirtual 120, 3), (48, .ireturn, 1)]
def cd_155 : List (Nat × Instr × Nat) := [(0, .aload_n 0, 1), (1, .aload_n 0, 1), (2, .iload_n 1, 1), (3, .invokevirtual 80, 3), (6, .ifCond .eq 7, 3), (9, .iconst 0, 1), (10, .goto 4, 3), (13, .iconst 1, 1), (14, .putfield 26, 3), (17, .aload_n 0, 1), (18, .getfield 26, 3), (21, .ifCond .eq 7, 3), (24, .iconst 0, 1), (25, .goto 8, 3), (28, .aload_n 0, 1), (29, .iload_n 1, 1), (30, .invokevirtual 59, 3), (33, .ireturn, 1)]
def cd_156 : List (Nat × Instr × Nat) := [(0, .aload_n 0, 1), (1, .aload_n 0, 1), (2, .iload_n 1, 1), (3, .invokevirtual 80, 3), (6, .ifCond .eq 15, 3), (9, .aload_n 0, 1), (10, .iload_n 2, 1), (11, .invokevirtual 80, 3), (14, .ifCond .eq 7, 3), (17, .iconst 0, 1), (18, .goto 4, 3), (21, .iconst 1, 1), (22, .putfield 26, 3), (25, .aload_n 0, 1), (26, .getfield 26, 3), (29, .ifCond .eq 7, 3), (32, .iconst 0, 1), (33, .goto 9, 3), (36, .aload_n 0, 1), (37, .iload_n 1, 1), (38, .iload_n 2, 1), (39, .invokevirtual 123, 3), (42, .ireturn, 1)]
def cd_157 : List (Nat × Instr × Nat) := [(0, .aload_n 0, 1), (1, .aload_n 0, 1), (2, .iload_n 1, 1), (3, .invokevirtual 80, 3), (6, .ifCond .eq 15, 3), (9, .aload_n 0, 1), (10, .iload_n 2, 1), (11, .invokevirtual 80, 3), (14, .ifCond .eq 7, 3), (17, .iconst 0, 1), (18, .goto 4, 3), (21, .iconst 1, 1), (22, .putfield 26, 3), (25, .aload_n 0, 1), (26, .getfield 26, 3), (29, .ifCond .eq 7, 3), (32, .iconst 0, 1), (33, .goto 9, 3), (36, .aload_n 0, 1), (37, .iload_n 1, 1), (38, .iload_n 2, 1), (39, .invokevirtual 71, 3), (42, .ireturn, 1)]
def cd_158 : List (Nat × Instr × Nat) := [(0, .aload_n 0, 1), (1, .iload_n 1, 1), (2, .invokevirtual 52, 3), (5, .ifCond .eq 37, 3), (8, .aload_n 0, 1), (9, .iload_n 1, 1), (10, .iconst 4, 1), (11, .invokevirtual 41, 3), (14, .ifCond .le 28, 3), (17, .aload_n 0, 1), (18, .iload_n 1, 1), (19, .bipush 11, 2), (21, .invokevirtual 41, 3), (24, .iconst (-1), 1), (25, .if_icmp .ne 17, 3), (28, .aload_n 0, 1), (29, .iload_n 1, 1), (30, .bipush 8, 2), (32, .invokevirtual 41, 3), (35, .ifCond .le 7, 3), (38, .iconst 1, 1), (39, .goto 4, 3), (42, .iconst 0, 1), (43, .ireturn, 1)]
def cd_159 : List (Nat × Instr × Nat) := [(0, .aload_n 0, 1), (1, .iload_n 1, 1), (2, .invokevirtual 117, 3), (5, .ifCond .ne 5, 3), (8, .iconst 1, 1), (9, .ireturn, 1), (10, .aload_n 0, 1), (11, .iload_n 1, 1), (12, .invokevirtual 126, 3), (15, .ifCond .eq 49, 3), (18, .aload_n 0, 1), (19, .iload_n 1, 1), (20, .iconst 2, 1), (21, .invokevirtual 41, 3), (24, .aload_n 0, 1), (25, .getfield 7, 3), (28, .iconst 2, 1), (29, .iaload, 1), (30, .invokestatic 83, 3), (33, .iconst 3, 1), (34, .if_icmp .ge 30, 3), (37, .aload_n 0, 1), (38, .aload_n 0, 1), (39, .aload_n 0, 1), (40, .iload_n 1, 1), (41, .iconst 1, 1), (42, .invokevirtual 41, 3), (45, .aload_n 0, 1), (46, .iload_n 1, 1), (47, .iconst 2, 1), (48, .invokevirtual 41, 3), (51, .invokevirtual 74, 3), (54, .invokevirtual 100, 3), (57, .ifCond .eq 7, 3), (60, .iconst 1, 1), (61, .goto 4, 3), (64, .iconst 0, 1), (65, .istore_n 2, 1), (66, .iload_n 2, 1), (67, .ifCond .eq 7, 3), (70, .iconst 0, 1), (71, .goto 4, 3), (74, .iconst 2, 1), (75, .ireturn, 1)]
def cd_160 : List (Nat × Instr × Nat) := [(0, .aload_n 0, 1), (1, .iload_n 1, 1), (2, .iconst 1, 1), (3, .aload_n 0, 1), (4, .aload_n 0, 1), (5, .iload_n 1, 1), (6, .iconst 1, 1), (7, .invokevirtual 41, 3), (10, .aload_n 0, 1), (11, .iload_n 1, 1), (12, .iconst 2, 1), (13, .invokevirtual 41, 3), (16, .invokevirtual 74, 3), (19, .invokevirtual 92, 3), (22, .aload_n 0, 1), (23, .iload_n 1, 1), (24, .bipush 8, 2), (26, .aload_n 0, 1), (27, .iload_n 1, 1), (28, .bipush 8, 2), (30, .invokevirtual 41, 3), (33, .iconst 1, 1), (34, .isub, 1), (35, .invokevirtual 92, 3), (38, .aload_n 0, 1), (39, .iload_n 1, 1), (40, .bipush 13, 2), (42, .iconst 1, 1), (43, .invokevirtual 92, 3), (46, .aload_n 0, 1), (47, .iload_n 1, 1), (48, .iconst 1, 1), (49, .invokevirtual 41, 3), (52, .ireturn, 1)]
def cd_161 : List (Nat × Instr × Nat) := [(0, .aload_n 0, 1), (1, .aload_n 0, 1), (2, .iload_n 1, 1), (3, .invokevirtual 129, 3), (6, .putfield 26, 3), (9, .aload_n 0, 1), (10, .getfield 26, 3), (13, .ifCond .eq 5, 3), (16, .iconst 0, 1), (17, .ireturn, 1), (18, .aload_n 0, 1), (19, .invokevirtual 77, 3), (22, .aload_n 0, 1), (23, .iload_n 1, 1), (24, .invokevirtual 132, 3), (27, .ireturn, 1)]
def cd_162 : List (Nat × Instr × Nat) := [(0, .iload_n 0, 1), (1, .iload_n 1, 1), (2, .ifCond .eq 7, 3), (5, .iconst 1, 1), (6, .goto 4, 3), (9, .iconst 5, 1), (10, .iadd, 1), (11, .bipush 6, 2), (13, .irem, 1), (14, .ireturn, 1)]
def cd_163 : List (Nat × Instr × Nat) := [(0, .aload_n 0, 1), (1, .iload_n 1, 1), (2, .invokevirtual 117, 3), (5, .ifCond .ne 5, 3), (8, .iconst 1, 1), (9, .ireturn, 1), (10, .aload_n 0, 1), (11, .iload_n 1, 1), (12, .invokevirtual 126, 3), (15, .ifCond .eq 41, 3), (18, .aload_n 0, 1), (19, .iload_n 1, 1), (20, .iconst 2, 1), (21, .invokevirtual 41, 3), (24, .iload_n 2, 1), (25, .invokestatic 135, 3), (28, .aload_n 0, 1), (29, .getfield 7, 3), (32, .iconst 2, 1), (33, .iaload, 1), (34, .invokestatic 83, 3), (37, .iconst 3, 1), (38, .if_icmp .lt 14, 3), (41, .aload_n 0, 1), (42, .iload_n 1, 1), (43, .bipush 13, 2), (45, .invokevirtual 41, 3), (48, .iconst 1, 1), (49, .if_icmp .ne 7, 3), (52, .iconst 1, 1), (53, .goto 4, 3), (56, .iconst 0, 1), (57, .istore_n 3, 1), (58, .iload_n 3, 1), (59, .ifCond .eq 7, 3), (62, .iconst 0, 1), (63, .goto 4, 3), (66, .iconst 2, 1), (67, .ireturn, 1)]
def cd_164 : List (Nat × Instr × Nat) := [(0, .aload_n 0, 1), (1, .iload_n 1, 1), (2, .iconst 2, 1), (3, .aload_n 0, 1), (4, .iload_n 1, 1), (5, .iconst 2, 1), (6, .invokevirtual 41, 3), (9, .iload_n 2, 1), (10, .invokestatic 135, 3), (13, .invokevirtual 92, 3), (16, .aload_n 0, 1), (17, .iload_n 1, 1), (18, .bipush 8, 2), (20, .aload_n 0, 1), (21, .iload_n 1, 1), (22, .bipush 8, 2), (24, .invokevirtual 41, 3), (27, .iconst 1, 1), (28, .isub, 1), (29, .invokevirtual 92, 3), (32, .aload_n 0, 1), (33, .iload_n 1, 1), (34, .bipush 13, 2), (36, .iconst 0, 1), (37, .invokevirtual 92, 3), (40, .aload_n 0, 1), (41, .iload_n 1, 1), (42, .iconst 2, 1), (43, .invokevirtual 41, 3), (46, .ireturn, 1)]
def cd_165 : List (Nat × Instr × Nat) := [(0, .aload_n 0, 1), (1, .aload_n 0, 1), (2, .iload_n 1, 1), (3, .iload_n 2, 1), (4, .invokevirtual 139, 3), (7, .putfield 26, 3), (10, .aload_n 0, 1), (11, .getfield 26, 3), (14, .ifCond .eq 5, 3), (17, .iconst 0, 1), (18, .ireturn, 1), (19, .aload_n 0, 1), (20, .invokevirtual 77, 3), (23, .aload_n 0, 1), (24, .iload_n 1, 1), (25, .iload_n 2, 1), (26, .invokevirtual 142, 3), (29, .ireturn, 1)]
def cd_166 : List (Nat × Instr × Nat) := [(0, .iconst 0, 1), (1, .istore_n 1, 1), (2, .iconst 0, 1), (3, .istore_n 2, 1), (4, .iload_n 2, 1), (5, .aload_n 0, 1), (6, .getfield 7, 3), (9, .iconst 5, 1), (10, .iaload, 1), (11, .if_icmp .ge 104, 3), (14, .aload_n 0, 1), (15, .iload_n 2, 1), (16, .invokevirtual 52, 3), (19, .ifCond .eq 36, 3), (22, .aload_n 0, 1), (23, .iload_n 2, 1), (24, .iconst 4, 1), (25, .invokevirtual 41, 3), (28, .ifCond .ne 27, 3), (31, .aload_n 0, 1), (32, .iload_n 2, 1), (33, .bipush 11, 2), (35, .invokevirtual 41, 3), (38, .iconst (-1), 1), (39, .if_icmp .ne 16, 3), (42, .aload_n 0, 1), (43, .getfield 7, 3), (46, .iconst 3, 1), (47, .iaload, 1), (48, .ifCond .le 7, 3), (51, .iconst 1, 1), (52, .goto 4, 3), (55, .iconst 0, 1), (56, .istore_n 3, 1), (57, .iload_n 3, 1), (58, .ifCond .eq 51, 3), (61, .aload_n 0, 1), (62, .aload_n 0, 1), (63, .aload_n 0, 1), (64, .iload_n 2, 1), (65, .iconst 1, 1), (66, .invokevirtual 41, 3), (69, .aload_n 0, 1), (70, .getfield 7, 3), (73, .iconst 2, 1), (74, .iaload, 1), (75, .invokevirtual 74, 3), (78, .invokevirtual 100, 3), (81, .ifCond .eq 28, 3), (84, .aload_n 0, 1), (85, .iload_n 2, 1), (86, .iconst 1, 1), (87, .aload_n 0, 1), (88, .aload_n 0, 1), (89, .iload_n 2, 1), (90, .iconst 1, 1), (91, .invokevirtual 41, 3), (94, .aload_n 0, 1), (95, .getfield 7, 3), (98, .iconst 2, 1), (99, .iaload, 1), (100, .invokevirtual 74, 3), (103, .invokevirtual 92, 3), (106, .iinc 1 1, 3), (109, .iinc 2 1, 3), (112, .goto (-108), 3), (115, .aload_n 0, 1), (116, .getfield 7, 3), (119, .iconst 4, 1), (120, .dup2, 1), (121, .iaload, 1), (122, .iconst 1, 1), (123, .iadd, 1), (124, .iastore, 1), (125, .iconst 0, 1), (126, .istore_n 2, 1), (127, .iload_n 2, 1), (128, .aload_n 0, 1), (129, .getfield 7, 3), (132, .iconst 5, 1), (133, .iaload, 1), (134, .if_icmp .ge 63, 3), (137, .iconst 0, 1), (138, .istore_n 3, 1), (139, .iload_n 3, 1), (140, .iconst 2, 1), (141, .if_icmp .ge 45, 3), (144, .aload_n 0, 1), (145, .iload_n 2, 1), (146, .bipush 9, 2), (148, .iload_n 3, 1), (149, .iadd, 1), (150, .aload_n 0, 1), (151, .iload_n 2, 1), (152, .bipush 9, 2), (154, .iload_n 3, 1), (155, .iadd, 1), (156, .invokevirtual 41, 3), (159, .ifCond .le 17, 3), (162, .aload_n 0, 1), (163, .iload_n 2, 1), (164, .bipush 9, 2), (166, .iload_n 3, 1), (167, .iadd, 1), (168, .invokevirtual 41, 3), (171, .iconst 1, 1), (172, .isub, 1), (173, .goto 4, 3), (176, .iconst 0, 1), (177, .invokevirtual 92, 3), (180, .iinc 3 1, 3), (183, .goto (-44), 3), (186, .aload_n 0, 1), (187, .iload_n 2, 1), (188, .invokevirtual 103, 3), (191, .iinc 2 1, 3), (194, .goto (-67), 3), (197, .iload_n 1, 1), (198, .ireturn, 1)]
def cd_167 : List (Nat × Instr × Nat) := [(0, .aload_n 0, 1), (1, .iconst 0, 1), (2, .putfield 26, 3), (5, .aload_n 0, 1), (6, .invokevirtual 77, 3), (9, .aload_n 0, 1), (10, .invokevirtual 145, 3), (13, .ireturn, 1)]
def cd_168 : List (Nat × Instr × Nat) := [(0, .aload_n 0, 1), (1, .aload_n 0, 1), (2, .iload_n 2, 1), (3, .iconst 1, 1), (4, .invokevirtual 41, 3), (7, .aload_n 0, 1), (8, .iload_n 1, 1), (9, .iconst 1, 1), (10, .invokevirtual 41, 3), (13, .invokevirtual 71, 3), (16, .istore_n 3, 1), (17, .iload_n 3, 1), (18, .bipush 10, 2), (20, .if_icmp .lt 26, 3), (23, .iload_n 3, 1), (24, .bipush 10, 2), (26, .isub, 1), (27, .aload_n 0, 1), (28, .iload_n 2, 1), (29, .iconst 2, 1), (30, .invokevirtual 41, 3), (33, .isub, 1), (34, .bipush 6, 2), (36, .iadd, 1), (37, .iconst 3, 1), (38, .irem, 1), (39, .ifCond .ne 7, 3), (42, .iconst 1, 1), (43, .goto 4, 3), (46, .iconst 0, 1), (47, .ireturn, 1)]
def cd_169 : List (Nat × Instr × Nat) := [(0, .aload_n 0, 1), (1, .iload_n 1, 1), (2, .invokevirtual 52, 3), (5, .ifCond .eq 26, 3), (8, .aload_n 0, 1), (9, .iload_n 3, 1), (10, .invokevirtual 52, 3), (13, .ifCond .eq 18, 3), (16, .aload_n 0, 1), (17, .iload_n 1, 1), (18, .iconst 0, 1), (19, .invokevirtual 41, 3), (22, .aload_n 0, 1), (23, .iload_n 3, 1), (24, .iconst 0, 1), (25, .invokevirtual 41, 3), (28, .if_icmp .ne 5, 3), (31, .iconst 0, 1), (32, .ireturn, 1), (33, .aload_n 0, 1), (34, .iload_n 1, 1), (35, .iconst 1, 1), (36, .invokevirtual 41, 3), (39, .istore 4, 2), (41, .aload_n 0, 1), (42, .iload_n 3, 1), (43, .iconst 1, 1), (44, .invokevirtual 41, 3), (47, .istore 5, 2), (49, .aload_n 0, 1), (50, .iload 4, 2), (52, .iload 5, 2), (54, .invokevirtual 123, 3), (57, .istore 6, 2), (59, .iload 6, 2), (61, .bipush 6, 2), (63, .if_icmp .gt 25, 3), (66, .aload_n 0, 1), (67, .iload_n 1, 1), (68, .iload 5, 2), (70, .invokevirtual 148, 3), (73, .iload_n 2, 1), (74, .if_icmp .ne 14, 3), (77, .aload_n 0, 1), (78, .iload 4, 2), (80, .iload 5, 2), (82, .invokevirtual 151, 3), (85, .ifCond .eq 5, 3), (88, .iconst 0, 1), (89, .ireturn, 1), (90, .aload_n 0, 1), (91, .iload_n 1, 1), (92, .iconst 5, 1), (93, .iload_n 2, 1), (94, .iadd, 1), (95, .invokevirtual 41, 3), (98, .bipush 7, 2), (100, .iload 6, 2), (102, .isub, 1), (103, .imul, 1), (104, .aload_n 0, 1), (105, .iload_n 1, 1), (106, .iload_n 3, 1), (107, .invokevirtual 155, 3), (110, .ifCond .eq 7, 3), (113, .iconst 2, 1), (114, .goto 4, 3), (117, .iconst 1, 1), (118, .imul, 1), (119, .ireturn, 1)]
def cd_170 : List (Nat × Instr × Nat) := [(0, .aload_n 0, 1), (1, .iload_n 1, 1), (2, .invokevirtual 117, 3), (5, .ifCond .eq 11, 3), (8, .aload_n 0, 1), (9, .iload_n 2, 1), (10, .invokevirtual 117, 3), (13, .ifCond .ne 7, 3), (16, .iconst 1, 1), (17, .goto 13, 3), (20, .iload_n 1, 1), (21, .iload_n 2, 1), (22, .if_icmp .ne 7, 3), (25, .iconst 2, 1), (26, .goto 4, 3), (29, .iconst 0, 1), (30, .ireturn, 1)]
def cd_171 : List (Nat × Instr × Nat) := [(0, .aload_n 0, 1), (1, .aload_n 0, 1), (2, .iload_n 1, 1), (3, .iload_n 3, 1), (4, .invokevirtual 158, 3), (7, .putfield 26, 3), (10, .aload_n 0, 1), (11, .getfield 26, 3), (14, .ifCond .eq 7, 3), (17, .iconst 0, 1), (18, .goto 18, 3), (21, .aload_n 0, 1), (22, .iload_n 1, 1), (23, .iload_n 2, 1), (24, .ifCond .eq 7, 3), (27, .iconst 1, 1), (28, .goto 4, 3), (31, .iconst 0, 1), (32, .iload_n 3, 1), (33, .invokevirtual 161, 3), (36, .ireturn, 1)]
def cd_172 : List (Nat × Instr × Nat) := [(0, .aload_n 0, 1), (1, .iload_n 1, 1), (2, .iload_n 3, 1), (3, .invokevirtual 158, 3), (6, .istore 5, 2), (8, .iload 5, 2), (10, .iconst 1, 1), (11, .if_icmp .ne 5, 3), (14, .iconst 1, 1), (15, .ireturn, 1), (16, .iload 5, 2), (18, .iconst 2, 1), (19, .if_icmp .eq 13, 3), (22, .iload 4, 2), (24, .iconst 0, 1), (25, .iconst 2, 1), (26, .invokestatic 37, 3), (29, .ifCond .ne 5, 3), (32, .iconst 2, 1), (33, .ireturn, 1), (34, .aload_n 0, 1), (35, .iload_n 1, 1), (36, .bipush 9, 2), (38, .iload_n 2, 1), (39, .iadd, 1), (40, .invokevirtual 41, 3), (43, .ifCond .ne 17, 3), (46, .aload_n 0, 1), (47, .iload_n 1, 1), (48, .iload_n 2, 1), (49, .iload_n 3, 1), (50, .invokevirtual 161, 3), (53, .ifCond .le 7, 3), (56, .iconst 1, 1), (57, .goto 4, 3), (60, .iconst 0, 1), (61, .istore 6, 2), (63, .iload 6, 2), (65, .ifCond .eq 33, 3), (68, .iload 4, 2), (70, .iconst 2, 1), (71, .if_icmp .lt 23, 3), (74, .aload_n 0, 1), (75, .aload_n 0, 1), (76, .iload_n 1, 1), (77, .iconst 1, 1), (78, .invokevirtual 41, 3), (81, .aload_n 0, 1), (82, .iload_n 3, 1), (83, .iconst 1, 1), (84, .invokevirtual 41, 3), (87, .invokevirtual 123, 3), (90, .iconst 2, 1), (91, .if_icmp .gt 7, 3), (94, .iconst 0, 1), (95, .goto 4, 3), (98, .iconst 3, 1), (99, .ireturn, 1)]
def cd_173 : List (Nat × Instr × Nat) := [(0, .iload_n 3, 1), (1, .aload_n 0, 1), (2, .iload_n 1, 1), (3, .iload_n 2, 1), (4, .invokevirtual 41, 3), (7, .iload 4, 2), (9, .isub, 1), (10, .invokestatic 165, 3), (13, .istore 5, 2), (15, .aload_n 0, 1), (16, .iload_n 1, 1), (17, .iload_n 2, 1), (18, .aload_n 0, 1), (19, .iload_n 1, 1), (20, .iload_n 2, 1), (21, .invokevirtual 41, 3), (24, .iload 5, 2), (26, .isub, 1), (27, .invokevirtual 92, 3), (30, .iload 5, 2), (32, .ireturn, 1)]
def cd_174 : List (Nat × Instr × Nat) := [(0, .aload_n 0, 1), (1, .iload_n 1, 1), (2, .bipush 11, 2), (4, .invokevirtual 41, 3), (7, .iconst (-1), 1), (8, .if_icmp .eq 25, 3), (11, .aload_n 0, 1), (12, .aload_n 0, 1), (13, .iload_n 1, 1), (14, .bipush 11, 2), (16, .invokevirtual 41, 3), (19, .bipush 11, 2), (21, .iconst (-1), 1), (22, .invokevirtual 92, 3), (25, .aload_n 0, 1), (26, .iload_n 1, 1), (27, .bipush 11, 2), (29, .iconst (-1), 1), (30, .invokevirtual 92, 3), (33, .return_, 1)]
def cd_175 : List (Nat × Instr × Nat) := [(0, .aload_n 0, 1), (1, .iload_n 1, 1), (2, .iload_n 2, 1), (3, .iload_n 3, 1), (4, .invokevirtual 161, 3), (7, .istore 5, 2), (9, .aload_n 0, 1), (10, .iload_n 1, 1), (11, .bipush 9, 2), (13, .iload_n 2, 1), (14, .iadd, 1), (15, .iconst 2, 1), (16, .aload_n 0, 1), (17, .iload_n 1, 1), (18, .bipush 7, 2), (20, .invokevirtual 41, 3), (23, .imul, 1), (24, .aload_n 0, 1), (25, .iload_n 1, 1), (26, .bipush 12, 2), (28, .invokevirtual 41, 3), (31, .if_icmp .lt 7, 3), (34, .iconst 1, 1), (35, .goto 4, 3), (38, .iconst 2, 1), (39, .invokevirtual 92, 3), (42, .iload 4, 2), (44, .iconst 1, 1), (45, .if_icmp .ne 16, 3), (48, .aload_n 0, 1), (49, .iload_n 3, 1), (50, .iconst 4, 1), (51, .iload 5, 2), (53, .bipush 6, 2), (55, .idiv, 1), (56, .iconst 0, 1), (57, .invokevirtual 168, 3), (60, .ireturn, 1), (61, .iload 4, 2), (63, .iconst 2, 1), (64, .if_icmp .ne 16, 3), (67, .aload_n 0, 1), (68, .iload_n 3, 1), (69, .bipush 7, 2), (71, .iload 5, 2), (73, .iconst 5, 1), (74, .idiv, 1), (75, .iconst 1, 1), (76, .invokevirtual 168, 3), (79, .ireturn, 1), (80, .aload_n 0, 1), (81, .iload_n 3, 1), (82, .aload_n 0, 1), (83, .iload_n 1, 1), (84, .iconst 1, 1), (85, .invokevirtual 41, 3), (88, .invokevirtual 148, 3), (91, .istore 6, 2), (93, .iload 6, 2), (95, .iconst (-1), 1), (96, .if_icmp .ne 7, 3), (99, .iconst 0, 1), (100, .goto 18, 3), (103, .aload_n 0, 1), (104, .iload_n 3, 1), (105, .iconst 5, 1), (106, .iload 6, 2), (108, .iadd, 1), (109, .iload 5, 2), (111, .bipush 12, 2), (113, .idiv, 1), (114, .iconst 0, 1), (115, .invokevirtual 168, 3), (118, .istore 7, 2), (120, .aload_n 0, 1), (121, .iload_n 3, 1), (122, .iconst 3, 1), (123, .iload 5, 2), (125, .iconst 4, 1), (126, .idiv, 1), (127, .iconst 0, 1), (128, .invokevirtual 168, 3), (131, .istore 8, 2), (133, .aload_n 0, 1), (134, .iload_n 3, 1), (135, .invokevirtual 52, 3), (138, .ifCond .ne 8, 3), (141, .aload_n 0, 1), (142, .iload_n 3, 1), (143, .invokevirtual 172, 3), (146, .iload 8, 2), (148, .ireturn, 1)]
def cd_176 : List (Nat × Instr × Nat) := [(0, .aload_n 0, 1), (1, .aload_n 0, 1), (2, .iload_n 1, 1), (3, .iload_n 2, 1), (4, .ifCond .eq 7, 3), (7, .iconst 1, 1), (8, .goto 4, 3), (11, .iconst 0, 1), (12, .iload_n 3, 1), (13, .iload 4, 2), (15, .invokevirtual 175, 3), (18, .putfield 26, 3), (21, .aload_n 0, 1), (22, .getfield 26, 3), (25, .ifCond .eq 5, 3), (28, .iconst 0, 1), (29, .ireturn, 1), (30, .aload_n 0, 1), (31, .invokevirtual 77, 3), (34, .aload_n 0, 1), (35, .iload_n 1, 1), (36, .iload_n 2, 1), (37, .ifCond .eq 7, 3), (40, .iconst 1, 1), (41, .goto 4, 3), (44, .iconst 0, 1), (45, .iload_n 3, 1), (46, .iload 4, 2), (48, .invokevirtual 178, 3), (51, .ireturn, 1)]
def cd_177 : List (Nat × Instr × Nat) := [(0, .iconst 0, 1), (1, .istore_n 1, 1), (2, .iconst 0, 1), (3, .istore_n 2, 1), (4, .iload_n 2, 1), (5, .aload_n 0, 1), (6, .getfield 7, 3), (9, .iconst 5, 1), (10, .iaload, 1), (11, .if_icmp .ge 28, 3), (14, .iload_n 1, 1), (15, .aload_n 0, 1), (16, .iload_n 2, 1), (17, .bipush 11, 2), (19, .invokevirtual 41, 3), (22, .iconst (-1), 1), (23, .if_icmp .eq 7, 3), (26, .iconst 1, 1), (27, .goto 4, 3), (30, .iconst 0, 1), (31, .iadd, 1), (32, .istore_n 1, 1), (33, .iinc 2 1, 3), (36, .goto (-32), 3), (39, .iload_n 1, 1), (40, .ireturn, 1)]
def cd_178 : List (Nat × Instr × Nat) := [(0, .aload_n 0, 1), (1, .iload_n 1, 1), (2, .invokevirtual 52, 3), (5, .ifCond .eq 30, 3), (8, .aload_n 0, 1), (9, .iload_n 2, 1), (10, .invokevirtual 52, 3), (13, .ifCond .eq 22, 3), (16, .aload_n 0, 1), (17, .iload_n 1, 1), (18, .iconst 0, 1), (19, .invokevirtual 41, 3), (22, .aload_n 0, 1), (23, .iload_n 2, 1), (24, .iconst 0, 1), (25, .invokevirtual 41, 3), (28, .if_icmp .eq 7, 3), (31, .iconst 1, 1), (32, .goto 4, 3), (35, .iconst 0, 1), (36, .istore_n 3, 1), (37, .iload_n 3, 1), (38, .ifCond .eq 49, 3), (41, .aload_n 0, 1), (42, .iload_n 1, 1), (43, .bipush 11, 2), (45, .invokevirtual 41, 3), (48, .iconst (-1), 1), (49, .if_icmp .ne 38, 3), (52, .aload_n 0, 1), (53, .iload_n 2, 1), (54, .bipush 11, 2), (56, .invokevirtual 41, 3), (59, .iconst (-1), 1), (60, .if_icmp .ne 27, 3), (63, .aload_n 0, 1), (64, .aload_n 0, 1), (65, .iload_n 1, 1), (66, .iconst 1, 1), (67, .invokevirtual 41, 3), (70, .aload_n 0, 1), (71, .iload_n 2, 1), (72, .iconst 1, 1), (73, .invokevirtual 41, 3), (76, .invokevirtual 123, 3), (79, .iconst 1, 1), (80, .if_icmp .ne 7, 3), (83, .iconst 1, 1), (84, .goto 4, 3), (87, .iconst 0, 1), (88, .ireturn, 1)]
def cd_179 : List (Nat × Instr × Nat) := [(0, .aload_n 0, 1), (1, .aload_n 0, 1), (2, .iload_n 1, 1), (3, .iload_n 2, 1), (4, .invokevirtual 158, 3), (7, .putfield 26, 3), (10, .aload_n 0, 1), (11, .aload_n 0, 1), (12, .getfield 26, 3), (15, .ifCond .eq 10, 3), (18, .aload_n 0, 1), (19, .getfield 26, 3), (22, .goto 17, 3), (25, .aload_n 0, 1), (26, .iload_n 1, 1), (27, .iload_n 2, 1), (28, .invokevirtual 181, 3), (31, .ifCond .eq 7, 3), (34, .iconst 0, 1), (35, .goto 4, 3), (38, .iconst 3, 1), (39, .putfield 26, 3), (42, .aload_n 0, 1), (43, .getfield 26, 3), (46, .ifCond .eq 5, 3), (49, .iconst 0, 1), (50, .ireturn, 1), (51, .aload_n 0, 1), (52, .invokevirtual 77, 3), (55, .aload_n 0, 1), (56, .iload_n 1, 1), (57, .bipush 11, 2), (59, .iload_n 2, 1), (60, .invokevirtual 92, 3), (63, .aload_n 0, 1), (64, .iload_n 2, 1), (65, .bipush 11, 2), (67, .iload_n 1, 1), (68, .invokevirtual 92, 3), (71, .aload_n 0, 1), (72, .invokevirtual 184, 3), (75, .ireturn, 1)]
def cd_180 : List (Nat × Instr × Nat) := [(0, .aload_n 0, 1), (1, .aload_n 0, 1), (2, .iload_n 1, 1), (3, .invokevirtual 117, 3), (6, .ifCond .ne 7, 3), (9, .iconst 1, 1), (10, .goto 19, 3), (13, .aload_n 0, 1), (14, .iload_n 1, 1), (15, .bipush 11, 2), (17, .invokevirtual 41, 3), (20, .iconst (-1), 1), (21, .if_icmp .ne 7, 3), (24, .iconst 2, 1), (25, .goto 4, 3), (28, .iconst 0, 1), (29, .putfield 26, 3), (32, .aload_n 0, 1), (33, .getfield 26, 3), (36, .ifCond .eq 5, 3), (39, .iconst 0, 1), (40, .ireturn, 1), (41, .aload_n 0, 1), (42, .invokevirtual 77, 3), (45, .aload_n 0, 1), (46, .iload_n 1, 1), (47, .bipush 11, 2), (49, .invokevirtual 41, 3), (52, .istore_n 2, 1), (53, .aload_n 0, 1), (54, .iload_n 1, 1), (55, .invokevirtual 172, 3), (58, .iload_n 2, 1), (59, .ireturn, 1)]
def cd_181 : List (Nat × Instr × Nat) := [(0, .aload_n 0, 1), (1, .iload_n 1, 1), (2, .bipush 11, 2), (4, .invokevirtual 41, 3), (7, .istore_n 2, 1), (8, .aload_n 0, 1), (9, .iload_n 1, 1), (10, .bipush 7, 2), (12, .invokevirtual 41, 3), (15, .istore_n 3, 1), (16, .aload_n 0, 1), (17, .iload_n 2, 1), (18, .bipush 7, 2), (20, .invokevirtual 41, 3), (23, .istore 4, 2), (25, .iload_n 3, 1), (26, .iload 4, 2), (28, .iconst 3, 1), (29, .iadd, 1), (30, .iconst 4, 1), (31, .idiv, 1), (32, .isub, 1), (33, .iconst 1, 1), (34, .if_icmp .le 14, 3), (37, .iload_n 3, 1), (38, .iload 4, 2), (40, .iconst 3, 1), (41, .iadd, 1), (42, .iconst 4, 1), (43, .idiv, 1), (44, .isub, 1), (45, .goto 4, 3), (48, .iconst 1, 1), (49, .istore 5, 2), (51, .aload_n 0, 1), (52, .iload_n 1, 1), (53, .bipush 14, 2), (55, .iconst 1, 1), (56, .invokevirtual 92, 3), (59, .aload_n 0, 1), (60, .iload_n 1, 1), (61, .bipush 7, 2), (63, .iload 5, 2), (65, .invokevirtual 92, 3), (68, .aload_n 0, 1), (69, .iload_n 2, 1), (70, .bipush 7, 2), (72, .iload 4, 2), (74, .iload_n 3, 1), (75, .iconst 2, 1), (76, .iadd, 1), (77, .iconst 3, 1), (78, .idiv, 1), (79, .isub, 1), (80, .invokevirtual 92, 3), (83, .aload_n 0, 1), (84, .iload_n 2, 1), (85, .bipush 7, 2), (87, .invokevirtual 41, 3), (90, .ifCond .le 5, 3), (93, .iconst 0, 1), (94, .ireturn, 1), (95, .iload 5, 2), (97, .iconst 3, 1), (98, .iadd, 1), (99, .iconst 4, 1), (100, .idiv, 1), (101, .iload 5, 2), (103, .iconst 1, 1), (104, .isub, 1), (105, .invokestatic 165, 3), (108, .istore 6, 2), (110, .aload_n 0, 1), (111, .iload_n 1, 1), (112, .bipush 7, 2), (114, .iload 5, 2), (116, .iload 6, 2), (118, .isub, 1), (119, .invokevirtual 92, 3), (122, .aload_n 0, 1), (123, .iload_n 2, 1), (124, .bipush 7, 2), (126, .iload 6, 2), (128, .ifCond .ne 7, 3), (131, .iconst 1, 1), (132, .goto 5, 3), (135, .iload 6, 2), (137, .invokevirtual 92, 3), (140, .aload_n 0, 1), (141, .iload_n 2, 1), (142, .iconst 0, 1), (143, .aload_n 0, 1), (144, .iload_n 1, 1), (145, .iconst 0, 1), (146, .invokevirtual 41, 3), (149, .invokevirtual 92, 3), (152, .aload_n 0, 1), (153, .iload_n 1, 1), (154, .invokevirtual 172, 3), (157, .iconst 1, 1), (158, .ireturn, 1)]
def cd_182 : List (Nat × Instr × Nat) := [(0, .aload_n 0, 1), (1, .aload_n 0, 1), (2, .iload_n 1, 1), (3, .invokevirtual 117, 3), (6, .ifCond .ne 7, 3), (9, .iconst 1, 1), (10, .goto 30, 3), (13, .aload_n 0, 1), (14, .iload_n 1, 1), (15, .bipush 11, 2), (17, .invokevirtual 41, 3), (20, .iconst (-1), 1), (21, .if_icmp .eq 14, 3), (24, .aload_n 0, 1), (25, .iload_n 1, 1), (26, .bipush 14, 2), (28, .invokevirtual 41, 3), (31, .iconst 1, 1), (32, .if_icmp .ne 7, 3), (35, .iconst 2, 1), (36, .goto 4, 3), (39, .iconst 0, 1), (40, .putfield 26, 3), (43, .aload_n 0, 1), (44, .getfield 26, 3), (47, .ifCond .eq 5, 3), (50, .iconst 0, 1), (51, .ireturn, 1), (52, .aload_n 0, 1), (53, .invokevirtual 77, 3), (56, .aload_n 0, 1), (57, .iload_n 1, 1), (58, .invokevirtual 187, 3), (61, .ireturn, 1)]
def cd_183 : List (Nat × Instr × Nat) := [(0, .bipush 12, 2), (2, .iload_n 1, 1), (3, .imul, 1), (4, .iconst 2, 1), (5, .iload_n 2, 1), (6, .imul, 1), (7, .iadd, 1), (8, .iload_n 3, 1), (9, .iadd, 1), (10, .ireturn, 1)]
def cd_184 : List (Nat × Instr × Nat) := [(0, .iload_n 2, 1), (1, .iconst (-1), 1), (2, .if_icmp .eq 25, 3), (5, .iload_n 2, 1), (6, .aload_n 0, 1), (7, .iload_n 1, 1), (8, .iconst 1, 1), (9, .invokevirtual 41, 3), (12, .if_icmp .eq 11, 3), (15, .aload_n 0, 1), (16, .iload_n 2, 1), (17, .invokevirtual 100, 3), (20, .ifCond .eq 7, 3), (23, .iconst 1, 1), (24, .goto 4, 3), (27, .iconst 0, 1), (28, .ireturn, 1)]
def cd_185 : List (Nat × Instr × Nat) := [(0, .aload_n 0, 1), (1, .getfield 19, 3), (4, .iload_n 1, 1), (5, .iload_n 2, 1), (6, .aload_n 0, 1), (7, .getfield 19, 3), (10, .iload_n 1, 1), (11, .iaload, 1), (12, .if_icmp .le 7, 3), (15, .iload_n 2, 1), (16, .goto 9, 3), (19, .aload_n 0, 1), (20, .getfield 19, 3), (23, .iload_n 1, 1), (24, .iaload, 1), (25, .iastore, 1), (26, .return_, 1)]
def cd_186 : List (Nat × Instr × Nat) := [(0, .iload_n 2, 1), (1, .bipush 12, 2), (3, .idiv, 1), (4, .istore 4, 2), (6, .iload_n 2, 1), (7, .iconst 2, 1), (8, .idiv, 1), (9, .bipush 6, 2), (11, .irem, 1), (12, .istore 5, 2), (14, .aload_n 0, 1), (15, .iload 4, 2), (17, .iload 5, 2), (19, .invokevirtual 74, 3), (22, .istore 6, 2), (24, .iload 5, 2), (26, .aload_n 0, 1), (27, .getfield 7, 3), (30, .iconst 2, 1), (31, .iaload, 1), (32, .invokestatic 83, 3), (35, .iconst 3, 1), (36, .if_icmp .ge 29, 3), (39, .aload_n 0, 1), (40, .iload_n 1, 1), (41, .iload 6, 2), (43, .invokevirtual 190, 3), (46, .ifCond .eq 19, 3), (49, .aload_n 0, 1), (50, .aload_n 0, 1), (51, .iload 6, 2), (53, .iload 5, 2), (55, .iconst 1, 1), (56, .invokevirtual 193, 3), (59, .iload_n 3, 1), (60, .iconst 1, 1), (61, .isub, 1), (62, .invokevirtual 196, 3), (65, .iconst 0, 1), (66, .istore 7, 2), (68, .iload 7, 2), (70, .iconst 2, 1), (71, .if_icmp .ge 65, 3), (74, .iload 5, 2), (76, .iload 7, 2), (78, .iconst 1, 1), (79, .if_icmp .ne 7, 3), (82, .iconst 1, 1), (83, .goto 4, 3), (86, .iconst 0, 1), (87, .invokestatic 135, 3), (90, .istore 8, 2), (92, .iload 8, 2), (94, .aload_n 0, 1), (95, .getfield 7, 3), (98, .iconst 2, 1), (99, .iaload, 1), (100, .invokestatic 83, 3), (103, .iconst 3, 1), (104, .if_icmp .lt 10, 3), (107, .iload_n 2, 1), (108, .iconst 2, 1), (109, .irem, 1), (110, .iconst 1, 1), (111, .if_icmp .ne 19, 3), (114, .aload_n 0, 1), (115, .aload_n 0, 1), (116, .iload 4, 2), (118, .iload 8, 2), (120, .iconst 0, 1), (121, .invokevirtual 193, 3), (124, .iload_n 3, 1), (125, .iconst 1, 1), (126, .isub, 1), (127, .invokevirtual 196, 3), (130, .iinc 7 1, 3), (133, .goto (-65), 3), (136, .return_, 1)]
def cd_187 : List (Nat × Instr × Nat) := [(0, .iconst 0, 1), (1, .istore_n 2, 1), (2, .iload_n 2, 1), (3, .sipush 1728, 3), (6, .if_icmp .ge 16, 3), (9, .aload_n 0, 1), (10, .getfield 19, 3), (13, .iload_n 2, 1), (14, .iconst (-1), 1), (15, .iastore, 1), (16, .iinc 2 1, 3), (19, .goto (-17), 3), (22, .aload_n 0, 1), (23, .getfield 19, 3), (26, .aload_n 0, 1), (27, .aload_n 0, 1), (28, .iload_n 1, 1), (29, .iconst 1, 1), (30, .invokevirtual 41, 3), (33, .aload_n 0, 1), (34, .iload_n 1, 1), (35, .iconst 2, 1), (36, .invokevirtual 41, 3), (39, .aload_n 0, 1), (40, .iload_n 1, 1), (41, .bipush 13, 2), (43, .invokevirtual 41, 3), (46, .invokevirtual 193, 3), (49, .aload_n 0, 1), (50, .iload_n 1, 1), (51, .bipush 8, 2), (53, .invokevirtual 41, 3), (56, .iastore, 1), (57, .aload_n 0, 1), (58, .iload_n 1, 1), (59, .iconst 4, 1), (60, .invokevirtual 41, 3), (63, .ifCond .le 24, 3), (66, .aload_n 0, 1), (67, .iload_n 1, 1), (68, .bipush 11, 2), (70, .invokevirtual 41, 3), (73, .iconst (-1), 1), (74, .if_icmp .ne 13, 3), (77, .aload_n 0, 1), (78, .iload_n 1, 1), (79, .bipush 8, 2), (81, .invokevirtual 41, 3), (84, .goto 4, 3), (87, .iconst 0, 1), (88, .istore_n 2, 1), (89, .iload_n 2, 1), (90, .istore_n 3, 1), (91, .iload_n 3, 1), (92, .ifCond .le 49, 3), (95, .iconst 0, 1), (96, .istore 4, 2), (98, .iload 4, 2), (100, .bipush 12, 2), (102, .aload_n 0, 1), (103, .invokevirtual 33, 3), (106, .imul, 1), (107, .if_icmp .ge 28, 3), (110, .aload_n 0, 1), (111, .getfield 19, 3), (114, .iload 4, 2), (116, .iaload, 1), (117, .iload_n 3, 1), (118, .if_icmp .ne 11, 3), (121, .aload_n 0, 1), (122, .iload_n 1, 1), (123, .iload 4, 2), (125, .iload_n 3, 1), (126, .invokevirtual 199, 3), (129, .iinc 4 1, 3), (132, .goto (-34), 3), (135, .iinc 3 (-1), 3), (138, .goto (-47), 3), (141, .return_, 1)]
def cd_188 : List (Nat × Instr × Nat) := [(0, .iconst (-1), 1), (1, .istore_n 2, 1), (2, .bipush 12, 2), (4, .iload_n 1, 1), (5, .imul, 1), (6, .istore_n 3, 1), (7, .iload_n 3, 1), (8, .bipush 12, 2), (10, .iload_n 1, 1), (11, .imul, 1), (12, .bipush 12, 2), (14, .iadd, 1), (15, .if_icmp .ge 30, 3), (18, .aload_n 0, 1), (19, .getfield 19, 3), (22, .iload_n 3, 1), (23, .iaload, 1), (24, .iload_n 2, 1), (25, .if_icmp .le 12, 3), (28, .aload_n 0, 1), (29, .getfield 19, 3), (32, .iload_n 3, 1), (33, .iaload, 1), (34, .goto 4, 3), (37, .iload_n 2, 1), (38, .istore_n 2, 1), (39, .iinc 3 1, 3), (42, .goto (-35), 3), (45, .iload_n 2, 1), (46, .ireturn, 1)]
def cd_189 : List (Nat × Instr × Nat) := [(0, .aload_n 0, 1), (1, .iload_n 1, 1), (2, .invokevirtual 52, 3), (5, .ifCond .ne 5, 3), (8, .iconst 0, 1), (9, .ireturn, 1), (10, .aload_n 0, 1), (11, .iload_n 1, 1), (12, .invokevirtual 202, 3), (15, .iconst 0, 1), (16, .istore_n 2, 1), (17, .iconst 0, 1), (18, .istore_n 3, 1), (19, .iload_n 3, 1), (20, .aload_n 0, 1), (21, .invokevirtual 33, 3), (24, .if_icmp .ge 26, 3), (27, .iload_n 2, 1), (28, .aload_n 0, 1), (29, .iload_n 3, 1), (30, .invokevirtual 205, 3), (33, .iconst (-1), 1), (34, .if_icmp .eq 7, 3), (37, .iconst 1, 1), (38, .goto 4, 3), (41, .iconst 0, 1), (42, .iadd, 1), (43, .istore_n 2, 1), (44, .iinc 3 1, 3), (47, .goto (-28), 3), (50, .iload_n 2, 1), (51, .ireturn, 1)]
def cd_190 : List (Nat × Instr × Nat) := [(0, .aload_n 0, 1), (1, .aload_n 0, 1), (2, .iload_n 1, 1), (3, .invokevirtual 117, 3), (6, .ifCond .eq 7, 3), (9, .iconst 0, 1), (10, .goto 4, 3), (13, .iconst 1, 1), (14, .putfield 26, 3), (17, .aload_n 0, 1), (18, .getfield 26, 3), (21, .ifCond .eq 7, 3), (24, .iconst 0, 1), (25, .goto 8, 3), (28, .aload_n 0, 1), (29, .iload_n 1, 1), (30, .invokevirtual 208, 3), (33, .ireturn, 1)]
def cd_191 : List (Nat × Instr × Nat) := [(0, .aload_n 0, 1), (1, .aload_n 0, 1), (2, .iload_n 1, 1), (3, .invokevirtual 117, 3), (6, .ifCond .eq 15, 3), (9, .aload_n 0, 1), (10, .iload_n 2, 1), (11, .invokevirtual 80, 3), (14, .ifCond .eq 7, 3), (17, .iconst 0, 1), (18, .goto 4, 3), (21, .iconst 1, 1), (22, .putfield 26, 3), (25, .aload_n 0, 1), (26, .getfield 26, 3), (29, .ifCond .ne 11, 3), (32, .aload_n 0, 1), (33, .iload_n 1, 1), (34, .invokevirtual 52, 3), (37, .ifCond .ne 16, 3), (40, .aload_n 0, 1), (41, .getfield 26, 3), (44, .ifCond .eq 7, 3), (47, .iconst 0, 1), (48, .goto 4, 3), (51, .iconst (-1), 1), (52, .ireturn, 1), (53, .aload_n 0, 1), (54, .iload_n 1, 1), (55, .invokevirtual 202, 3), (58, .aload_n 0, 1), (59, .iload_n 2, 1), (60, .invokevirtual 205, 3), (63, .ireturn, 1)]
def cd_192 : List (Nat × Instr × Nat) := [(0, .aload_n 0, 1), (1, .aload_n 0, 1), (2, .iload_n 1, 1), (3, .invokevirtual 117, 3), (6, .ifCond .eq 7, 3), (9, .iconst 0, 1), (10, .goto 4, 3), (13, .iconst 1, 1), (14, .putfield 26, 3), (17, .aload_n 0, 1), (18, .getfield 26, 3), (21, .ifCond .eq 5, 3), (24, .iconst 0, 1), (25, .ireturn, 1), (26, .iconst (-1), 1), (27, .istore_n 2, 1), (28, .iconst 0, 1), (29, .istore_n 3, 1), (30, .iconst 0, 1), (31, .istore 4, 2), (33, .iload 4, 2), (35, .iconst 2, 1), (36, .aload_n 0, 1), (37, .getfield 7, 3), (40, .iconst 5, 1), (41, .iaload, 1), (42, .imul, 1), (43, .if_icmp .ge 62, 3), (46, .iload 4, 2), (48, .iconst 2, 1), (49, .idiv, 1), (50, .iload_n 1, 1), (51, .if_icmp .ne 7, 3), (54, .iconst 0, 1), (55, .goto 16, 3), (58, .aload_n 0, 1), (59, .iload_n 1, 1), (60, .iload 4, 2), (62, .iconst 2, 1), (63, .irem, 1), (64, .iload 4, 2), (66, .iconst 2, 1), (67, .idiv, 1), (68, .invokevirtual 161, 3), (71, .istore 5, 2), (73, .iload 5, 2), (75, .iload_n 3, 1), (76, .if_icmp .le 8, 3), (79, .iload 4, 2), (81, .goto 4, 3), (84, .iload_n 2, 1), (85, .istore_n 2, 1), (86, .iload 5, 2), (88, .iload_n 3, 1), (89, .if_icmp .le 8, 3), (92, .iload 5, 2), (94, .goto 4, 3), (97, .iload_n 3, 1), (98, .istore_n 3, 1), (99, .iinc 4 1, 3), (102, .goto (-69), 3), (105, .iload_n 2, 1), (106, .ireturn, 1)]
def cd_193 : List (Nat × Instr × Nat) := [(0, .aload_n 0, 1), (1, .aload_n 0, 1), (2, .iload_n 1, 1), (3, .invokevirtual 117, 3), (6, .ifCond .eq 7, 3), (9, .iconst 0, 1), (10, .goto 4, 3), (13, .iconst 1, 1), (14, .putfield 26, 3), (17, .aload_n 0, 1), (18, .getfield 26, 3), (21, .ifCond .eq 5, 3), (24, .iconst 0, 1), (25, .ireturn, 1), (26, .iconst 0, 1), (27, .istore_n 2, 1), (28, .iconst 1, 1), (29, .istore_n 3, 1), (30, .iload_n 3, 1), (31, .bipush 6, 2), (33, .if_icmp .ge 30, 3), (36, .aload_n 0, 1), (37, .iload_n 1, 1), (38, .iload_n 3, 1), (39, .invokevirtual 86, 3), (42, .aload_n 0, 1), (43, .iload_n 1, 1), (44, .iload_n 2, 1), (45, .invokevirtual 86, 3), (48, .if_icmp .le 7, 3), (51, .iload_n 3, 1), (52, .goto 4, 3), (55, .iload_n 2, 1), (56, .istore_n 2, 1), (57, .iinc 3 1, 3), (60, .goto (-30), 3), (63, .iload_n 2, 1), (64, .ireturn, 1)]
def cd_194 : List (Nat × Instr × Nat) := [(0, .aload_n 0, 1), (1, .iload_n 1, 1), (2, .iconst 0, 1), (3, .iconst 1, 1), (4, .invokestatic 37, 3), (7, .ifCond .eq 7, 3), (10, .iconst 0, 1), (11, .goto 4, 3), (14, .iconst 1, 1), (15, .putfield 26, 3), (18, .aload_n 0, 1), (19, .getfield 26, 3), (22, .ifCond .eq 5, 3), (25, .dconst 0, 1), (26, .dreturn, 1), (27, .iconst 0, 1), (28, .istore_n 2, 1), (29, .iconst 0, 1), (30, .istore_n 3, 1), (31, .iconst 0, 1), (32, .istore 4, 2), (34, .iload 4, 2), (36, .aload_n 0, 1), (37, .getfield 7, 3), (40, .iconst 5, 1), (41, .iaload, 1), (42, .if_icmp .ge 65, 3), (45, .aload_n 0, 1), (46, .iload 4, 2), (48, .invokevirtual 52, 3), (51, .ifCond .eq 22, 3), (54, .aload_n 0, 1), (55, .iload 4, 2), (57, .iconst 3, 1), (58, .invokevirtual 41, 3), (61, .aload_n 0, 1), (62, .iload 4, 2), (64, .bipush 7, 2), (66, .invokevirtual 41, 3), (69, .iadd, 1), (70, .goto 4, 3), (73, .iconst 0, 1), (74, .istore 5, 2), (76, .iload_n 2, 1), (77, .aload_n 0, 1), (78, .iload 4, 2), (80, .iconst 0, 1), (81, .invokevirtual 41, 3), (84, .iload_n 1, 1), (85, .if_icmp .ne 8, 3), (88, .iload 5, 2), (90, .goto 4, 3), (93, .iconst 0, 1), (94, .iadd, 1), (95, .istore_n 2, 1), (96, .iload_n 3, 1), (97, .iload 5, 2), (99, .iadd, 1), (100, .istore_n 3, 1), (101, .iinc 4 1, 3), (104, .goto (-70), 3), (107, .iload_n 3, 1), (108, .ifCond .ne 9, 3), (111, .ldc2_w 211, 3), (114, .goto 8, 3), (117, .iload_n 2, 1), (118, .i2d, 1), (119, .iload_n 3, 1), (120, .i2d, 1), (121, .ddiv, 1), (122, .dreturn, 1)]
def cd_195 : List (Nat × Instr × Nat) := [(0, .aload_n 0, 1), (1, .iload_n 1, 1), (2, .iconst 0, 1), (3, .bipush 127, 2), (5, .invokestatic 37, 3), (8, .ifCond .ne 7, 3), (11, .iconst 1, 1), (12, .goto 18, 3), (15, .aload_n 0, 1), (16, .getfield 213, 3), (19, .sipush 150, 3), (22, .if_icmp .ne 7, 3), (25, .iconst 2, 1), (26, .goto 4, 3), (29, .iconst 0, 1), (30, .putfield 26, 3), (33, .aload_n 0, 1), (34, .getfield 26, 3), (37, .ifCond .eq 5, 3), (40, .iconst 0, 1), (41, .ireturn, 1), (42, .aload_n 0, 1), (43, .getfield 16, 3), (46, .aload_n 0, 1), (47, .getfield 213, 3), (50, .iload_n 1, 1), (51, .iastore, 1), (52, .aload_n 0, 1), (53, .dup, 1), (54, .getfield 213, 3), (57, .iconst 1, 1), (58, .iadd, 1), (59, .putfield 213, 3), (62, .aload_n 0, 1), (63, .getfield 213, 3), (66, .ireturn, 1)]
def cd_196 : List (Nat × Instr × Nat) := [(0, .aload_n 0, 1), (1, .iconst 0, 1), (2, .putfield 26, 3), (5, .aload_n 0, 1), (6, .getfield 213, 3), (9, .istore_n 1, 1), (10, .aload_n 0, 1), (11, .iconst 0, 1), (12, .putfield 213, 3), (15, .iload_n 1, 1), (16, .ireturn, 1)]
def cd_197 : List (Nat × Instr × Nat) := [(0, .aload_n 0, 1), (1, .getfield 216, 3), (4, .aload_n 0, 1), (5, .getfield 213, 3), (8, .if_icmp .ge 15, 3), (11, .aload_n 0, 1), (12, .getfield 16, 3), (15, .aload_n 0, 1), (16, .getfield 216, 3), (19, .iaload, 1), (20, .goto 4, 3), (23, .iconst (-1), 1), (24, .ireturn, 1)]
def cd_198 : List (Nat × Instr × Nat) := [(0, .aload_n 0, 1), (1, .invokevirtual 219, 3), (4, .bipush 48, 2), (6, .bipush 48, 2), (8, .iload_n 1, 1), (9, .iadd, 1), (10, .invokestatic 37, 3), (13, .istore_n 2, 1), (14, .aload_n 0, 1), (15, .aload_n 0, 1), (16, .invokevirtual 219, 3), (19, .bipush 48, 2), (21, .isub, 1), (22, .putfield 222, 3), (25, .aload_n 0, 1), (26, .dup, 1), (27, .getfield 216, 3), (30, .iload_n 2, 1), (31, .ifCond .eq 7, 3), (34, .iconst 1, 1), (35, .goto 4, 3), (38, .iconst 0, 1), (39, .iadd, 1), (40, .putfield 216, 3), (43, .iload_n 2, 1), (44, .ireturn, 1)]
def cd_199 : List (Nat × Instr × Nat) := [(0, .aload_n 0, 1), (1, .aload_n 0, 1), (2, .invokevirtual 219, 3), (5, .putfield 225, 3), (8, .aload_n 0, 1), (9, .dup, 1), (10, .getfield 216, 3), (13, .iload_n 1, 1), (14, .ifCond .eq 7, 3), (17, .iconst 1, 1), (18, .goto 4, 3), (21, .iconst 0, 1), (22, .iadd, 1), (23, .putfield 216, 3), (26, .iload_n 1, 1), (27, .ireturn, 1)]
def cd_200 : List (Nat × Instr × Nat) := [(0, .iconst 1, 1), (1, .istore_n 1, 1), (2, .aload_n 0, 1), (3, .aload_n 0, 1), (4, .invokevirtual 219, 3), (7, .bipush 119, 2), (9, .if_icmp .ne 7, 3), (12, .iconst 1, 1), (13, .goto 4, 3), (16, .iconst 0, 1), (17, .invokevirtual 228, 3), (20, .ifCond .eq 12, 3), (23, .aload_n 0, 1), (24, .iconst 5, 1), (25, .invokevirtual 232, 3), (28, .istore_n 1, 1), (29, .goto 78, 3), (32, .aload_n 0, 1), (33, .aload_n 0, 1), (34, .invokevirtual 219, 3), (37, .bipush 101, 2), (39, .if_icmp .ne 7, 3), (42, .iconst 1, 1), (43, .goto 4, 3), (46, .iconst 0, 1), (47, .invokevirtual 228, 3), (50, .ifCond .ne 57, 3), (53, .aload_n 0, 1), (54, .bipush 9, 2), (56, .invokevirtual 232, 3), (59, .ifCond .eq 46, 3), (62, .aload_n 0, 1), (63, .aload_n 0, 1), (64, .invokevirtual 219, 3), (67, .bipush 97, 2), (69, .if_icmp .eq 21, 3), (72, .aload_n 0, 1), (73, .invokevirtual 219, 3), (76, .bipush 108, 2), (78, .if_icmp .eq 12, 3), (81, .aload_n 0, 1), (82, .invokevirtual 219, 3), (85, .bipush 114, 2), (87, .if_icmp .ne 7, 3), (90, .iconst 1, 1), (91, .goto 4, 3), (94, .iconst 0, 1), (95, .invokevirtual 228, 3), (98, .ifCond .eq 7, 3), (101, .iconst 1, 1), (102, .goto 4, 3), (105, .iconst 0, 1), (106, .istore_n 1, 1), (107, .iload_n 1, 1), (108, .ifCond .eq 16, 3), (111, .aload_n 0, 1), (112, .invokevirtual 219, 3), (115, .bipush 59, 2), (117, .if_icmp .ne 7, 3), (120, .iconst 1, 1), (121, .goto 4, 3), (124, .iconst 0, 1), (125, .istore_n 2, 1), (126, .aload_n 0, 1), (127, .dup, 1), (128, .getfield 216, 3), (131, .iload_n 2, 1), (132, .ifCond .eq 7, 3), (135, .iconst 1, 1), (136, .goto 4, 3), (139, .iconst 0, 1), (140, .iadd, 1), (141, .putfield 216, 3), (144, .iload_n 2, 1), (145, .ireturn, 1)]
def cd_201 : List (Nat × Instr × Nat) := [(0, .aload_n 0, 1), (1, .iconst 0, 1), (2, .putfield 216, 3), (5, .iconst 1, 1), (6, .istore_n 1, 1), (7, .iload_n 1, 1), (8, .ifCond .eq 22, 3), (11, .aload_n 0, 1), (12, .getfield 216, 3), (15, .aload_n 0, 1), (16, .getfield 213, 3), (19, .if_icmp .ge 11, 3), (22, .aload_n 0, 1), (23, .invokevirtual 235, 3), (26, .istore_n 1, 1), (27, .goto (-20), 3), (30, .iload_n 1, 1), (31, .ireturn, 1)]
def cd_202 : List (Nat × Instr × Nat) := [(0, .aload_n 0, 1), (1, .getfield 225, 3), (4, .bipush 119, 2), (6, .if_icmp .eq 57, 3), (9, .aload_n 0, 1), (10, .getfield 225, 3), (13, .bipush 101, 2), (15, .if_icmp .eq 48, 3), (18, .aload_n 0, 1), (19, .getfield 225, 3), (22, .bipush 97, 2), (24, .if_icmp .ne 14, 3), (27, .aload_n 0, 1), (28, .aload_n 0, 1), (29, .getfield 222, 3), (32, .invokevirtual 129, 3), (35, .goto 25, 3), (38, .aload_n 0, 1), (39, .aload_n 0, 1), (40, .getfield 222, 3), (43, .aload_n 0, 1), (44, .getfield 225, 3), (47, .bipush 114, 2), (49, .if_icmp .ne 7, 3), (52, .iconst 1, 1), (53, .goto 4, 3), (56, .iconst 0, 1), (57, .invokevirtual 139, 3), (60, .ifCond .ne 7, 3), (63, .iconst 1, 1), (64, .goto 4, 3), (67, .iconst 0, 1), (68, .ireturn, 1)]
def cd_203 : List (Nat × Instr × Nat) := [(0, .aload_n 0, 1), (1, .getfield 225, 3), (4, .lookupswitch 65 #[(97, 56), (101, 51), (119, 36)], 36), (40, .aload_n 0, 1), (41, .getfield 7, 3), (44, .iconst 2, 1), (45, .aload_n 0, 1), (46, .getfield 222, 3), (49, .iastore, 1), (50, .aload_n 0, 1), (51, .getfield 222, 3), (54, .ireturn, 1), (55, .aload_n 0, 1), (56, .invokevirtual 145, 3), (59, .ireturn, 1), (60, .aload_n 0, 1), (61, .aload_n 0, 1), (62, .getfield 222, 3), (65, .invokevirtual 132, 3), (68, .ireturn, 1), (69, .aload_n 0, 1), (70, .aload_n 0, 1), (71, .getfield 222, 3), (74, .aload_n 0, 1), (75, .getfield 225, 3), (78, .bipush 114, 2), (80, .if_icmp .ne 7, 3), (83, .iconst 1, 1), (84, .goto 4, 3), (87, .iconst 0, 1), (88, .invokevirtual 142, 3), (91, .ireturn, 1)]
def cd_204 : List (Nat × Instr × Nat) := [(0, .aload_n 0, 1), (1, .iconst 0, 1), (2, .putfield 26, 3), (5, .aload_n 0, 1), (6, .invokevirtual 239, 3), (9, .ifCond .ne 11, 3), (12, .bipush (-10), 2), (14, .aload_n 0, 1), (15, .getfield 216, 3), (18, .isub, 1), (19, .ireturn, 1), (20, .aload_n 0, 1), (21, .invokevirtual 77, 3), (24, .aload_n 0, 1), (25, .iconst 0, 1), (26, .putfield 216, 3), (29, .iconst 0, 1), (30, .istore_n 1, 1), (31, .iconst 1, 1), (32, .istore_n 2, 1), (33, .iload_n 2, 1), (34, .ifCond .eq 41, 3), (37, .aload_n 0, 1), (38, .getfield 216, 3), (41, .aload_n 0, 1), (42, .getfield 213, 3), (45, .if_icmp .ge 30, 3), (48, .aload_n 0, 1), (49, .invokevirtual 235, 3), (52, .ifCond .eq 23, 3), (55, .aload_n 0, 1), (56, .invokevirtual 242, 3), (59, .istore_n 2, 1), (60, .iload_n 2, 1), (61, .ifCond .eq (-28), 3), (64, .aload_n 0, 1), (65, .invokevirtual 245, 3), (68, .istore_n 3, 1), (69, .iinc 1 1, 3), (72, .goto (-39), 3), (75, .iload_n 1, 1), (76, .ireturn, 1)]
def cd_205 : List (Nat × Instr × Nat) := [(0, .aload_n 0, 1), (1, .aload_n 0, 1), (2, .getfield 30, 3), (5, .ifCond .ne 7, 3), (8, .iconst 1, 1), (9, .goto 4, 3), (12, .iconst 0, 1), (13, .putfield 26, 3), (16, .aload_n 0, 1), (17, .getfield 26, 3), (20, .ifCond .eq 5, 3), (23, .iconst 0, 1), (24, .ireturn, 1), (25, .aload_n 0, 1), (26, .dup, 1), (27, .getfield 30, 3), (30, .iconst 1, 1), (31, .isub, 1), (32, .putfield 30, 3), (35, .iconst 0, 1), (36, .istore_n 1, 1), (37, .iload_n 1, 1), (38, .sipush 270, 3), (41, .if_icmp .ge 30, 3), (44, .aload_n 0, 1), (45, .getfield 7, 3), (48, .iload_n 1, 1), (49, .aload_n 0, 1), (50, .getfield 13, 3), (53, .sipush 270, 3), (56, .aload_n 0, 1), (57, .getfield 30, 3), (60, .imul, 1), (61, .iload_n 1, 1), (62, .iadd, 1), (63, .iaload, 1), (64, .iastore, 1), (65, .iinc 1 1, 3), (68, .goto (-31), 3), (71, .aload_n 0, 1), (72, .getfield 30, 3), (75, .ireturn, 1)]
def cd_206 : List (Nat × Instr × Nat) := [(0, .aload_n 0, 1), (1, .ldc2_w 248, 3), (4, .aload_n 0, 1), (5, .getfield 250, 3), (8, .lmul, 1), (9, .lload_n 1, 1), (10, .ladd, 1), (11, .putfield 250, 3), (14, .return_, 1)]
def cd_207 : List (Nat × Instr × Nat) := [(0, .aload_n 0, 1), (1, .iconst 0, 1), (2, .putfield 26, 3), (5, .aload_n 0, 1), (6, .ldc2_w 254, 3), (9, .putfield 250, 3), (12, .aload_n 0, 1), (13, .aload_n 0, 1), (14, .getfield 213, 3), (17, .i2l, 1), (18, .invokevirtual 256, 3), (21, .iconst 0, 1), (22, .istore_n 1, 1), (23, .iload_n 1, 1), (24, .bipush 10, 2), (26, .if_icmp .ge 19, 3), (29, .aload_n 0, 1), (30, .aload_n 0, 1), (31, .iload_n 1, 1), (32, .invokevirtual 114, 3), (35, .i2l, 1), (36, .invokevirtual 256, 3), (39, .iinc 1 1, 3), (42, .goto (-19), 3), (45, .iconst 0, 1), (46, .istore_n 1, 1), (47, .iload_n 1, 1), (48, .aload_n 0, 1), (49, .getfield 7, 3), (52, .iconst 5, 1), (53, .iaload, 1), (54, .if_icmp .ge 44, 3), (57, .iconst 0, 1), (58, .istore_n 2, 1), (59, .iload_n 2, 1), (60, .bipush 15, 2), (62, .if_icmp .ge 20, 3), (65, .aload_n 0, 1), (66, .aload_n 0, 1), (67, .iload_n 1, 1), (68, .iload_n 2, 1), (69, .invokevirtual 120, 3), (72, .i2l, 1), (73, .invokevirtual 256, 3), (76, .iinc 2 1, 3), (79, .goto (-20), 3), (82, .aload_n 0, 1), (83, .aload_n 0, 1), (84, .iload_n 1, 1), (85, .invokevirtual 208, 3), (88, .i2l, 1), (89, .invokevirtual 256, 3), (92, .iinc 1 1, 3), (95, .goto (-48), 3), (98, .iconst 0, 1), (99, .istore_n 1, 1), (100, .iload_n 1, 1), (101, .aload_n 0, 1), (102, .invokevirtual 33, 3), (105, .if_icmp .ge 19, 3), (108, .aload_n 0, 1), (109, .aload_n 0, 1), (110, .iload_n 1, 1), (111, .invokevirtual 59, 3), (114, .i2l, 1), (115, .invokevirtual 256, 3), (118, .iinc 1 1, 3), (121, .goto (-21), 3), (124, .aload_n 0, 1), (125, .aload_n 0, 1), (126, .getfield 30, 3), (129, .i2l, 1), (130, .invokevirtual 256, 3), (133, .aload_n 0, 1), (134, .getfield 250, 3), (137, .lreturn, 1)]
def cd_208 : List (Nat × Instr × Nat) := [(0, .iload_n 0, 1), (1, .iload_n 1, 1), (2, .irem, 1), (3, .istore_n 2, 1), (4, .iload_n 0, 1), (5, .iload_n 1, 1), (6, .ixor, 1), (7, .ifCond .ge 11, 3), (10, .iload_n 2, 1), (11, .ifCond .eq 7, 3), (14, .iload_n 2, 1), (15, .iload_n 1, 1), (16, .iadd, 1), (17, .ireturn, 1), (18, .iload_n 2, 1), (19, .ireturn, 1)]
def cd_209 : List (Nat × Instr × Nat) := [(0, .iload_n 0, 1), (1, .ifCond .ge 8, 3), (4, .iload_n 0, 1), (5, .ineg, 1), (6, .goto 4, 3), (9, .iload_n 0, 1), (10, .ireturn, 1)]
def cd_210 : List (Nat × Instr × Nat) := [(0, .iload_n 0, 1), (1, .iload_n 1, 1), (2, .if_icmp .lt 7, 3), (5, .iload_n 0, 1), (6, .goto 4, 3), (9, .iload_n 1, 1), (10, .ireturn, 1)]
def cd_211 : List (Nat × Instr × Nat) := [(0, .iload_n 0, 1), (1, .iload_n 1, 1), (2, .if_icmp .gt 7, 3), (5, .iload_n 0, 1), (6, .goto 4, 3), (9, .iload_n 1, 1), (10, .ireturn, 1)]
def cd_212 : List (Nat × Instr × Nat) := [(0, .iconst 0, 1), (1, .istore_n 2, 1), (2, .aload_n 0, 1), (3, .arraylength, 1), (4, .istore_n 3, 1), (5, .iload_n 2, 1), (6, .iload_n 3, 1), (7, .if_icmp .ge 13, 3), (10, .aload_n 0, 1), (11, .iload_n 2, 1), (12, .iload_n 1, 1), (13, .iastore, 1), (14, .iinc 2 1, 3), (17, .goto (-12), 3), (20, .return_, 1)]
def cd_213 : List (Nat × Instr × Nat) := [(0, .aload_n 3, 1), (1, .iconst 0, 1), (2, .aload_n 0, 1), (3, .iload_n 1, 1), (4, .iload_n 2, 1), (5, .invokevirtual 7, 3), (8, .i2l, 1), (9, .lastore, 1), (10, .goto 7, 3), (13, .astore 4, 2), (15, .iconst 1, 1), (16, .ireturn, 1), (17, .iconst 0, 1), (18, .ireturn, 1)]
def cd_214 : List (Nat × Instr × Nat) := [(0, .aload_n 3, 1), (1, .iconst 0, 1), (2, .aload_n 0, 1), (3, .iload_n 1, 1), (4, .iload_n 2, 1), (5, .invokevirtual 15, 3), (8, .i2l, 1), (9, .lastore, 1), (10, .goto 11, 3), (13, .astore 4, 2), (15, .iconst 1, 1), (16, .ireturn, 1), (17, .astore 4, 2), (19, .iconst 2, 1), (20, .ireturn, 1), (21, .iconst 0, 1), (22, .ireturn, 1)]
def cd_215 : List (Nat × Instr × Nat) := [(0, .aload_n 3, 1), (1, .iconst 0, 1), (2, .aload_n 0, 1), (3, .iload_n 1, 1), (4, .iload_n 2, 1), (5, .invokevirtual 23, 3), (8, .i2l, 1), (9, .lastore, 1), (10, .goto 7, 3), (13, .astore 4, 2), (15, .iconst 1, 1), (16, .ireturn, 1), (17, .iconst 0, 1), (18, .ireturn, 1)]
def cd_216 : List (Nat × Instr × Nat) := [(0, .aload 7, 2), (2, .iconst 0, 1), (3, .aload_n 0, 1), (4, .iload_n 1, 1), (5, .iload_n 2, 1), (6, .iload_n 3, 1), (7, .iload 4, 2), (9, .iload 5, 2), (11, .iload 6, 2), (13, .invokevirtual 26, 3), (16, .i2l, 1), (17, .lastore, 1), (18, .goto 15, 3), (21, .astore 8, 2), (23, .iconst 1, 1), (24, .ireturn, 1), (25, .astore 8, 2), (27, .iconst 2, 1), (28, .ireturn, 1), (29, .astore 8, 2), (31, .iconst 3, 1), (32, .ireturn, 1), (33, .iconst 0, 1), (34, .ireturn, 1)]
def cd_217 : List (Nat × Instr × Nat) := [(0, .aload_n 2, 1), (1, .iconst 0, 1), (2, .aload_n 0, 1), (3, .iload_n 1, 1), (4, .invokevirtual 30, 3), (7, .i2l, 1), (8, .lastore, 1), (9, .goto 6, 3), (12, .astore_n 3, 1), (13, .iconst 1, 1), (14, .ireturn, 1), (15, .iconst 0, 1), (16, .ireturn, 1)]
def cd_218 : List (Nat × Instr × Nat) := [(0, .aload_n 3, 1), (1, .iconst 0, 1), (2, .aload_n 0, 1), (3, .iload_n 1, 1), (4, .iload_n 2, 1), (5, .invokevirtual 34, 3), (8, .i2l, 1), (9, .lastore, 1), (10, .goto 11, 3), (13, .astore 4, 2), (15, .iconst 1, 1), (16, .ireturn, 1), (17, .astore 4, 2), (19, .iconst 2, 1), (20, .ireturn, 1), (21, .iconst 0, 1), (22, .ireturn, 1)]
def cd_219 : List (Nat × Instr × Nat) := [(0, .aload_n 2, 1), (1, .iconst 0, 1), (2, .aload_n 0, 1), (3, .iload_n 1, 1), (4, .invokevirtual 37, 3), (7, .i2l, 1), (8, .lastore, 1), (9, .goto 6, 3), (12, .astore_n 3, 1), (13, .iconst 1, 1), (14, .ireturn, 1), (15, .iconst 0, 1), (16, .ireturn, 1)]
def cd_220 : List (Nat × Instr × Nat) := [(0, .aload_n 3, 1), (1, .iconst 0, 1), (2, .aload_n 0, 1), (3, .iload_n 1, 1), (4, .iload_n 2, 1), (5, .invokevirtual 40, 3), (8, .i2l, 1), (9, .lastore, 1), (10, .goto 7, 3), (13, .astore 4, 2), (15, .iconst 1, 1), (16, .ireturn, 1), (17, .iconst 0, 1), (18, .ireturn, 1)]
def cd_221 : List (Nat × Instr × Nat) := [(0, .aload_n 3, 1), (1, .iconst 0, 1), (2, .aload_n 0, 1), (3, .iload_n 1, 1), (4, .iload_n 2, 1), (5, .invokevirtual 43, 3), (8, .i2l, 1), (9, .lastore, 1), (10, .goto 7, 3), (13, .astore 4, 2), (15, .iconst 1, 1), (16, .ireturn, 1), (17, .iconst 0, 1), (18, .ireturn, 1)]
def cd_222 : List (Nat × Instr × Nat) := [(0, .aload_n 2, 1), (1, .iconst 0, 1), (2, .aload_n 0, 1), (3, .iload_n 1, 1), (4, .invokevirtual 46, 3), (7, .i2l, 1), (8, .lastore, 1), (9, .goto 9, 3), (12, .astore_n 3, 1), (13, .iconst 1, 1), (14, .ireturn, 1), (15, .astore_n 3, 1), (16, .iconst 2, 1), (17, .ireturn, 1), (18, .iconst 0, 1), (19, .ireturn, 1)]
def cd_223 : List (Nat × Instr × Nat) := [(0, .aload_n 3, 1), (1, .iconst 0, 1), (2, .aload_n 0, 1), (3, .iload_n 1, 1), (4, .iload_n 2, 1), (5, .invokevirtual 49, 3), (8, .i2l, 1), (9, .lastore, 1), (10, .goto 11, 3), (13, .astore 4, 2), (15, .iconst 1, 1), (16, .ireturn, 1), (17, .astore 4, 2), (19, .iconst 2, 1), (20, .ireturn, 1), (21, .iconst 0, 1), (22, .ireturn, 1)]
def cd_224 : List (Nat × Instr × Nat) := [(0, .aload 4, 2), (2, .iconst 0, 1), (3, .aload_n 0, 1), (4, .iload_n 1, 1), (5, .iload_n 2, 1), (6, .iload_n 3, 1), (7, .invokevirtual 52, 3), (10, .i2l, 1), (11, .lastore, 1), (12, .goto 11, 3), (15, .astore 5, 2), (17, .iconst 1, 1), (18, .ireturn, 1), (19, .astore 5, 2), (21, .iconst 2, 1), (22, .ireturn, 1), (23, .iconst 0, 1), (24, .ireturn, 1)]
def cd_225 : List (Nat × Instr × Nat) := [(0, .aload 5, 2), (2, .iconst 0, 1), (3, .aload_n 0, 1), (4, .iload_n 1, 1), (5, .iload_n 2, 1), (6, .iload_n 3, 1), (7, .iload 4, 2), (9, .invokevirtual 56, 3), (12, .i2l, 1), (13, .lastore, 1), (14, .goto 15, 3), (17, .astore 6, 2), (19, .iconst 1, 1), (20, .ireturn, 1), (21, .astore 6, 2), (23, .iconst 2, 1), (24, .ireturn, 1), (25, .astore 6, 2), (27, .iconst 3, 1), (28, .ireturn, 1), (29, .iconst 0, 1), (30, .ireturn, 1)]
def cd_226 : List (Nat × Instr × Nat) := [(0, .aload_n 3, 1), (1, .iconst 0, 1), (2, .aload_n 0, 1), (3, .iload_n 1, 1), (4, .iload_n 2, 1), (5, .invokevirtual 60, 3), (8, .i2l, 1), (9, .lastore, 1), (10, .goto 15, 3), (13, .astore 4, 2), (15, .iconst 1, 1), (16, .ireturn, 1), (17, .astore 4, 2), (19, .iconst 2, 1), (20, .ireturn, 1), (21, .astore 4, 2), (23, .iconst 3, 1), (24, .ireturn, 1), (25, .iconst 0, 1), (26, .ireturn, 1)]
def cd_227 : List (Nat × Instr × Nat) := [(0, .aload_n 2, 1), (1, .iconst 0, 1), (2, .aload_n 0, 1), (3, .iload_n 1, 1), (4, .invokevirtual 63, 3), (7, .i2l, 1), (8, .lastore, 1), (9, .goto 9, 3), (12, .astore_n 3, 1), (13, .iconst 1, 1), (14, .ireturn, 1), (15, .astore_n 3, 1), (16, .iconst 2, 1), (17, .ireturn, 1), (18, .iconst 0, 1), (19, .ireturn, 1)]
def cd_228 : List (Nat × Instr × Nat) := [(0, .aload_n 2, 1), (1, .iconst 0, 1), (2, .aload_n 0, 1), (3, .iload_n 1, 1), (4, .invokevirtual 66, 3), (7, .i2l, 1), (8, .lastore, 1), (9, .goto 9, 3), (12, .astore_n 3, 1), (13, .iconst 1, 1), (14, .ireturn, 1), (15, .astore_n 3, 1), (16, .iconst 2, 1), (17, .ireturn, 1), (18, .iconst 0, 1), (19, .ireturn, 1)]
def cd_229 : List (Nat × Instr × Nat) := [(0, .aload_n 2, 1), (1, .iconst 0, 1), (2, .aload_n 0, 1), (3, .iload_n 1, 1), (4, .invokevirtual 69, 3), (7, .i2l, 1), (8, .lastore, 1), (9, .goto 6, 3), (12, .astore_n 3, 1), (13, .iconst 1, 1), (14, .ireturn, 1), (15, .iconst 0, 1), (16, .ireturn, 1)]
def cd_230 : List (Nat × Instr × Nat) := [(0, .aload_n 3, 1), (1, .iconst 0, 1), (2, .aload_n 0, 1), (3, .iload_n 1, 1), (4, .iload_n 2, 1), (5, .invokevirtual 72, 3), (8, .i2l, 1), (9, .lastore, 1), (10, .goto 7, 3), (13, .astore 4, 2), (15, .iconst 1, 1), (16, .ireturn, 1), (17, .iconst 0, 1), (18, .ireturn, 1)]
def cd_231 : List (Nat × Instr × Nat) := [(0, .aload_n 2, 1), (1, .iconst 0, 1), (2, .aload_n 0, 1), (3, .iload_n 1, 1), (4, .invokevirtual 75, 3), (7, .i2l, 1), (8, .lastore, 1), (9, .goto 6, 3), (12, .astore_n 3, 1), (13, .iconst 1, 1), (14, .ireturn, 1), (15, .iconst 0, 1), (16, .ireturn, 1)]
def cd_232 : List (Nat × Instr × Nat) := [(0, .aload_n 2, 1), (1, .iconst 0, 1), (2, .aload_n 0, 1), (3, .iload_n 1, 1), (4, .invokevirtual 78, 3), (7, .i2l, 1), (8, .lastore, 1), (9, .goto 6, 3), (12, .astore_n 3, 1), (13, .iconst 1, 1), (14, .ireturn, 1), (15, .iconst 0, 1), (16, .ireturn, 1)]
def cd_233 : List (Nat × Instr × Nat) := [(0, .aload_n 2, 1), (1, .iconst 0, 1), (2, .aload_n 0, 1), (3, .iload_n 1, 1), (4, .invokevirtual 81, 3), (7, .dastore, 1), (8, .goto 6, 3), (11, .astore_n 3, 1), (12, .iconst 1, 1), (13, .ireturn, 1), (14, .iconst 0, 1), (15, .ireturn, 1)]
def cd_234 : List (Nat × Instr × Nat) := [(0, .aload_n 2, 1), (1, .iconst 0, 1), (2, .aload_n 0, 1), (3, .iload_n 1, 1), (4, .invokevirtual 85, 3), (7, .i2l, 1), (8, .lastore, 1), (9, .goto 9, 3), (12, .astore_n 3, 1), (13, .iconst 1, 1), (14, .ireturn, 1), (15, .astore_n 3, 1), (16, .iconst 2, 1), (17, .ireturn, 1), (18, .iconst 0, 1), (19, .ireturn, 1)]
def cd_235 : List (Nat × Instr × Nat) := [(0, .aload_n 1, 1), (1, .iconst 0, 1), (2, .aload_n 0, 1), (3, .invokevirtual 88, 3), (6, .i2l, 1), (7, .lastore, 1), (8, .goto 6, 3), (11, .astore_n 2, 1), (12, .iconst 1, 1), (13, .ireturn, 1), (14, .iconst 0, 1), (15, .ireturn, 1)]
def cd_236 : List (Nat × Instr × Nat) := [(0, .new 8, 3), (3, .dup, 1), (4, .invokespecial 92, 3), (7, .astore_n 1, 1), (8, .new 93, 3), (11, .dup, 1), (12, .invokespecial 95, 3), (15, .astore_n 2, 1), (16, .iconst 1, 1), (17, .newarray .long, 2), (19, .astore_n 3, 1), (20, .iconst 1, 1), (21, .newarray .double, 2), (23, .astore 4, 2), (25, .iconst 0, 1), (26, .istore 5, 2), (28, .iload 5, 2), (30, .aload_n 0, 1), (31, .arraylength, 1), (32, .bipush 7, 2), (34, .isub, 1), (35, .if_icmp .gt 1783, 3), (38, .aload_n 0, 1), (39, .iload 5, 2), (41, .iaload, 1), (42, .bipush 31, 2), (44, .iand, 1), (45, .tableswitch 1767 0 26 #[123, 191, 275, 343, 461, 517, 585, 641, 709, 777, 833, 917, 930, 1026, 1134, 1202, 1258, 1314, 1370, 1438, 1494, 1550, 1627, 1683, 1696, 1709, 1753], 123), (168, .aload_n 1, 1), (169, .aload_n 0, 1), (170, .iload 5, 2), (172, .iconst 1, 1), (173, .iadd, 1), (174, .iaload, 1), (175, .aload_n 0, 1), (176, .iload 5, 2), (178, .iconst 2, 1), (179, .iadd, 1), (180, .iaload, 1), (181, .aload_n 3, 1), (182, .invokestatic 96, 3), (185, .istore 6, 2), (187, .aload_n 2, 1), (188, .aload_n 0, 1), (189, .iload 5, 2), (191, .iconst 1, 1), (192, .iadd, 1), (193, .iaload, 1), (194, .aload_n 0, 1), (195, .iload 5, 2), (197, .iconst 2, 1), (198, .iadd, 1), (199, .iaload, 1), (200, .invokevirtual 101, 3), (203, .istore 7, 2), (205, .aload_n 2, 1), (206, .invokevirtual 102, 3), (209, .iload 6, 2), (211, .if_icmp .eq 5, 3), (214, .iconst 0, 1), (215, .ireturn, 1), (216, .iload 6, 2), (218, .ifCond .ne 15, 3), (221, .aload_n 3, 1), (222, .iconst 0, 1), (223, .laload, 1), (224, .iload 7, 2), (226, .i2l, 1), (227, .lcmp, 1), (228, .ifCond .eq 5, 3), (231, .iconst 0, 1), (232, .ireturn, 1), (233, .goto 1579, 3), (236, .aload_n 1, 1), (237, .aload_n 0, 1), (238, .iload 5, 2), (240, .iconst 1, 1), (241, .iadd, 1), (242, .iaload, 1), (243, .aload_n 0, 1), (244, .iload 5, 2), (246, .iconst 2, 1), (247, .iadd, 1), (248, .iaload, 1), (249, .ifCond .eq 7, 3), (252, .iconst 1, 1), (253, .goto 4, 3), (256, .iconst 0, 1), (257, .aload_n 3, 1), (258, .invokestatic 105, 3), (261, .istore 6, 2), (263, .aload_n 2, 1), (264, .aload_n 0, 1), (265, .iload 5, 2), (267, .iconst 1, 1), (268, .iadd, 1), (269, .iaload, 1), (270, .aload_n 0, 1), (271, .iload 5, 2), (273, .iconst 2, 1), (274, .iadd, 1), (275, .iaload, 1), (276, .ifCond .eq 7, 3), (279, .iconst 1, 1), (280, .goto 4, 3), (283, .iconst 0, 1), (284, .invokevirtual 108, 3), (287, .istore 7, 2), (289, .aload_n 2, 1), (290, .invokevirtual 102, 3), (293, .iload 6, 2), (295, .if_icmp .eq 5, 3), (298, .iconst 0, 1), (299, .ireturn, 1), (300, .iload 6, 2), (302, .ifCond .ne 15, 3), (305, .aload_n 3, 1), (306, .iconst 0, 1), (307, .laload, 1), (308, .iload 7, 2), (310, .i2l, 1), (311, .lcmp, 1), (312, .ifCond .eq 5, 3), (315, .iconst 0, 1), (316, .ireturn, 1), (317, .goto 1495, 3), (320, .aload_n 1, 1), (321, .aload_n 0, 1), (322, .iload 5, 2), (324, .iconst 1, 1), (325, .iadd, 1), (326, .iaload, 1), (327, .aload_n 0, 1), (328, .iload 5, 2), (330, .iconst 2, 1), (331, .iadd, 1), (332, .iaload, 1), (333, .aload_n 3, 1), (334, .invokestatic 109, 3), (337, .istore 6, 2), (339, .aload_n 2, 1), (340, .aload_n 0, 1), (341, .iload 5, 2), (343, .iconst 1, 1), (344, .iadd, 1), (345, .iaload, 1), (346, .aload_n 0, 1), (347, .iload 5, 2), (349, .iconst 2, 1), (350, .iadd, 1), (351, .iaload, 1), (352, .invokevirtual 111, 3), (355, .istore 7, 2), (357, .aload_n 2, 1), (358, .invokevirtual 102, 3), (361, .iload 6, 2), (363, .if_icmp .eq 5, 3), (366, .iconst 0, 1), (367, .ireturn, 1), (368, .iload 6, 2), (370, .ifCond .ne 15, 3), (373, .aload_n 3, 1), (374, .iconst 0, 1), (375, .laload, 1), (376, .iload 7, 2), (378, .i2l, 1), (379, .lcmp, 1), (380, .ifCond .eq 5, 3), (383, .iconst 0, 1), (384, .ireturn, 1), (385, .goto 1427, 3), (388, .aload_n 1, 1), (389, .aload_n 0, 1), (390, .iload 5, 2), (392, .iconst 1, 1), (393, .iadd, 1), (394, .iaload, 1), (395, .aload_n 0, 1), (396, .iload 5, 2), (398, .iconst 2, 1), (399, .iadd, 1), (400, .iaload, 1), (401, .aload_n 0, 1), (402, .iload 5, 2), (404, .iconst 3, 1), (405, .iadd, 1), (406, .iaload, 1), (407, .aload_n 0, 1), (408, .iload 5, 2), (410, .iconst 4, 1), (411, .iadd, 1), (412, .iaload, 1), (413, .aload_n 0, 1), (414, .iload 5, 2), (416, .iconst 5, 1), (417, .iadd, 1), (418, .iaload, 1), (419, .aload_n 0, 1), (420, .iload 5, 2), (422, .bipush 6, 2), (424, .iadd, 1), (425, .iaload, 1), (426, .aload_n 3, 1), (427, .invokestatic 112, 3), (430, .istore 6, 2), (432, .aload_n 2, 1), (433, .aload_n 0, 1), (434, .iload 5, 2), (436, .iconst 1, 1), (437, .iadd, 1), (438, .iaload, 1), (439, .aload_n 0, 1), (440, .iload 5, 2), (442, .iconst 2, 1), (443, .iadd, 1), (444, .iaload, 1), (445, .aload_n 0, 1), (446, .iload 5, 2), (448, .iconst 3, 1), (449, .iadd, 1), (450, .iaload, 1), (451, .aload_n 0, 1), (452, .iload 5, 2), (454, .iconst 4, 1), (455, .iadd, 1), (456, .iaload, 1), (457, .aload_n 0, 1), (458, .iload 5, 2), (460, .iconst 5, 1), (461, .iadd, 1), (462, .iaload, 1), (463, .aload_n 0, 1), (464, .iload 5, 2), (466, .bipush 6, 2), (468, .iadd, 1), (469, .iaload, 1), (470, .invokevirtual 115, 3), (473, .istore 7, 2), (475, .aload_n 2, 1), (476, .invokevirtual 102, 3), (479, .iload 6, 2), (481, .if_icmp .eq 5, 3), (484, .iconst 0, 1), (485, .ireturn, 1), (486, .iload 6, 2), (488, .ifCond .ne 15, 3), (491, .aload_n 3, 1), (492, .iconst 0, 1), (493, .laload, 1), (494, .iload 7, 2), (496, .i2l, 1), (497, .lcmp, 1), (498, .ifCond .eq 5, 3), (501, .iconst 0, 1), (502, .ireturn, 1), (503, .goto 1309, 3), (506, .aload_n 1, 1), (507, .aload_n 0, 1), (508, .iload 5, 2), (510, .iconst 1, 1), (511, .iadd, 1), (512, .iaload, 1), (513, .aload_n 3, 1), (514, .invokestatic 116, 3), (517, .istore 6, 2), (519, .aload_n 2, 1), (520, .aload_n 0, 1), (521, .iload 5, 2), (523, .iconst 1, 1), (524, .iadd, 1), (525, .iaload, 1), (526, .invokevirtual 119, 3), (529, .istore 7, 2), (531, .aload_n 2, 1), (532, .invokevirtual 102, 3), (535, .iload 6, 2), (537, .if_icmp .eq 5, 3), (540, .iconst 0, 1), (541, .ireturn, 1), (542, .iload 6, 2), (544, .ifCond .ne 15, 3), (547, .aload_n 3, 1), (548, .iconst 0, 1), (549, .laload, 1), (550, .iload 7, 2), (552, .i2l, 1), (553, .lcmp, 1), (554, .ifCond .eq 5, 3), (557, .iconst 0, 1), (558, .ireturn, 1), (559, .goto 1253, 3), (562, .aload_n 1, 1), (563, .aload_n 0, 1), (564, .iload 5, 2), (566, .iconst 1, 1), (567, .iadd, 1), (568, .iaload, 1), (569, .aload_n 0, 1), (570, .iload 5, 2), (572, .iconst 2, 1), (573, .iadd, 1), (574, .iaload, 1), (575, .aload_n 3, 1), (576, .invokestatic 120, 3), (579, .istore 6, 2), (581, .aload_n 2, 1), (582, .aload_n 0, 1), (583, .iload 5, 2), (585, .iconst 1, 1), (586, .iadd, 1), (587, .iaload, 1), (588, .aload_n 0, 1), (589, .iload 5, 2), (591, .iconst 2, 1), (592, .iadd, 1), (593, .iaload, 1), (594, .invokevirtual 122, 3), (597, .istore 7, 2), (599, .aload_n 2, 1), (600, .invokevirtual 102, 3), (603, .iload 6, 2), (605, .if_icmp .eq 5, 3), (608, .iconst 0, 1), (609, .ireturn, 1), (610, .iload 6, 2), (612, .ifCond .ne 15, 3), (615, .aload_n 3, 1), (616, .iconst 0, 1), (617, .laload, 1), (618, .iload 7, 2), (620, .i2l, 1), (621, .lcmp, 1), (622, .ifCond .eq 5, 3), (625, .iconst 0, 1), (626, .ireturn, 1), (627, .goto 1185, 3), (630, .aload_n 1, 1), (631, .aload_n 0, 1), (632, .iload 5, 2), (634, .iconst 1, 1), (635, .iadd, 1), (636, .iaload, 1), (637, .aload_n 3, 1), (638, .invokestatic 123, 3), (641, .istore 6, 2), (643, .aload_n 2, 1), (644, .aload_n 0, 1), (645, .iload 5, 2), (647, .iconst 1, 1), (648, .iadd, 1), (649, .iaload, 1), (650, .invokevirtual 125, 3), (653, .istore 7, 2), (655, .aload_n 2, 1), (656, .invokevirtual 102, 3), (659, .iload 6, 2), (661, .if_icmp .eq 5, 3), (664, .iconst 0, 1), (665, .ireturn, 1), (666, .iload 6, 2), (668, .ifCond .ne 15, 3), (671, .aload_n 3, 1), (672, .iconst 0, 1), (673, .laload, 1), (674, .iload 7, 2), (676, .i2l, 1), (677, .lcmp, 1), (678, .ifCond .eq 5, 3), (681, .iconst 0, 1), (682, .ireturn, 1), (683, .goto 1129, 3), (686, .aload_n 1, 1), (687, .aload_n 0, 1), (688, .iload 5, 2), (690, .iconst 1, 1), (691, .iadd, 1), (692, .iaload, 1), (693, .aload_n 0, 1), (694, .iload 5, 2), (696, .iconst 2, 1), (697, .iadd, 1), (698, .iaload, 1), (699, .aload_n 3, 1), (700, .invokestatic 126, 3), (703, .istore 6, 2), (705, .aload_n 2, 1), (706, .aload_n 0, 1), (707, .iload 5, 2), (709, .iconst 1, 1), (710, .iadd, 1), (711, .iaload, 1), (712, .aload_n 0, 1), (713, .iload 5, 2), (715, .iconst 2, 1), (716, .iadd, 1), (717, .iaload, 1), (718, .invokevirtual 128, 3), (721, .istore 7, 2), (723, .aload_n 2, 1), (724, .invokevirtual 102, 3), (727, .iload 6, 2), (729, .if_icmp .eq 5, 3), (732, .iconst 0, 1), (733, .ireturn, 1), (734, .iload 6, 2), (736, .ifCond .ne 15, 3), (739, .aload_n 3, 1), (740, .iconst 0, 1), (741, .laload, 1), (742, .iload 7, 2), (744, .i2l, 1), (745, .lcmp, 1), (746, .ifCond .eq 5, 3), (749, .iconst 0, 1), (750, .ireturn, 1), (751, .goto 1061, 3), (754, .aload_n 1, 1), (755, .aload_n 0, 1), (756, .iload 5, 2), (758, .iconst 1, 1), (759, .iadd, 1), (760, .iaload, 1), (761, .aload_n 0, 1), (762, .iload 5, 2), (764, .iconst 2, 1), (765, .iadd, 1), (766, .iaload, 1), (767, .aload_n 3, 1), (768, .invokestatic 129, 3), (771, .istore 6, 2), (773, .aload_n 2, 1), (774, .aload_n 0, 1), (775, .iload 5, 2), (777, .iconst 1, 1), (778, .iadd, 1), (779, .iaload, 1), (780, .aload_n 0, 1), (781, .iload 5, 2), (783, .iconst 2, 1), (784, .iadd, 1), (785, .iaload, 1), (786, .invokevirtual 131, 3), (789, .istore 7, 2), (791, .aload_n 2, 1), (792, .invokevirtual 102, 3), (795, .iload 6, 2), (797, .if_icmp .eq 5, 3), (800, .iconst 0, 1), (801, .ireturn, 1), (802, .iload 6, 2), (804, .ifCond .ne 15, 3), (807, .aload_n 3, 1), (808, .iconst 0, 1), (809, .laload, 1), (810, .iload 7, 2), (812, .i2l, 1), (813, .lcmp, 1), (814, .ifCond .eq 5, 3), (817, .iconst 0, 1), (818, .ireturn, 1), (819, .goto 993, 3), (822, .aload_n 1, 1), (823, .aload_n 0, 1), (824, .iload 5, 2), (826, .iconst 1, 1), (827, .iadd, 1), (828, .iaload, 1), (829, .aload_n 3, 1), (830, .invokestatic 132, 3), (833, .istore 6, 2), (835, .aload_n 2, 1), (836, .aload_n 0, 1), (837, .iload 5, 2), (839, .iconst 1, 1), (840, .iadd, 1), (841, .iaload, 1), (842, .invokevirtual 134, 3), (845, .istore 7, 2), (847, .aload_n 2, 1), (848, .invokevirtual 102, 3), (851, .iload 6, 2), (853, .if_icmp .eq 5, 3), (856, .iconst 0, 1), (857, .ireturn, 1), (858, .iload 6, 2), (860, .ifCond .ne 15, 3), (863, .aload_n 3, 1), (864, .iconst 0, 1), (865, .laload, 1), (866, .iload 7, 2), (868, .i2l, 1), (869, .lcmp, 1), (870, .ifCond .eq 5, 3), (873, .iconst 0, 1), (874, .ireturn, 1), (875, .goto 937, 3), (878, .aload_n 1, 1), (879, .aload_n 0, 1), (880, .iload 5, 2), (882, .iconst 1, 1), (883, .iadd, 1), (884, .iaload, 1), (885, .aload_n 0, 1), (886, .iload 5, 2), (888, .iconst 2, 1), (889, .iadd, 1), (890, .iaload, 1), (891, .ifCond .eq 7, 3), (894, .iconst 1, 1), (895, .goto 4, 3), (898, .iconst 0, 1), (899, .aload_n 3, 1), (900, .invokestatic 135, 3), (903, .istore 6, 2), (905, .aload_n 2, 1), (906, .aload_n 0, 1), (907, .iload 5, 2), (909, .iconst 1, 1), (910, .iadd, 1), (911, .iaload, 1), (912, .aload_n 0, 1), (913, .iload 5, 2), (915, .iconst 2, 1), (916, .iadd, 1), (917, .iaload, 1), (918, .ifCond .eq 7, 3), (921, .iconst 1, 1), (922, .goto 4, 3), (925, .iconst 0, 1), (926, .invokevirtual 137, 3), (929, .istore 7, 2), (931, .aload_n 2, 1), (932, .invokevirtual 102, 3), (935, .iload 6, 2), (937, .if_icmp .eq 5, 3), (940, .iconst 0, 1), (941, .ireturn, 1), (942, .iload 6, 2), (944, .ifCond .ne 15, 3), (947, .aload_n 3, 1), (948, .iconst 0, 1), (949, .laload, 1), (950, .iload 7, 2), (952, .i2l, 1), (953, .lcmp, 1), (954, .ifCond .eq 5, 3), (957, .iconst 0, 1), (958, .ireturn, 1), (959, .goto 853, 3), (962, .aload_n 1, 1), (963, .invokevirtual 138, 3), (966, .aload_n 2, 1), (967, .invokevirtual 141, 3), (970, .if_icmp .eq 842, 3), (973, .iconst 0, 1), (974, .ireturn, 1), (975, .aload_n 1, 1), (976, .aload_n 0, 1), (977, .iload 5, 2), (979, .iconst 1, 1), (980, .iadd, 1), (981, .iaload, 1), (982, .aload_n 0, 1), (983, .iload 5, 2), (985, .iconst 2, 1), (986, .iadd, 1), (987, .iaload, 1), (988, .ifCond .eq 7, 3), (991, .iconst 1, 1), (992, .goto 4, 3), (995, .iconst 0, 1), (996, .aload_n 0, 1), (997, .iload 5, 2), (999, .iconst 3, 1), (1000, .iadd, 1), (1001, .iaload, 1), (1002, .aload_n 3, 1), (1003, .invokestatic 142, 3), (1006, .istore 6, 2), (1008, .aload_n 2, 1), (1009, .aload_n 0, 1), (1010, .iload 5, 2), (1012, .iconst 1, 1), (1013, .iadd, 1), (1014, .iaload, 1), (1015, .aload_n 0, 1), (1016, .iload 5, 2), (1018, .iconst 2, 1), (1019, .iadd, 1), (1020, .iaload, 1), (1021, .ifCond .eq 7, 3), (1024, .iconst 1, 1), (1025, .goto 4, 3), (1028, .iconst 0, 1), (1029, .aload_n 0, 1), (1030, .iload 5, 2), (1032, .iconst 3, 1), (1033, .iadd, 1), (1034, .iaload, 1), (1035, .invokevirtual 145, 3), (1038, .istore 7, 2), (1040, .aload_n 2, 1), (1041, .invokevirtual 102, 3), (1044, .iload 6, 2), (1046, .if_icmp .eq 5, 3), (1049, .iconst 0, 1), (1050, .ireturn, 1), (1051, .iload 6, 2), (1053, .ifCond .ne 15, 3), (1056, .aload_n 3, 1), (1057, .iconst 0, 1), (1058, .laload, 1), (1059, .iload 7, 2), (1061, .i2l, 1), (1062, .lcmp, 1), (1063, .ifCond .eq 5, 3), (1066, .iconst 0, 1), (1067, .ireturn, 1), (1068, .goto 744, 3), (1071, .aload_n 1, 1), (1072, .aload_n 0, 1), (1073, .iload 5, 2), (1075, .iconst 1, 1), (1076, .iadd, 1), (1077, .iaload, 1), (1078, .aload_n 0, 1), (1079, .iload 5, 2), (1081, .iconst 2, 1), (1082, .iadd, 1), (1083, .iaload, 1), (1084, .ifCond .eq 7, 3), (1087, .iconst 1, 1), (1088, .goto 4, 3), (1091, .iconst 0, 1), (1092, .aload_n 0, 1), (1093, .iload 5, 2), (1095, .iconst 3, 1), (1096, .iadd, 1), (1097, .iaload, 1), (1098, .aload_n 0, 1), (1099, .iload 5, 2), (1101, .iconst 4, 1), (1102, .iadd, 1), (1103, .iaload, 1), (1104, .aload_n 3, 1), (1105, .invokestatic 146, 3), (1108, .istore 6, 2), (1110, .aload_n 2, 1), (1111, .aload_n 0, 1), (1112, .iload 5, 2), (1114, .iconst 1, 1), (1115, .iadd, 1), (1116, .iaload, 1), (1117, .aload_n 0, 1), (1118, .iload 5, 2), (1120, .iconst 2, 1), (1121, .iadd, 1), (1122, .iaload, 1), (1123, .ifCond .eq 7, 3), (1126, .iconst 1, 1), (1127, .goto 4, 3), (1130, .iconst 0, 1), (1131, .aload_n 0, 1), (1132, .iload 5, 2), (1134, .iconst 3, 1), (1135, .iadd, 1), (1136, .iaload, 1), (1137, .aload_n 0, 1), (1138, .iload 5, 2), (1140, .iconst 4, 1), (1141, .iadd, 1), (1142, .iaload, 1), (1143, .invokevirtual 149, 3), (1146, .istore 7, 2), (1148, .aload_n 2, 1), (1149, .invokevirtual 102, 3), (1152, .iload 6, 2), (1154, .if_icmp .eq 5, 3), (1157, .iconst 0, 1), (1158, .ireturn, 1), (1159, .iload 6, 2), (1161, .ifCond .ne 15, 3), (1164, .aload_n 3, 1), (1165, .iconst 0, 1), (1166, .laload, 1), (1167, .iload 7, 2), (1169, .i2l, 1), (1170, .lcmp, 1), (1171, .ifCond .eq 5, 3), (1174, .iconst 0, 1), (1175, .ireturn, 1), (1176, .goto 636, 3), (1179, .aload_n 1, 1), (1180, .aload_n 0, 1), (1181, .iload 5, 2), (1183, .iconst 1, 1), (1184, .iadd, 1), (1185, .iaload, 1), (1186, .aload_n 0, 1), (1187, .iload 5, 2), (1189, .iconst 2, 1), (1190, .iadd, 1), (1191, .iaload, 1), (1192, .aload_n 3, 1), (1193, .invokestatic 150, 3), (1196, .istore 6, 2), (1198, .aload_n 2, 1), (1199, .aload_n 0, 1), (1200, .iload 5, 2), (1202, .iconst 1, 1), (1203, .iadd, 1), (1204, .iaload, 1), (1205, .aload_n 0, 1), (1206, .iload 5, 2), (1208, .iconst 2, 1), (1209, .iadd, 1), (1210, .iaload, 1), (1211, .invokevirtual 152, 3), (1214, .istore 7, 2), (1216, .aload_n 2, 1), (1217, .invokevirtual 102, 3), (1220, .iload 6, 2), (1222, .if_icmp .eq 5, 3), (1225, .iconst 0, 1), (1226, .ireturn, 1), (1227, .iload 6, 2), (1229, .ifCond .ne 15, 3), (1232, .aload_n 3, 1), (1233, .iconst 0, 1), (1234, .laload, 1), (1235, .iload 7, 2), (1237, .i2l, 1), (1238, .lcmp, 1), (1239, .ifCond .eq 5, 3), (1242, .iconst 0, 1), (1243, .ireturn, 1), (1244, .goto 568, 3), (1247, .aload_n 1, 1), (1248, .aload_n 0, 1), (1249, .iload 5, 2), (1251, .iconst 1, 1), (1252, .iadd, 1), (1253, .iaload, 1), (1254, .aload_n 3, 1), (1255, .invokestatic 153, 3), (1258, .istore 6, 2), (1260, .aload_n 2, 1), (1261, .aload_n 0, 1), (1262, .iload 5, 2), (1264, .iconst 1, 1), (1265, .iadd, 1), (1266, .iaload, 1), (1267, .invokevirtual 155, 3), (1270, .istore 7, 2), (1272, .aload_n 2, 1), (1273, .invokevirtual 102, 3), (1276, .iload 6, 2), (1278, .if_icmp .eq 5, 3), (1281, .iconst 0, 1), (1282, .ireturn, 1), (1283, .iload 6, 2), (1285, .ifCond .ne 15, 3), (1288, .aload_n 3, 1), (1289, .iconst 0, 1), (1290, .laload, 1), (1291, .iload 7, 2), (1293, .i2l, 1), (1294, .lcmp, 1), (1295, .ifCond .eq 5, 3), (1298, .iconst 0, 1), (1299, .ireturn, 1), (1300, .goto 512, 3), (1303, .aload_n 1, 1), (1304, .aload_n 0, 1), (1305, .iload 5, 2), (1307, .iconst 1, 1), (1308, .iadd, 1), (1309, .iaload, 1), (1310, .aload_n 3, 1), (1311, .invokestatic 156, 3), (1314, .istore 6, 2), (1316, .aload_n 2, 1), (1317, .aload_n 0, 1), (1318, .iload 5, 2), (1320, .iconst 1, 1), (1321, .iadd, 1), (1322, .iaload, 1), (1323, .invokevirtual 158, 3), (1326, .istore 7, 2), (1328, .aload_n 2, 1), (1329, .invokevirtual 102, 3), (1332, .iload 6, 2), (1334, .if_icmp .eq 5, 3), (1337, .iconst 0, 1), (1338, .ireturn, 1), (1339, .iload 6, 2), (1341, .ifCond .ne 15, 3), (1344, .aload_n 3, 1), (1345, .iconst 0, 1), (1346, .laload, 1), (1347, .iload 7, 2), (1349, .i2l, 1), (1350, .lcmp, 1), (1351, .ifCond .eq 5, 3), (1354, .iconst 0, 1), (1355, .ireturn, 1), (1356, .goto 456, 3), (1359, .aload_n 1, 1), (1360, .aload_n 0, 1), (1361, .iload 5, 2), (1363, .iconst 1, 1), (1364, .iadd, 1), (1365, .iaload, 1), (1366, .aload_n 3, 1), (1367, .invokestatic 159, 3), (1370, .istore 6, 2), (1372, .aload_n 2, 1), (1373, .aload_n 0, 1), (1374, .iload 5, 2), (1376, .iconst 1, 1), (1377, .iadd, 1), (1378, .iaload, 1), (1379, .invokevirtual 161, 3), (1382, .istore 7, 2), (1384, .aload_n 2, 1), (1385, .invokevirtual 102, 3), (1388, .iload 6, 2), (1390, .if_icmp .eq 5, 3), (1393, .iconst 0, 1), (1394, .ireturn, 1), (1395, .iload 6, 2), (1397, .ifCond .ne 15, 3), (1400, .aload_n 3, 1), (1401, .iconst 0, 1), (1402, .laload, 1), (1403, .iload 7, 2), (1405, .i2l, 1), (1406, .lcmp, 1), (1407, .ifCond .eq 5, 3), (1410, .iconst 0, 1), (1411, .ireturn, 1), (1412, .goto 400, 3), (1415, .aload_n 1, 1), (1416, .aload_n 0, 1), (1417, .iload 5, 2), (1419, .iconst 1, 1), (1420, .iadd, 1), (1421, .iaload, 1), (1422, .aload_n 0, 1), (1423, .iload 5, 2), (1425, .iconst 2, 1), (1426, .iadd, 1), (1427, .iaload, 1), (1428, .aload_n 3, 1), (1429, .invokestatic 162, 3), (1432, .istore 6, 2), (1434, .aload_n 2, 1), (1435, .aload_n 0, 1), (1436, .iload 5, 2), (1438, .iconst 1, 1), (1439, .iadd, 1), (1440, .iaload, 1), (1441, .aload_n 0, 1), (1442, .iload 5, 2), (1444, .iconst 2, 1), (1445, .iadd, 1), (1446, .iaload, 1), (1447, .invokevirtual 164, 3), (1450, .istore 7, 2), (1452, .aload_n 2, 1), (1453, .invokevirtual 102, 3), (1456, .iload 6, 2), (1458, .if_icmp .eq 5, 3), (1461, .iconst 0, 1), (1462, .ireturn, 1), (1463, .iload 6, 2), (1465, .ifCond .ne 15, 3), (1468, .aload_n 3, 1), (1469, .iconst 0, 1), (1470, .laload, 1), (1471, .iload 7, 2), (1473, .i2l, 1), (1474, .lcmp, 1), (1475, .ifCond .eq 5, 3), (1478, .iconst 0, 1), (1479, .ireturn, 1), (1480, .goto 332, 3), (1483, .aload_n 1, 1), (1484, .aload_n 0, 1), (1485, .iload 5, 2), (1487, .iconst 1, 1), (1488, .iadd, 1), (1489, .iaload, 1), (1490, .aload_n 3, 1), (1491, .invokestatic 165, 3), (1494, .istore 6, 2), (1496, .aload_n 2, 1), (1497, .aload_n 0, 1), (1498, .iload 5, 2), (1500, .iconst 1, 1), (1501, .iadd, 1), (1502, .iaload, 1), (1503, .invokevirtual 167, 3), (1506, .istore 7, 2), (1508, .aload_n 2, 1), (1509, .invokevirtual 102, 3), (1512, .iload 6, 2), (1514, .if_icmp .eq 5, 3), (1517, .iconst 0, 1), (1518, .ireturn, 1), (1519, .iload 6, 2), (1521, .ifCond .ne 15, 3), (1524, .aload_n 3, 1), (1525, .iconst 0, 1), (1526, .laload, 1), (1527, .iload 7, 2), (1529, .i2l, 1), (1530, .lcmp, 1), (1531, .ifCond .eq 5, 3), (1534, .iconst 0, 1), (1535, .ireturn, 1), (1536, .goto 276, 3), (1539, .aload_n 1, 1), (1540, .aload_n 0, 1), (1541, .iload 5, 2), (1543, .iconst 1, 1), (1544, .iadd, 1), (1545, .iaload, 1), (1546, .aload_n 3, 1), (1547, .invokestatic 168, 3), (1550, .istore 6, 2), (1552, .aload_n 2, 1), (1553, .aload_n 0, 1), (1554, .iload 5, 2), (1556, .iconst 1, 1), (1557, .iadd, 1), (1558, .iaload, 1), (1559, .invokevirtual 170, 3), (1562, .istore 7, 2), (1564, .aload_n 2, 1), (1565, .invokevirtual 102, 3), (1568, .iload 6, 2), (1570, .if_icmp .eq 5, 3), (1573, .iconst 0, 1), (1574, .ireturn, 1), (1575, .iload 6, 2), (1577, .ifCond .ne 15, 3), (1580, .aload_n 3, 1), (1581, .iconst 0, 1), (1582, .laload, 1), (1583, .iload 7, 2), (1585, .i2l, 1), (1586, .lcmp, 1), (1587, .ifCond .eq 5, 3), (1590, .iconst 0, 1), (1591, .ireturn, 1), (1592, .goto 220, 3), (1595, .aload_n 1, 1), (1596, .aload_n 0, 1), (1597, .iload 5, 2), (1599, .iconst 1, 1), (1600, .iadd, 1), (1601, .iaload, 1), (1602, .aload 4, 2), (1604, .invokestatic 171, 3), (1607, .istore 6, 2), (1609, .aload_n 2, 1), (1610, .aload_n 0, 1), (1611, .iload 5, 2), (1613, .iconst 1, 1), (1614, .iadd, 1), (1615, .iaload, 1), (1616, .invokevirtual 174, 3), (1619, .dstore 7, 2), (1621, .aload_n 2, 1), (1622, .invokevirtual 102, 3), (1625, .iload 6, 2), (1627, .if_icmp .eq 5, 3), (1630, .iconst 0, 1), (1631, .ireturn, 1), (1632, .iload 6, 2), (1634, .ifCond .ne 35, 3), (1637, .aload 4, 2), (1639, .iconst 0, 1), (1640, .daload, 1), (1641, .dload 7, 2), (1643, .dcmp .l, 1), (1644, .ifCond .eq 25, 3), (1647, .aload 4, 2), (1649, .iconst 0, 1), (1650, .daload, 1), (1651, .aload 4, 2), (1653, .iconst 0, 1), (1654, .daload, 1), (1655, .dcmp .l, 1), (1656, .ifCond .eq 11, 3), (1659, .dload 7, 2), (1661, .dload 7, 2), (1663, .dcmp .l, 1), (1664, .ifCond .ne 5, 3), (1667, .iconst 0, 1), (1668, .ireturn, 1), (1669, .goto 143, 3), (1672, .aload_n 1, 1), (1673, .aload_n 0, 1), (1674, .iload 5, 2), (1676, .iconst 1, 1), (1677, .iadd, 1), (1678, .iaload, 1), (1679, .aload_n 3, 1), (1680, .invokestatic 175, 3), (1683, .istore 6, 2), (1685, .aload_n 2, 1), (1686, .aload_n 0, 1), (1687, .iload 5, 2), (1689, .iconst 1, 1), (1690, .iadd, 1), (1691, .iaload, 1), (1692, .invokevirtual 177, 3), (1695, .istore 7, 2), (1697, .aload_n 2, 1), (1698, .invokevirtual 102, 3), (1701, .iload 6, 2), (1703, .if_icmp .eq 5, 3), (1706, .iconst 0, 1), (1707, .ireturn, 1), (1708, .iload 6, 2), (1710, .ifCond .ne 15, 3), (1713, .aload_n 3, 1), (1714, .iconst 0, 1), (1715, .laload, 1), (1716, .iload 7, 2), (1718, .i2l, 1), (1719, .lcmp, 1), (1720, .ifCond .eq 5, 3), (1723, .iconst 0, 1), (1724, .ireturn, 1), (1725, .goto 87, 3), (1728, .aload_n 1, 1), (1729, .invokevirtual 178, 3), (1732, .aload_n 2, 1), (1733, .invokevirtual 181, 3), (1736, .if_icmp .eq 76, 3), (1739, .iconst 0, 1), (1740, .ireturn, 1), (1741, .aload_n 1, 1), (1742, .invokevirtual 182, 3), (1745, .aload_n 2, 1), (1746, .invokevirtual 185, 3), (1749, .if_icmp .eq 63, 3), (1752, .iconst 0, 1), (1753, .ireturn, 1), (1754, .aload_n 1, 1), (1755, .aload_n 3, 1), (1756, .invokestatic 186, 3), (1759, .istore 6, 2), (1761, .aload_n 2, 1), (1762, .invokevirtual 189, 3), (1765, .istore 7, 2), (1767, .aload_n 2, 1), (1768, .invokevirtual 102, 3), (1771, .iload 6, 2), (1773, .if_icmp .eq 5, 3), (1776, .iconst 0, 1), (1777, .ireturn, 1), (1778, .iload 6, 2), (1780, .ifCond .ne 15, 3), (1783, .aload_n 3, 1), (1784, .iconst 0, 1), (1785, .laload, 1), (1786, .iload 7, 2), (1788, .i2l, 1), (1789, .lcmp, 1), (1790, .ifCond .eq 5, 3), (1793, .iconst 0, 1), (1794, .ireturn, 1), (1795, .goto 17, 3), (1798, .aload_n 1, 1), (1799, .invokevirtual 190, 3), (1802, .aload_n 2, 1), (1803, .invokevirtual 194, 3), (1806, .lcmp, 1), (1807, .ifCond .eq 5, 3), (1810, .iconst 0, 1), (1811, .ireturn, 1), (1812, .iinc 5 7, 3), (1815, .goto (-1787), 3), (1818, .iconst 1, 1), (1819, .ireturn, 1)]
def cT0 : List (List (Nat × Instr × Nat)) := [cd_0, cd_1, cd_2, cd_3, cd_4, cd_5, cd_6, cd_7, cd_8, cd_9, cd_10, cd_11, cd_12, cd_13, cd_14, cd_15]
def cT1 : List (List (Nat × Instr × Nat)) := [cd_16, cd_17, cd_18, cd_19, cd_20, cd_21, cd_22, cd_23, cd_24, cd_25, cd_26, cd_27, cd_28, cd_29, cd_30, cd_31]
def cT2 : List (List (Nat × Instr × Nat)) := [cd_32, cd_33, cd_34, cd_35, cd_36, cd_37, cd_38, cd_39, cd_40, cd_41, cd_42, cd_43, cd_44, cd_45, cd_46, cd_47]
def cT3 : List (List (Nat × Instr × Nat)) := [cd_48, cd_49, cd_50, cd_51, cd_52, cd_53, cd_54, cd_55, cd_56, cd_57, cd_58, cd_59, cd_60, cd_61, cd_62, cd_63]
def cT4 : List (List (Nat × Instr × Nat)) := [cd_64, cd_65, cd_66, cd_67, cd_68, cd_69, cd_70, cd_71, cd_72, cd_73, cd_74, cd_75, cd_76, cd_77, cd_78, cd_79]
def cT5 : List (List (Nat × Instr × Nat)) := [cd_80, cd_81, cd_82, cd_83, cd_84, cd_85, cd_86, cd_87, cd_88, cd_89, cd_90, cd_91, cd_92, cd_93, cd_94, cd_95]
def cT6 : List (List (Nat × Instr × Nat)) := [cd_96, cd_97, cd_98, cd_99, cd_100, cd_101, cd_102, cd_103, cd_104, cd_105, cd_106, cd_107, cd_108, cd_109, cd_110, cd_111]
def cT7 : List (List (Nat × Instr × Nat)) := [cd_112, cd_113, cd_114, cd_115, cd_116, cd_117, cd_118, cd_119, cd_120, cd_121, cd_122, cd_123, cd_124, cd_125, cd_126, cd_127]
def cT8 : List (List (Nat × Instr × Nat)) := [cd_128, cd_129, cd_130, cd_131, cd_132, cd_133, cd_134, cd_135, cd_136, cd_137, cd_138, cd_139, cd_140, cd_141, cd_142, cd_143]
def cT9 : List (List (Nat × Instr × Nat)) := [cd_144, cd_145, cd_146, cd_147, cd_148, cd_149, cd_150, cd_151, cd_152, cd_153, cd_154, cd_155, cd_156, cd_157, cd_158, cd_159]
def cT10 : List (List (Nat × Instr × Nat)) := [cd_160, cd_161, cd_162, cd_163, cd_164, cd_165, cd_166, cd_167, cd_168, cd_169, cd_170, cd_171, cd_172, cd_173, cd_174, cd_175]
def cT11 : List (List (Nat × Instr × Nat)) := [cd_176, cd_177, cd_178, cd_179, cd_180, cd_181, cd_182, cd_183, cd_184, cd_185, cd_186, cd_187, cd_188, cd_189, cd_190, cd_191]
def cT12 : List (List (Nat × Instr × Nat)) := [cd_192, cd_193, cd_194, cd_195, cd_196, cd_197, cd_198, cd_199, cd_200, cd_201, cd_202, cd_203, cd_204, cd_205, cd_206, cd_207]
def cT13 : List (List (Nat × Instr × Nat)) := [cd_208, cd_209, cd_210, cd_211, cd_212, cd_213, cd_214, cd_215, cd_216, cd_217, cd_218, cd_219, cd_220, cd_221, cd_222, cd_223]
def cT14 : List (List (Nat × Instr × Nat)) := [cd_224, cd_225, cd_226, cd_227, cd_228, cd_229, cd_230, cd_231, cd_232, cd_233, cd_234, cd_235, cd_236]
def cdOf (m : Nat) : List (Nat × Instr × Nat) := match m / 16 with
  | 0 => cT0.getD (m % 16) []
  | 1 => cT1.getD (m % 16) []
  | 2 => cT2.getD (m % 16) []
  | 3 => cT3.getD (m % 16) []
  | 4 => cT4.getD (m % 16) []
  | 5 => cT5.getD (m % 16) []
  | 6 => cT6.getD (m % 16) []
  | 7 => cT7.getD (m % 16) []
  | 8 => cT8.getD (m % 16) []
  | 9 => cT9.getD (m % 16) []
  | 10 => cT10.getD (m % 16) []
  | 11 => cT11.getD (m % 16) []
  | 12 => cT12.getD (m % 16) []
  | 13 => cT13.getD (m % 16) []
  | _ => cT14.getD (m % 16) []
def lk : List (Nat × Instr × Nat) → Nat → Option (Instr × Nat)
  | [], _ => none
  | e :: l, pc => if e.1 = pc then some e.2 else lk l pc
def dcOk (cc : ByteArray) (l : List (Nat × Instr × Nat)) : Prop := ∀ e ∈ l, decode cc e.1 = .ok e.2
theorem lk_ok {cc : ByteArray} {l : List (Nat × Instr × Nat)} {pc : Nat} {r : Instr × Nat} (h : dcOk cc l) (hl : lk l pc = some r) : decode cc pc = .ok r := by
  induction l with
  | nil => cases hl
  | cons e l ih =>
    unfold lk at hl
    split at hl
    · next he =>
      cases hl
      subst he
      exact h e List.mem_cons_self
    · exact ih (fun e he => h e (List.mem_cons_of_mem _ he)) hl
end
section
theorem dc_0 : dcOk cX0_init cd_0 := by unfold dcOk; decide +kernel
theorem dc_1 : dcOk cX0_cellsFor cd_1 := by unfold dcOk; decide +kernel
theorem dc_2 : dcOk cX0_pointsLeft cd_2 := by unfold dcOk; decide +kernel
theorem dc_3 : dcOk cX0_explore cd_3 := by unfold dcOk; decide +kernel
theorem dc_4 : dcOk cX0_spread cd_4 := by unfold dcOk; decide +kernel
theorem dc_5 : dcOk cX0_note cd_5 := by unfold dcOk; decide +kernel
theorem dc_6 : dcOk cX1_init cd_6 := by unfold dcOk; decide +kernel
theorem dc_7 : dcOk cX1_canTie cd_7 := by unfold dcOk; decide +kernel
theorem dc_8 : dcOk cX1_storm cd_8 := by unfold dcOk; decide +kernel
theorem dc_9 : dcOk cX1_seize cd_9 := by unfold dcOk; decide +kernel
theorem dc_10 : dcOk cX2_init cd_10 := by unfold dcOk; decide +kernel
theorem dc_11 : dcOk cX2_arcOf cd_11 := by unfold dcOk; decide +kernel
theorem dc_12 : dcOk cX2_isHidden cd_12 := by unfold dcOk; decide +kernel
theorem dc_13 : dcOk cX2_rakes cd_13 := by unfold dcOk; decide +kernel
theorem dc_14 : dcOk cX2_forceOn cd_14 := by unfold dcOk; decide +kernel
theorem dc_15 : dcOk cX2_canShoot cd_15 := by unfold dcOk; decide +kernel
theorem dc_16 : dcOk cX2_shoot cd_16 := by unfold dcOk; decide +kernel
theorem dc_17 : dcOk cX2_hitHull cd_17 := by unfold dcOk; decide +kernel
theorem dc_18 : dcOk cX2_strongestShot cd_18 := by unfold dcOk; decide +kernel
theorem dc_19 : dcOk cX3_init cd_19 := by unfold dcOk; decide +kernel
theorem dc_20 : dcOk cX3_canMove cd_20 := by unfold dcOk; decide +kernel
theorem dc_21 : dcOk cX3_move cd_21 := by unfold dcOk; decide +kernel
theorem dc_22 : dcOk cX3_canSwing cd_22 := by unfold dcOk; decide +kernel
theorem dc_23 : dcOk cX3_readyForRound cd_23 := by unfold dcOk; decide +kernel
theorem dc_24 : dcOk cX3_finishRound cd_24 := by unfold dcOk; decide +kernel
theorem dc_25 : dcOk cX3_drift cd_25 := by unfold dcOk; decide +kernel
theorem dc_26 : dcOk cX3_obey cd_26 := by unfold dcOk; decide +kernel
theorem dc_27 : dcOk cX3_obeyAhead cd_27 := by unfold dcOk; decide +kernel
theorem dc_28 : dcOk cX3_obeyTurn cd_28 := by unfold dcOk; decide +kernel
theorem dc_29 : dcOk cX4_init cd_29 := by unfold dcOk; decide +kernel
theorem dc_30 : dcOk cX4_save cd_30 := by unfold dcOk; decide +kernel
theorem dc_31 : dcOk cX4_dropOldest cd_31 := by unfold dcOk; decide +kernel
theorem dc_32 : dcOk cX4_restore cd_32 := by unfold dcOk; decide +kernel
theorem dc_33 : dcOk cX5_init cd_33 := by unfold dcOk; decide +kernel
theorem dc_34 : dcOk cX5_isFull cd_34 := by unfold dcOk; decide +kernel
theorem dc_35 : dcOk cX5_add cd_35 := by unfold dcOk; decide +kernel
theorem dc_36 : dcOk cX5_byteAt cd_36 := by unfold dcOk; decide +kernel
theorem dc_37 : dcOk cX5_errorPosition cd_37 := by unfold dcOk; decide +kernel
theorem dc_38 : dcOk cX5_placeBehind cd_38 := by unfold dcOk; decide +kernel
theorem dc_39 : dcOk cX5_placeBehindFirst cd_39 := by unfold dcOk; decide +kernel
theorem dc_40 : dcOk cX6_init cd_40 := by unfold dcOk; decide +kernel
theorem dc_41 : dcOk cX6_makeAnew cd_41 := by unfold dcOk; decide +kernel
theorem dc_42 : dcOk cX6_copyFrom cd_42 := by unfold dcOk; decide +kernel
theorem dc_43 : dcOk cX6_cellCount cd_43 := by unfold dcOk; decide +kernel
theorem dc_44 : dcOk cX6_isCell cd_44 := by unfold dcOk; decide +kernel
theorem dc_45 : dcOk cX6_isShip cd_45 := by unfold dcOk; decide +kernel
theorem dc_46 : dcOk cX6_rowOf cd_46 := by unfold dcOk; decide +kernel
theorem dc_47 : dcOk cX6_columnOf cd_47 := by unfold dcOk; decide +kernel
theorem dc_48 : dcOk cX6_isRock cd_48 := by unfold dcOk; decide +kernel
theorem dc_49 : dcOk cX6_markRock cd_49 := by unfold dcOk; decide +kernel
theorem dc_50 : dcOk cX6_shipOn cd_50 := by unfold dcOk; decide +kernel
theorem dc_51 : dcOk cX6_isFree cd_51 := by unfold dcOk; decide +kernel
theorem dc_52 : dcOk cX6_occupant cd_52 := by unfold dcOk; decide +kernel
theorem dc_53 : dcOk cX6_neighbour cd_53 := by unfold dcOk; decide +kernel
theorem dc_54 : dcOk cX6_movesBetween cd_54 := by unfold dcOk; decide +kernel
theorem dc_55 : dcOk cX6_sight cd_55 := by unfold dcOk; decide +kernel
theorem dc_56 : dcOk cX6_sector cd_56 := by unfold dcOk; decide +kernel
theorem dc_57 : dcOk cX6_angleToWind cd_57 := by unfold dcOk; decide +kernel
theorem dc_58 : dcOk cX6_angleBetween cd_58 := by unfold dcOk; decide +kernel
theorem dc_59 : dcOk cX6_factorOf cd_59 := by unfold dcOk; decide +kernel
theorem dc_60 : dcOk cX6_speedIn cd_60 := by unfold dcOk; decide +kernel
theorem dc_61 : dcOk cX6_fairestWind cd_61 := by unfold dcOk; decide +kernel
theorem dc_62 : dcOk cX6_untie cd_62 := by unfold dcOk; decide +kernel
theorem dc_63 : dcOk cX6_tiedShips cd_63 := by unfold dcOk; decide +kernel
theorem dc_64 : dcOk cX6_shipsAfloat cd_64 := by unfold dcOk; decide +kernel
theorem dc_65 : dcOk cX6_weightOf cd_65 := by unfold dcOk; decide +kernel
theorem dc_66 : dcOk cX6_rockCount cd_66 := by unfold dcOk; decide +kernel
theorem dc_67 : dcOk cX6_lastRock cd_67 := by unfold dcOk; decide +kernel
theorem dc_68 : dcOk cX6_numberAbout cd_68 := by unfold dcOk; decide +kernel
theorem dc_69 : dcOk cX6_numberAboutShip cd_69 := by unfold dcOk; decide +kernel
theorem dc_70 : dcOk cX7_init cd_70 := by unfold dcOk; decide +kernel
theorem dc_71 : dcOk cX7_launch cd_71 := by unfold dcOk; decide +kernel
theorem dc_72 : dcOk cX7_copyFrom cd_72 := by unfold dcOk; decide +kernel
theorem dc_73 : dcOk cX7_isAfloat cd_73 := by unfold dcOk; decide +kernel
theorem dc_74 : dcOk cX7_isTied cd_74 := by unfold dcOk; decide +kernel
theorem dc_75 : dcOk cX7_canSail cd_75 := by unfold dcOk; decide +kernel
theorem dc_76 : dcOk cX7_headingAfter cd_76 := by unfold dcOk; decide +kernel
theorem dc_77 : dcOk cX7_swing cd_77 := by unfold dcOk; decide +kernel
theorem dc_78 : dcOk cX7_gunsOn cd_78 := by unfold dcOk; decide +kernel
theorem dc_79 : dcOk cX7_waitOn cd_79 := by unfold dcOk; decide +kernel
theorem dc_80 : dcOk cX7_startWait cd_80 := by unfold dcOk; decide +kernel
theorem dc_81 : dcOk cX7_shortenWaits cd_81 := by unfold dcOk; decide +kernel
theorem dc_82 : dcOk cX8_init cd_82 := by unfold dcOk; decide +kernel
theorem dc_83 : dcOk cX8_begin cd_83 := by unfold dcOk; decide +kernel
theorem dc_84 : dcOk cX8_setRock cd_84 := by unfold dcOk; decide +kernel
theorem dc_85 : dcOk cX8_setWind cd_85 := by unfold dcOk; decide +kernel
theorem dc_86 : dcOk cX8_addShip cd_86 := by unfold dcOk; decide +kernel
theorem dc_87 : dcOk cX8_value cd_87 := by unfold dcOk; decide +kernel
theorem dc_88 : dcOk cX8_ship cd_88 := by unfold dcOk; decide +kernel
theorem dc_89 : dcOk cX8_at cd_89 := by unfold dcOk; decide +kernel
theorem dc_90 : dcOk cX8_distance cd_90 := by unfold dcOk; decide +kernel
theorem dc_91 : dcOk cX8_bearing cd_91 := by unfold dcOk; decide +kernel
theorem dc_92 : dcOk cX8_ahead cd_92 := by unfold dcOk; decide +kernel
theorem dc_93 : dcOk cX8_turn cd_93 := by unfold dcOk; decide +kernel
theorem dc_94 : dcOk cX8_endRound cd_94 := by unfold dcOk; decide +kernel
theorem dc_95 : dcOk cX8_force cd_95 := by unfold dcOk; decide +kernel
theorem dc_96 : dcOk cX8_fire cd_96 := by unfold dcOk; decide +kernel
theorem dc_97 : dcOk cX8_grapple cd_97 := by unfold dcOk; decide +kernel
theorem dc_98 : dcOk cX8_cut cd_98 := by unfold dcOk; decide +kernel
theorem dc_99 : dcOk cX8_board cd_99 := by unfold dcOk; decide +kernel
theorem dc_100 : dcOk cX8_reach cd_100 := by unfold dcOk; decide +kernel
theorem dc_101 : dcOk cX8_pointsAt cd_101 := by unfold dcOk; decide +kernel
theorem dc_102 : dcOk cX8_bestShot cd_102 := by unfold dcOk; decide +kernel
theorem dc_103 : dcOk cX8_bestWind cd_103 := by unfold dcOk; decide +kernel
theorem dc_104 : dcOk cX8_balance cd_104 := by unfold dcOk; decide +kernel
theorem dc_105 : dcOk cX8_append cd_105 := by unfold dcOk; decide +kernel
theorem dc_106 : dcOk cX8_clearText cd_106 := by unfold dcOk; decide +kernel
theorem dc_107 : dcOk cX8_carryOut cd_107 := by unfold dcOk; decide +kernel
theorem dc_108 : dcOk cX8_undo cd_108 := by unfold dcOk; decide +kernel
theorem dc_109 : dcOk cX8_digest cd_109 := by unfold dcOk; decide +kernel
theorem dc_110 : dcOk cX8_needCell cd_110 := by unfold dcOk; decide +kernel
theorem dc_111 : dcOk cX8_needShip cd_111 := by unfold dcOk; decide +kernel
theorem dc_112 : dcOk cX8_needTwoShips cd_112 := by unfold dcOk; decide +kernel
theorem dc_113 : dcOk cX8_isSide cd_113 := by unfold dcOk; decide +kernel
theorem dc_114 : dcOk cX8_isDirection cd_114 := by unfold dcOk; decide +kernel
theorem dc_115 : dcOk cX9_init cd_115 := by unfold dcOk; decide +kernel
theorem dc_116 : dcOk cX9_anew cd_116 := by unfold dcOk; decide +kernel
theorem dc_117 : dcOk cX9_thrown cd_117 := by unfold dcOk; decide +kernel
theorem dc_118 : dcOk cX9_in cd_118 := by unfold dcOk; decide +kernel
theorem dc_119 : dcOk cX9_size cd_119 := by unfold dcOk; decide +kernel
theorem dc_120 : dcOk cX9_lesser cd_120 := by unfold dcOk; decide +kernel
theorem dc_121 : dcOk cX9_keep cd_121 := by unfold dcOk; decide +kernel
theorem dc_122 : dcOk cX9_cells cd_122 := by unfold dcOk; decide +kernel
theorem dc_123 : dcOk cX9_isCell cd_123 := by unfold dcOk; decide +kernel
theorem dc_124 : dcOk cX9_isShip cd_124 := by unfold dcOk; decide +kernel
theorem dc_125 : dcOk cX9_of cd_125 := by unfold dcOk; decide +kernel
theorem dc_126 : dcOk cX9_put cd_126 := by unfold dcOk; decide +kernel
theorem dc_127 : dcOk cX9_isAfloat cd_127 := by unfold dcOk; decide +kernel
theorem dc_128 : dcOk cX9_downward cd_128 := by unfold dcOk; decide +kernel
theorem dc_129 : dcOk cX9_rightward cd_129 := by unfold dcOk; decide +kernel
theorem dc_130 : dcOk cX9_next cd_130 := by unfold dcOk; decide +kernel
theorem dc_131 : dcOk cX9_shipOn cd_131 := by unfold dcOk; decide +kernel
theorem dc_132 : dcOk cX9_thing cd_132 := by unfold dcOk; decide +kernel
theorem dc_133 : dcOk cX9_isFree cd_133 := by unfold dcOk; decide +kernel
theorem dc_134 : dcOk cX9_down cd_134 := by unfold dcOk; decide +kernel
theorem dc_135 : dcOk cX9_right cd_135 := by unfold dcOk; decide +kernel
theorem dc_136 : dcOk cX9_far cd_136 := by unfold dcOk; decide +kernel
theorem dc_137 : dcOk cX9_bears cd_137 := by unfold dcOk; decide +kernel
theorem dc_138 : dcOk cX9_arc cd_138 := by unfold dcOk; decide +kernel
theorem dc_139 : dcOk cX9_isHidden cd_139 := by unfold dcOk; decide +kernel
theorem dc_140 : dcOk cX9_begin cd_140 := by unfold dcOk; decide +kernel
theorem dc_141 : dcOk cX9_setRock cd_141 := by unfold dcOk; decide +kernel
theorem dc_142 : dcOk cX9_setWind cd_142 := by unfold dcOk; decide +kernel
theorem dc_143 : dcOk cX9_angle cd_143 := by unfold dcOk; decide +kernel
theorem dc_144 : dcOk cX9_speedIn cd_144 := by unfold dcOk; decide +kernel
theorem dc_145 : dcOk cX9_speed cd_145 := by unfold dcOk; decide +kernel
theorem dc_146 : dcOk cX9_begins cd_146 := by unfold dcOk; decide +kernel
theorem dc_147 : dcOk cX9_isGiven cd_147 := by unfold dcOk; decide +kernel
theorem dc_148 : dcOk cX9_addShip cd_148 := by unfold dcOk; decide +kernel
theorem dc_149 : dcOk cX9_afloat cd_149 := by unfold dcOk; decide +kernel
theorem dc_150 : dcOk cX9_rocks cd_150 := by unfold dcOk; decide +kernel
theorem dc_151 : dcOk cX9_valueOf cd_151 := by unfold dcOk; decide +kernel
theorem dc_152 : dcOk cX9_value cd_152 := by unfold dcOk; decide +kernel
theorem dc_153 : dcOk cX9_shipOf cd_153 := by unfold dcOk; decide +kernel
theorem dc_154 : dcOk cX9_ship cd_154 := by unfold dcOk; decide +kernel
theorem dc_155 : dcOk cX9_at cd_155 := by unfold dcOk; decide +kernel
theorem dc_156 : dcOk cX9_distance cd_156 := by unfold dcOk; decide +kernel
theorem dc_157 : dcOk cX9_bearing cd_157 := by unfold dcOk; decide +kernel
theorem dc_158 : dcOk cX9_canSail cd_158 := by unfold dcOk; decide +kernel
theorem dc_159 : dcOk cX9_notAhead cd_159 := by unfold dcOk; decide +kernel
theorem dc_160 : dcOk cX9_goes cd_160 := by unfold dcOk; decide +kernel
theorem dc_161 : dcOk cX9_ahead cd_161 := by unfold dcOk; decide +kernel
theorem dc_162 : dcOk cX9_turned cd_162 := by unfold dcOk; decide +kernel
theorem dc_163 : dcOk cX9_notTurn cd_163 := by unfold dcOk; decide +kernel
theorem dc_164 : dcOk cX9_turns cd_164 := by unfold dcOk; decide +kernel
theorem dc_165 : dcOk cX9_turn cd_165 := by unfold dcOk; decide +kernel
theorem dc_166 : dcOk cX9_ends cd_166 := by unfold dcOk; decide +kernel
theorem dc_167 : dcOk cX9_endRound cd_167 := by unfold dcOk; decide +kernel
theorem dc_168 : dcOk cX9_isRaking cd_168 := by unfold dcOk; decide +kernel
theorem dc_169 : dcOk cX9_forceOf cd_169 := by unfold dcOk; decide +kernel
theorem dc_170 : dcOk cX9_notPair cd_170 := by unfold dcOk; decide +kernel
theorem dc_171 : dcOk cX9_force cd_171 := by unfold dcOk; decide +kernel
theorem dc_172 : dcOk cX9_notFire cd_172 := by unfold dcOk; decide +kernel
theorem dc_173 : dcOk cX9_loses cd_173 := by unfold dcOk; decide +kernel
theorem dc_174 : dcOk cX9_loose cd_174 := by unfold dcOk; decide +kernel
theorem dc_175 : dcOk cX9_fires cd_175 := by unfold dcOk; decide +kernel
theorem dc_176 : dcOk cX9_fire cd_176 := by unfold dcOk; decide +kernel
theorem dc_177 : dcOk cX9_grappled cd_177 := by unfold dcOk; decide +kernel
theorem dc_178 : dcOk cX9_canGrapple cd_178 := by unfold dcOk; decide +kernel
theorem dc_179 : dcOk cX9_grapple cd_179 := by unfold dcOk; decide +kernel
theorem dc_180 : dcOk cX9_cut cd_180 := by unfold dcOk; decide +kernel
theorem dc_181 : dcOk cX9_boards cd_181 := by unfold dcOk; decide +kernel
theorem dc_182 : dcOk cX9_board cd_182 := by unfold dcOk; decide +kernel
theorem dc_183 : dcOk cX9_stand cd_183 := by unfold dcOk; decide +kernel
theorem dc_184 : dcOk cX9_isOpen cd_184 := by unfold dcOk; decide +kernel
theorem dc_185 : dcOk cX9_arrive cd_185 := by unfold dcOk; decide +kernel
theorem dc_186 : dcOk cX9_goOn cd_186 := by unfold dcOk; decide +kernel
theorem dc_187 : dcOk cX9_spread cd_187 := by unfold dcOk; decide +kernel
theorem dc_188 : dcOk cX9_pointsOn cd_188 := by unfold dcOk; decide +kernel
theorem dc_189 : dcOk cX9_reached cd_189 := by unfold dcOk; decide +kernel
theorem dc_190 : dcOk cX9_reach cd_190 := by unfold dcOk; decide +kernel
theorem dc_191 : dcOk cX9_pointsAt cd_191 := by unfold dcOk; decide +kernel
theorem dc_192 : dcOk cX9_bestShot cd_192 := by unfold dcOk; decide +kernel
theorem dc_193 : dcOk cX9_bestWind cd_193 := by unfold dcOk; decide +kernel
theorem dc_194 : dcOk cX9_balance cd_194 := by unfold dcOk; decide +kernel
theorem dc_195 : dcOk cX9_append cd_195 := by unfold dcOk; decide +kernel
theorem dc_196 : dcOk cX9_clearText cd_196 := by unfold dcOk; decide +kernel
theorem dc_197 : dcOk cX9_here cd_197 := by unfold dcOk; decide +kernel
theorem dc_198 : dcOk cX9_takesDigit cd_198 := by unfold dcOk; decide +kernel
theorem dc_199 : dcOk cX9_takesLetter cd_199 := by unfold dcOk; decide +kernel
theorem dc_200 : dcOk cX9_readOrder cd_200 := by unfold dcOk; decide +kernel
theorem dc_201 : dcOk cX9_isText cd_201 := by unfold dcOk; decide +kernel
theorem dc_202 : dcOk cX9_canCarryOut cd_202 := by unfold dcOk; decide +kernel
theorem dc_203 : dcOk cX9_order cd_203 := by unfold dcOk; decide +kernel
theorem dc_204 : dcOk cX9_carryOut cd_204 := by unfold dcOk; decide +kernel
theorem dc_205 : dcOk cX9_undo cd_205 := by unfold dcOk; decide +kernel
theorem dc_206 : dcOk cX9_mix cd_206 := by unfold dcOk; decide +kernel
theorem dc_207 : dcOk cX9_digest cd_207 := by unfold dcOk; decide +kernel
theorem dc_208 : dcOk cJ9_floorMod_7cf53 cd_208 := by unfold dcOk; decide +kernel
theorem dc_209 : dcOk cJ9_abs_0f7a4 cd_209 := by unfold dcOk; decide +kernel
theorem dc_210 : dcOk cJ9_max_7cf53 cd_210 := by unfold dcOk; decide +kernel
theorem dc_211 : dcOk cJ9_min_7cf53 cd_211 := by unfold dcOk; decide +kernel
theorem dc_212 : dcOk cJ7_fill_53178 cd_212 := by unfold dcOk; decide +kernel
theorem dc_213 : dcOk cL_begin cd_213 := by unfold dcOk; decide +kernel
theorem dc_214 : dcOk cL_setRock cd_214 := by unfold dcOk; decide +kernel
theorem dc_215 : dcOk cL_setWind cd_215 := by unfold dcOk; decide +kernel
theorem dc_216 : dcOk cL_addShip cd_216 := by unfold dcOk; decide +kernel
theorem dc_217 : dcOk cL_value cd_217 := by unfold dcOk; decide +kernel
theorem dc_218 : dcOk cL_ship cd_218 := by unfold dcOk; decide +kernel
theorem dc_219 : dcOk cL_at cd_219 := by unfold dcOk; decide +kernel
theorem dc_220 : dcOk cL_distance cd_220 := by unfold dcOk; decide +kernel
theorem dc_221 : dcOk cL_bearing cd_221 := by unfold dcOk; decide +kernel
theorem dc_222 : dcOk cL_ahead cd_222 := by unfold dcOk; decide +kernel
theorem dc_223 : dcOk cL_turn cd_223 := by unfold dcOk; decide +kernel
theorem dc_224 : dcOk cL_force cd_224 := by unfold dcOk; decide +kernel
theorem dc_225 : dcOk cL_fire cd_225 := by unfold dcOk; decide +kernel
theorem dc_226 : dcOk cL_grapple cd_226 := by unfold dcOk; decide +kernel
theorem dc_227 : dcOk cL_cut cd_227 := by unfold dcOk; decide +kernel
theorem dc_228 : dcOk cL_board cd_228 := by unfold dcOk; decide +kernel
theorem dc_229 : dcOk cL_reach cd_229 := by unfold dcOk; decide +kernel
theorem dc_230 : dcOk cL_pointsAt cd_230 := by unfold dcOk; decide +kernel
theorem dc_231 : dcOk cL_bestShot cd_231 := by unfold dcOk; decide +kernel
theorem dc_232 : dcOk cL_bestWind cd_232 := by unfold dcOk; decide +kernel
theorem dc_233 : dcOk cL_balance cd_233 := by unfold dcOk; decide +kernel
theorem dc_234 : dcOk cL_append cd_234 := by unfold dcOk; decide +kernel
theorem dc_235 : dcOk cL_undo cd_235 := by unfold dcOk; decide +kernel
theorem dc_236_0 : dcOk cL_law (cd_236.extract 0 100) := by unfold dcOk; decide +kernel
theorem dc_236_1 : dcOk cL_law (cd_236.extract 100 200) := by unfold dcOk; decide +kernel
theorem dc_236_2 : dcOk cL_law (cd_236.extract 200 300) := by unfold dcOk; decide +kernel
theorem dc_236_3 : dcOk cL_law (cd_236.extract 300 400) := by unfold dcOk; decide +kernel
theorem dc_236_4 : dcOk cL_law (cd_236.extract 400 500) := by unfold dcOk; decide +kernel
theorem dc_236_5 : dcOk cL_law (cd_236.extract 500 600) := by unfold dcOk; decide +kernel
theorem dc_236_6 : dcOk cL_law (cd_236.extract 600 700) := by unfold dcOk; decide +kernel
theorem dc_236_7 : dcOk cL_law (cd_236.extract 700 800) := by unfold dcOk; decide +kernel
theorem dc_236_8 : dcOk cL_law (cd_236.extract 800 900) := by unfold dcOk; decide +kernel
theorem dc_236_9 : dcOk cL_law (cd_236.extract 900 1000) := by unfold dcOk; decide +kernel
theorem dc_236_10 : dcOk cL_law (cd_236.extract 1000 1089) := by unfold dcOk; decide +kernel
theorem dc_236 : dcOk cL_law cd_236 := by
  have e : cd_236 = cd_236.extract 0 100 ++ (cd_236.extract 100 200 ++ (cd_236.extract 200 300 ++ (cd_236.extract 300 400 ++ (cd_236.extract 400 500 ++ (cd_236.extract 500 600 ++ (cd_236.extract 600 700 ++ (cd_236.extract 700 800 ++ (cd_236.extract 800 900 ++ (cd_236.extract 900 1000 ++ (cd_236.extract 1000 1089)))))))))) := by decide +kernel
  rw [e]; intro r hr
  rcases List.mem_append.mp hr with hr | hr
  · exact dc_236_0 r hr
  rcases List.mem_append.mp hr with hr | hr
  · exact dc_236_1 r hr
  rcases List.mem_append.mp hr with hr | hr
  · exact dc_236_2 r hr
  rcases List.mem_append.mp hr with hr | hr
  · exact dc_236_3 r hr
  rcases List.mem_append.mp hr with hr | hr
  · exact dc_236_4 r hr
  rcases List.mem_append.mp hr with hr | hr
  · exact dc_236_5 r hr
  rcases List.mem_append.mp hr with hr | hr
  · exact dc_236_6 r hr
  rcases List.mem_append.mp hr with hr | hr
  · exact dc_236_7 r hr
  rcases List.mem_append.mp hr with hr | hr
  · exact dc_236_8 r hr
  rcases List.mem_append.mp hr with hr | hr
  · exact dc_236_9 r hr
  exact dc_236_10 r hr
theorem dc_ok (m : Nat) (h : m < 237) : dcOk (mCc m) (cdOf m) := by
  match m, h with
  | 0, _ => exact dc_0
  | 1, _ => exact dc_1
  | 2, _ => exact dc_2
  | 3, _ => exact dc_3
  | 4, _ => exact dc_4
  | 5, _ => exact dc_5
  | 6, _ => exact dc_6
  | 7, _ => exact dc_7
  | 8, _ => exact dc_8
  | 9, _ => exact dc_9
  | 10, _ => exact dc_10
  | 11, _ => exact dc_11
  | 12, _ => exact dc_12
  | 13, _ => exact dc_13
  | 14, _ => exact dc_14
  | 15, _ => exact dc_15
  | 16, _ => exact dc_16
  | 17, _ => exact dc_17
  | 18, _ => exact dc_18
  | 19, _ => exact dc_19
  | 20, _ => exact dc_20
  | 21, _ => exact dc_21
  | 22, _ => exact dc_22
  | 23, _ => exact dc_23
  | 24, _ => exact dc_24
  | 25, _ => exact dc_25
  | 26, _ => exact dc_26
  | 27, _ => exact dc_27
  | 28, _ => exact dc_28
  | 29, _ => exact dc_29
  | 30, _ => exact dc_30
  | 31, _ => exact dc_31
  | 32, _ => exact dc_32
  | 33, _ => exact dc_33
  | 34, _ => exact dc_34
  | 35, _ => exact dc_35
  | 36, _ => exact dc_36
  | 37, _ => exact dc_37
  | 38, _ => exact dc_38
  | 39, _ => exact dc_39
  | 40, _ => exact dc_40
  | 41, _ => exact dc_41
  | 42, _ => exact dc_42
  | 43, _ => exact dc_43
  | 44, _ => exact dc_44
  | 45, _ => exact dc_45
  | 46, _ => exact dc_46
  | 47, _ => exact dc_47
  | 48, _ => exact dc_48
  | 49, _ => exact dc_49
  | 50, _ => exact dc_50
  | 51, _ => exact dc_51
  | 52, _ => exact dc_52
  | 53, _ => exact dc_53
  | 54, _ => exact dc_54
  | 55, _ => exact dc_55
  | 56, _ => exact dc_56
  | 57, _ => exact dc_57
  | 58, _ => exact dc_58
  | 59, _ => exact dc_59
  | 60, _ => exact dc_60
  | 61, _ => exact dc_61
  | 62, _ => exact dc_62
  | 63, _ => exact dc_63
  | 64, _ => exact dc_64
  | 65, _ => exact dc_65
  | 66, _ => exact dc_66
  | 67, _ => exact dc_67
  | 68, _ => exact dc_68
  | 69, _ => exact dc_69
  | 70, _ => exact dc_70
  | 71, _ => exact dc_71
  | 72, _ => exact dc_72
  | 73, _ => exact dc_73
  | 74, _ => exact dc_74
  | 75, _ => exact dc_75
  | 76, _ => exact dc_76
  | 77, _ => exact dc_77
  | 78, _ => exact dc_78
  | 79, _ => exact dc_79
  | 80, _ => exact dc_80
  | 81, _ => exact dc_81
  | 82, _ => exact dc_82
  | 83, _ => exact dc_83
  | 84, _ => exact dc_84
  | 85, _ => exact dc_85
  | 86, _ => exact dc_86
  | 87, _ => exact dc_87
  | 88, _ => exact dc_88
  | 89, _ => exact dc_89
  | 90, _ => exact dc_90
  | 91, _ => exact dc_91
  | 92, _ => exact dc_92
  | 93, _ => exact dc_93
  | 94, _ => exact dc_94
  | 95, _ => exact dc_95
  | 96, _ => exact dc_96
  | 97, _ => exact dc_97
  | 98, _ => exact dc_98
  | 99, _ => exact dc_99
  | 100, _ => exact dc_100
  | 101, _ => exact dc_101
  | 102, _ => exact dc_102
  | 103, _ => exact dc_103
  | 104, _ => exact dc_104
  | 105, _ => exact dc_105
  | 106, _ => exact dc_106
  | 107, _ => exact dc_107
  | 108, _ => exact dc_108
  | 109, _ => exact dc_109
  | 110, _ => exact dc_110
  | 111, _ => exact dc_111
  | 112, _ => exact dc_112
  | 113, _ => exact dc_113
  | 114, _ => exact dc_114
  | 115, _ => exact dc_115
  | 116, _ => exact dc_116
  | 117, _ => exact dc_117
  | 118, _ => exact dc_118
  | 119, _ => exact dc_119
  | 120, _ => exact dc_120
  | 121, _ => exact dc_121
  | 122, _ => exact dc_122
  | 123, _ => exact dc_123
  | 124, _ => exact dc_124
  | 125, _ => exact dc_125
  | 126, _ => exact dc_126
  | 127, _ => exact dc_127
  | 128, _ => exact dc_128
  | 129, _ => exact dc_129
  | 130, _ => exact dc_130
  | 131, _ => exact dc_131
  | 132, _ => exact dc_132
  | 133, _ => exact dc_133
  | 134, _ => exact dc_134
  | 135, _ => exact dc_135
  | 136, _ => exact dc_136
  | 137, _ => exact dc_137
  | 138, _ => exact dc_138
  | 139, _ => exact dc_139
  | 140, _ => exact dc_140
  | 141, _ => exact dc_141
  | 142, _ => exact dc_142
  | 143, _ => exact dc_143
  | 144, _ => exact dc_144
  | 145, _ => exact dc_145
  | 146, _ => exact dc_146
  | 147, _ => exact dc_147
  | 148, _ => exact dc_148
  | 149, _ => exact dc_149
  | 150, _ => exact dc_150
  | 151, _ => exact dc_151
  | 152, _ => exact dc_152
  | 153, _ => exact dc_153
  | 154, _ => exact dc_154
  | 155, _ => exact dc_155
  | 156, _ => exact dc_156
  | 157, _ => exact dc_157
  | 158, _ => exact dc_158
  | 159, _ => exact dc_159
  | 160, _ => exact dc_160
  | 161, _ => exact dc_161
  | 162, _ => exact dc_162
  | 163, _ => exact dc_163
  | 164, _ => exact dc_164
  | 165, _ => exact dc_165
  | 166, _ => exact dc_166
  | 167, _ => exact dc_167
  | 168, _ => exact dc_168
  | 169, _ => exact dc_169
  | 170, _ => exact dc_170
  | 171, _ => exact dc_171
  | 172, _ => exact dc_172
  | 173, _ => exact dc_173
  | 174, _ => exact dc_174
  | 175, _ => exact dc_175
  | 176, _ => exact dc_176
  | 177, _ => exact dc_177
  | 178, _ => exact dc_178
  | 179, _ => exact dc_179
  | 180, _ => exact dc_180
  | 181, _ => exact dc_181
  | 182, _ => exact dc_182
  | 183, _ => exact dc_183
  | 184, _ => exact dc_184
  | 185, _ => exact dc_185
  | 186, _ => exact dc_186
  | 187, _ => exact dc_187
  | 188, _ => exact dc_188
  | 189, _ => exact dc_189
  | 190, _ => exact dc_190
  | 191, _ => exact dc_191
  | 192, _ => exact dc_192
  | 193, _ => exact dc_193
  | 194, _ => exact dc_194
  | 195, _ => exact dc_195
  | 196, _ => exact dc_196
  | 197, _ => exact dc_197
  | 198, _ => exact dc_198
  | 199, _ => exact dc_199
  | 200, _ => exact dc_200
  | 201, _ => exact dc_201
  | 202, _ => exact dc_202
  | 203, _ => exact dc_203
  | 204, _ => exact dc_204
  | 205, _ => exact dc_205
  | 206, _ => exact dc_206
  | 207, _ => exact dc_207
  | 208, _ => exact dc_208
  | 209, _ => exact dc_209
  | 210, _ => exact dc_210
  | 211, _ => exact dc_211
  | 212, _ => exact dc_212
  | 213, _ => exact dc_213
  | 214, _ => exact dc_214
  | 215, _ => exact dc_215
  | 216, _ => exact dc_216
  | 217, _ => exact dc_217
  | 218, _ => exact dc_218
  | 219, _ => exact dc_219
  | 220, _ => exact dc_220
  | 221, _ => exact dc_221
  | 222, _ => exact dc_222
  | 223, _ => exact dc_223
  | 224, _ => exact dc_224
  | 225, _ => exact dc_225
  | 226, _ => exact dc_226
  | 227, _ => exact dc_227
  | 228, _ => exact dc_228
  | 229, _ => exact dc_229
  | 230, _ => exact dc_230
  | 231, _ => exact dc_231
  | 232, _ => exact dc_232
  | 233, _ => exact dc_233
  | 234, _ => exact dc_234
  | 235, _ => exact dc_235
  | 236, _ => exact dc_236
  | n + 237, h => exact absurd h (by omega)
end
section
def lk2 {α : Type} : List (Nat × Nat × α) → Nat → Nat → Option α
  | [], _, _ => none
  | e :: l, o, k => if e.1 = o ∧ e.2.1 = k then some e.2.2 else lk2 l o k
theorem lk2_mem {α : Type} {l : List (Nat × Nat × α)} {o k : Nat} {r : α} (h : lk2 l o k = some r) : (o, k, r) ∈ l := by
  induction l with
  | nil => cases h
  | cons e l ih =>
    unfold lk2 at h
    split at h
    · next he =>
      cases h
      obtain ⟨h1, h2⟩ := he
      obtain ⟨a, b, c⟩ := e
      subst h1; subst h2
      exact List.mem_cons_self
    · exact List.mem_cons_of_mem _ (ih h)
def fldT : List (Nat × Nat × Nat × Nat) := [(7, 9, 7, 0), (1, 19, 7, 0), (2, 49, 7, 0), (6, 134, 7, 0), (7, 15, 7, 1), (3, 31, 7, 1), (1, 26, 7, 1), (2, 36, 7, 1), (0, 54, 7, 1), (6, 75, 7, 1), (8, 169, 7, 1), (7, 18, 7, 2), (3, 21, 7, 2), (2, 42, 7, 2), (0, 57, 7, 2), (8, 182, 7, 2), (6, 112, 7, 2), (7, 21, 7, 3), (2, 94, 7, 3), (6, 137, 7, 3), (7, 24, 7, 4), (3, 53, 7, 4), (2, 82, 7, 4), (6, 118, 7, 4), (7, 27, 7, 5), (2, 97, 7, 5), (6, 153, 7, 5), (7, 30, 7, 6), (2, 100, 7, 6), (6, 156, 7, 6), (7, 33, 7, 7), (1, 35, 7, 7), (2, 88, 7, 7), (6, 140, 7, 7), (7, 36, 7, 8), (7, 39, 7, 9), (3, 42, 7, 9), (0, 64, 7, 9), (6, 159, 7, 9), (7, 42, 7, 10), (6, 162, 7, 10), (7, 45, 7, 11), (6, 165, 7, 11), (7, 48, 7, 12), (8, 214, 7, 12), (6, 125, 7, 12), (7, 51, 7, 13), (1, 43, 7, 13), (3, 68, 7, 13), (8, 228, 7, 13), (6, 171, 7, 13), (7, 55, 7, 14), (3, 45, 7, 14), (0, 60, 7, 14), (6, 26, 6, 0), (6, 30, 6, 1), (6, 33, 6, 2), (8, 104, 6, 2), (3, 56, 6, 2), (6, 36, 6, 3), (8, 107, 6, 3), (3, 98, 6, 3), (6, 39, 6, 4), (3, 82, 6, 4), (6, 42, 6, 5), (8, 67, 6, 5), (3, 71, 6, 5), (2, 107, 6, 5), (6, 9, 6, 6), (6, 17, 6, 7), (8, 122, 6, 7), (3, 74, 6, 7), (2, 110, 6, 7), (4, 11, 4, 0), (4, 16, 4, 1), (8, 281, 4, 1), (3, 9, 3, 0), (2, 9, 2, 0), (1, 7, 1, 0), (0, 9, 0, 0), (0, 15, 0, 1), (0, 19, 0, 2), (0, 22, 0, 3), (0, 25, 0, 4), (0, 29, 0, 5), (5, 11, 5, 0), (5, 15, 5, 1), (8, 268, 5, 1), (8, 10, 8, 0), (8, 19, 8, 1), (8, 28, 8, 2), (8, 35, 8, 3), (8, 42, 8, 4), (8, 49, 8, 5), (8, 56, 8, 6), (9, 7, 9, 0), (9, 13, 9, 1), (9, 30, 9, 2), (9, 16, 9, 3), (9, 213, 9, 4), (9, 26, 9, 5), (9, 19, 9, 6), (9, 216, 9, 7), (9, 225, 9, 8), (9, 222, 9, 9), (9, 250, 9, 10)]
def fldP (e : Nat × Nat × Nat × Nat) : Prop := Cond.fieldLink (ownN e.1) e.2.1 (TC e.2.2.1 e.2.2.2).1 (TC e.2.2.1 e.2.2.2).2.1 (TC e.2.2.1 e.2.2.2).2.2.1 ∈ Wg ∧ e.2.2.1 < 10 ∧ e.2.2.2 < NC e.2.2.1
set_option maxRecDepth 100000 in
theorem fld_ok : ∀ e ∈ fldT, fldP e := by
  unfold fldT
  exact List.forall_mem_cons.mpr ⟨⟨wgm 41 (by decide +kernel) (by decide +kernel), (by decide +kernel), (by decide +kernel)⟩, List.forall_mem_cons.mpr ⟨⟨wgm 42 (by decide +kernel) (by decide +kernel), (by decide +kernel), (by decide +kernel)⟩, List.forall_mem_cons.mpr ⟨⟨wgm 43 (by decide +kernel) (by decide +kernel), (by decide +kernel), (by decide +kernel)⟩, List.forall_mem_cons.mpr ⟨⟨wgm 44 (by decide +kernel) (by decide +kernel), (by decide +kernel), (by decide +kernel)⟩, List.forall_mem_cons.mpr ⟨⟨wgm 45 (by decide +kernel) (by decide +kernel), (by decide +kernel), (by decide +kernel)⟩, List.forall_mem_cons.mpr ⟨⟨wgm 46 (by decide +kernel) (by decide +kernel), (by decide +kernel), (by decide +kernel)⟩, List.forall_mem_cons.mpr ⟨⟨wgm 47 (by decide +kernel) (by decide +kernel), (by decide +kernel), (by decide +kernel)⟩, List.forall_mem_cons.mpr ⟨⟨wgm 48 (by decide +kernel) (by decide +kernel), (by decide +kernel), (by decide +kernel)⟩, List.forall_mem_cons.mpr ⟨⟨wgm 49 (by decide +kernel) (by decide +kernel), (by decide +kernel), (by decide +kernel)⟩, List.forall_mem_cons.mpr ⟨⟨wgm 50 (by decide +kernel) (by decide +kernel), (by decide +kernel), (by decide +kernel)⟩, List.forall_mem_cons.mpr ⟨⟨wgm 51 (by decide +kernel) (by decide +kernel), (by decide +kernel), (by decide +kernel)⟩, List.forall_mem_cons.mpr ⟨⟨wgm 52 (by decide +kernel) (by decide +kernel), (by decide +kernel), (by decide +kernel)⟩, List.forall_mem_cons.mpr ⟨⟨wgm 53 (by decide +kernel) (by decide +kernel), (by decide +kernel), (by decide +kernel)⟩, List.forall_mem_cons.mpr ⟨⟨wgm 54 (by decide +kernel) (by decide +kernel), (by decide +kernel), (by decide +kernel)⟩, List.forall_mem_cons.mpr ⟨⟨wgm 55 (by decide +kernel) (by decide +kernel), (by decide +kernel), (by decide +kernel)⟩, List.forall_mem_cons.mpr ⟨⟨wgm 56 (by decide +kernel) (by decide +kernel), (by decide +kernel), (by decide +kernel)⟩, List.forall_mem_cons.mpr ⟨⟨wgm 57 (by decide +kernel) (by decide +kernel), (by decide +kernel), (by decide +kernel)⟩, List.forall_mem_cons.mpr ⟨⟨wgm 58 (by decide +kernel) (by decide +kernel), (by decide +kernel), (by decide +kernel)⟩, List.forall_mem_cons.mpr ⟨⟨wgm 59 (by decide +kernel) (by decide +kernel), (by decide +kernel), (by decide +kernel)⟩, List.forall_mem_cons.mpr ⟨⟨wgm 60 (by decide +kernel) (by decide +kernel), (by decide +kernel), (by decide +kernel)⟩, List.forall_mem_cons.mpr ⟨⟨wgm 61 (by decide +kernel) (by decide +kernel), (by decide +kernel), (by decide +kernel)⟩, List.forall_mem_cons.mpr ⟨⟨wgm 62 (by decide +kernel) (by decide +kernel), (by decide +kernel), (by decide +kernel)⟩, List.forall_mem_cons.mpr ⟨⟨wgm 63 (by decide +kernel) (by decide +kernel), (by decide +kernel), (by decide +kernel)⟩, List.forall_mem_cons.mpr ⟨⟨wgm 64 (by decide +kernel) (by decide +kernel), (by decide +kernel), (by decide +kernel)⟩, List.forall_mem_cons.mpr ⟨⟨wgm 65 (by decide +kernel) (by decide +kernel), (by decide +kernel), (by decide +kernel)⟩, List.forall_mem_cons.mpr ⟨⟨wgm 66 (by decide +kernel) (by decide +kernel), (by decide +kernel), (by decide +kernel)⟩, List.forall_mem_cons.mpr ⟨⟨wgm 67 (by decide +kernel) (by decide +kernel), (by decide +kernel), (by decide +kernel)⟩, List.forall_mem_cons.mpr ⟨⟨wgm 68 (by decide +kernel) (by decide +kernel), (by decide +kernel), (by decide +kernel)⟩, List.forall_mem_cons.mpr ⟨⟨wgm 69 (by decide +kernel) (by decide +kernel), (by decide +kernel), (by decide +kernel)⟩, List.forall_mem_cons.mpr ⟨⟨wgm 70 (by decide +kernel) (by decide +kernel), (by decide +kernel), (by decide +kernel)⟩, List.forall_mem_cons.mpr ⟨⟨wgm 71 (by decide +kernel) (by decide +kernel), (by decide +kernel), (by decide +kernel)⟩, List.forall_mem_cons.mpr ⟨⟨wgm 72 (by decide +kernel) (by decide +kernel), (by decide +kernel), (by decide +kernel)⟩, List.forall_mem_cons.mpr ⟨⟨wgm 73 (by decide +kernel) (by decide +kernel), (by decide +kernel), (by decide +kernel)⟩, List.forall_mem_cons.mpr ⟨⟨wgm 74 (by decide +kernel) (by decide +kernel), (by decide +kernel), (by decide +kernel)⟩, List.forall_mem_cons.mpr ⟨⟨wgm 75 (by decide +kernel) (by decide +kernel), (by decide +kernel), (by decide +kernel)⟩, List.forall_mem_cons.mpr ⟨⟨wgm 76 (by decide +kernel) (by decide +kernel), (by decide +kernel), (by decide +kernel)⟩, List.forall_mem_cons.mpr ⟨⟨wgm 77 (by decide +kernel) (by decide +kernel), (by decide +kernel), (by decide +kernel)⟩, List.forall_mem_cons.mpr ⟨⟨wgm 78 (by decide +kernel) (by decide +kernel), (by decide +kernel), (by decide +kernel)⟩, List.forall_mem_cons.mpr ⟨⟨wgm 79 (by decide +kernel) (by decide +kernel), (by decide +kernel), (by decide +kernel)⟩, List.forall_mem_cons.mpr ⟨⟨wgm 80 (by decide +kernel) (by decide +kernel), (by decide +kernel), (by decide +kernel)⟩, List.forall_mem_cons.mpr ⟨⟨wgm 81 (by decide +kernel) (by decide +kernel), (by decide +kernel), (by decide +kernel)⟩, List.forall_mem_cons.mpr ⟨⟨wgm 82 (by decide +kernel) (by decide +kernel), (by decide +kernel), (by decide +kernel)⟩, List.forall_mem_cons.mpr ⟨⟨wgm 83 (by decide +kernel) (by decide +kernel), (by decide +kernel), (by decide +kernel)⟩, List.forall_mem_cons.mpr ⟨⟨wgm 84 (by decide +kernel) (by decide +kernel), (by decide +kernel), (by decide +kernel)⟩, List.forall_mem_cons.mpr ⟨⟨wgm 85 (by decide +kernel) (by decide +kernel), (by decide +kernel), (by decide +kernel)⟩, List.forall_mem_cons.mpr ⟨⟨wgm 86 (by decide +kernel) (by decide +kernel), (by decide +kernel), (by decide +kernel)⟩, List.forall_mem_cons.mpr ⟨⟨wgm 87 (by decide +kernel) (by decide +kernel), (by decide +kernel), (by decide +kernel)⟩, List.forall_mem_cons.mpr ⟨⟨wgm 88 (by decide +kernel) (by decide +kernel), (by decide +kernel), (by decide +kernel)⟩, List.forall_mem_cons.mpr ⟨⟨wgm 89 (by decide +kernel) (by decide +kernel), (by decide +kernel), (by decide +kernel)⟩, List.forall_mem_cons.mpr ⟨⟨wgm 90 (by decide +kernel) (by decide +kernel), (by decide +kernel), (by decide +kernel)⟩, List.forall_mem_cons.mpr ⟨⟨wgm 91 (by decide +kernel) (by decide +kernel), (by decide +kernel), (by decide +kernel)⟩, List.forall_mem_cons.mpr ⟨⟨wgm 92 (by decide +kernel) (by decide +kernel), (by decide +kernel), (by decide +kernel)⟩, List.forall_mem_cons.mpr ⟨⟨wgm 93 (by decide +kernel) (by decide +kernel), (by decide +kernel), (by decide +kernel)⟩, List.forall_mem_cons.mpr ⟨⟨wgm 94 (by decide +kernel) (by decide +kernel), (by decide +kernel), (by decide +kernel)⟩, List.forall_mem_cons.mpr ⟨⟨wgm 134 (by decide +kernel) (by decide +kernel), (by decide +kernel), (by decide +kernel)⟩, List.forall_mem_cons.mpr ⟨⟨wgm 135 (by decide +kernel) (by decide +kernel), (by decide +kernel), (by decide +kernel)⟩, List.forall_mem_cons.mpr ⟨⟨wgm 136 (by decide +kernel) (by decide +kernel), (by decide +kernel), (by decide +kernel)⟩, List.forall_mem_cons.mpr ⟨⟨wgm 137 (by decide +kernel) (by decide +kernel), (by decide +kernel), (by decide +kernel)⟩, List.forall_mem_cons.mpr ⟨⟨wgm 138 (by decide +kernel) (by decide +kernel), (by decide +kernel), (by decide +kernel)⟩, List.forall_mem_cons.mpr ⟨⟨wgm 139 (by decide +kernel) (by decide +kernel), (by decide +kernel), (by decide +kernel)⟩, List.forall_mem_cons.mpr ⟨⟨wgm 140 (by decide +kernel) (by decide +kernel), (by decide +kernel), (by decide +kernel)⟩, List.forall_mem_cons.mpr ⟨⟨wgm 141 (by decide +kernel) (by decide +kernel), (by decide +kernel), (by decide +kernel)⟩, List.forall_mem_cons.mpr ⟨⟨wgm 142 (by decide +kernel) (by decide +kernel), (by decide +kernel), (by decide +kernel)⟩, List.forall_mem_cons.mpr ⟨⟨wgm 143 (by decide +kernel) (by decide +kernel), (by decide +kernel), (by decide +kernel)⟩, List.forall_mem_cons.mpr ⟨⟨wgm 144 (by decide +kernel) (by decide +kernel), (by decide +kernel), (by decide +kernel)⟩, List.forall_mem_cons.mpr ⟨⟨wgm 145 (by decide +kernel) (by decide +kernel), (by decide +kernel), (by decide +kernel)⟩, List.forall_mem_cons.mpr ⟨⟨wgm 146 (by decide +kernel) (by decide +kernel), (by decide +kernel), (by decide +kernel)⟩, List.forall_mem_cons.mpr ⟨⟨wgm 147 (by decide +kernel) (by decide +kernel), (by decide +kernel), (by decide +kernel)⟩, List.forall_mem_cons.mpr ⟨⟨wgm 148 (by decide +kernel) (by decide +kernel), (by decide +kernel), (by decide +kernel)⟩, List.forall_mem_cons.mpr ⟨⟨wgm 149 (by decide +kernel) (by decide +kernel), (by decide +kernel), (by decide +kernel)⟩, List.forall_mem_cons.mpr ⟨⟨wgm 150 (by decide +kernel) (by decide +kernel), (by decide +kernel), (by decide +kernel)⟩, List.forall_mem_cons.mpr ⟨⟨wgm 151 (by decide +kernel) (by decide +kernel), (by decide +kernel), (by decide +kernel)⟩, List.forall_mem_cons.mpr ⟨⟨wgm 152 (by decide +kernel) (by decide +kernel), (by decide +kernel), (by decide +kernel)⟩, List.forall_mem_cons.mpr ⟨⟨wgm 179 (by decide +kernel) (by decide +kernel), (by decide +kernel), (by decide +kernel)⟩, List.forall_mem_cons.mpr ⟨⟨wgm 180 (by decide +kernel) (by decide +kernel), (by decide +kernel), (by decide +kernel)⟩, List.forall_mem_cons.mpr ⟨⟨wgm 181 (by decide +kernel) (by decide +kernel), (by decide +kernel), (by decide +kernel)⟩, List.forall_mem_cons.mpr ⟨⟨wgm 193 (by decide +kernel) (by decide +kernel), (by decide +kernel), (by decide +kernel)⟩, List.forall_mem_cons.mpr ⟨⟨wgm 203 (by decide +kernel) (by decide +kernel), (by decide +kernel), (by decide +kernel)⟩, List.forall_mem_cons.mpr ⟨⟨wgm 213 (by decide +kernel) (by decide +kernel), (by decide +kernel), (by decide +kernel)⟩, List.forall_mem_cons.mpr ⟨⟨wgm 223 (by decide +kernel) (by decide +kernel), (by decide +kernel), (by decide +kernel)⟩, List.forall_mem_cons.mpr ⟨⟨wgm 224 (by decide +kernel) (by decide +kernel), (by decide +kernel), (by decide +kernel)⟩, List.forall_mem_cons.mpr ⟨⟨wgm 225 (by decide +kernel) (by decide +kernel), (by decide +kernel), (by decide +kernel)⟩, List.forall_mem_cons.mpr ⟨⟨wgm 226 (by decide +kernel) (by decide +kernel), (by decide +kernel), (by decide +kernel)⟩, List.forall_mem_cons.mpr ⟨⟨wgm 227 (by decide +kernel) (by decide +kernel), (by decide +kernel), (by decide +kernel)⟩, List.forall_mem_cons.mpr ⟨⟨wgm 228 (by decide +kernel) (by decide +kernel), (by decide +kernel), (by decide +kernel)⟩, List.forall_mem_cons.mpr ⟨⟨wgm 248 (by decide +kernel) (by decide +kernel), (by decide +kernel), (by decide +kernel)⟩, List.forall_mem_cons.mpr ⟨⟨wgm 249 (by decide +kernel) (by decide +kernel), (by decide +kernel), (by decide +kernel)⟩, List.forall_mem_cons.mpr ⟨⟨wgm 250 (by decide +kernel) (by decide +kernel), (by decide +kernel), (by decide +kernel)⟩, List.forall_mem_cons.mpr ⟨⟨wgm 256 (by decide +kernel) (by decide +kernel), (by decide +kernel), (by decide +kernel)⟩, List.forall_mem_cons.mpr ⟨⟨wgm 257 (by decide +kernel) (by decide +kernel), (by decide +kernel), (by decide +kernel)⟩, List.forall_mem_cons.mpr ⟨⟨wgm 258 (by decide +kernel) (by decide +kernel), (by decide +kernel), (by decide +kernel)⟩, List.forall_mem_cons.mpr ⟨⟨wgm 259 (by decide +kernel) (by decide +kernel), (by decide +kernel), (by decide +kernel)⟩, List.forall_mem_cons.mpr ⟨⟨wgm 260 (by decide +kernel) (by decide +kernel), (by decide +kernel), (by decide +kernel)⟩, List.forall_mem_cons.mpr ⟨⟨wgm 261 (by decide +kernel) (by decide +kernel), (by decide +kernel), (by decide +kernel)⟩, List.forall_mem_cons.mpr ⟨⟨wgm 262 (by decide +kernel) (by decide +kernel), (by decide +kernel), (by decide +kernel)⟩, List.forall_mem_cons.mpr ⟨⟨wgm 960 (by decide +kernel) (by decide +kernel), (by decide +kernel), (by decide +kernel)⟩, List.forall_mem_cons.mpr ⟨⟨wgm 961 (by decide +kernel) (by decide +kernel), (by decide +kernel), (by decide +kernel)⟩, List.forall_mem_cons.mpr ⟨⟨wgm 962 (by decide +kernel) (by decide +kernel), (by decide +kernel), (by decide +kernel)⟩, List.forall_mem_cons.mpr ⟨⟨wgm 963 (by decide +kernel) (by decide +kernel), (by decide +kernel), (by decide +kernel)⟩, List.forall_mem_cons.mpr ⟨⟨wgm 964 (by decide +kernel) (by decide +kernel), (by decide +kernel), (by decide +kernel)⟩, List.forall_mem_cons.mpr ⟨⟨wgm 965 (by decide +kernel) (by decide +kernel), (by decide +kernel), (by decide +kernel)⟩, List.forall_mem_cons.mpr ⟨⟨wgm 966 (by decide +kernel) (by decide +kernel), (by decide +kernel), (by decide +kernel)⟩, List.forall_mem_cons.mpr ⟨⟨wgm 967 (by decide +kernel) (by decide +kernel), (by decide +kernel), (by decide +kernel)⟩, List.forall_mem_cons.mpr ⟨⟨wgm 968 (by decide +kernel) (by decide +kernel), (by decide +kernel), (by decide +kernel)⟩, List.forall_mem_cons.mpr ⟨⟨wgm 969 (by decide +kernel) (by decide +kernel), (by decide +kernel), (by decide +kernel)⟩, List.forall_mem_cons.mpr ⟨⟨wgm 970 (by decide +kernel) (by decide +kernel), (by decide +kernel), (by decide +kernel)⟩, fun _ h => absurd h List.not_mem_nil⟩⟩⟩⟩⟩⟩⟩⟩⟩⟩⟩⟩⟩⟩⟩⟩⟩⟩⟩⟩⟩⟩⟩⟩⟩⟩⟩⟩⟩⟩⟩⟩⟩⟩⟩⟩⟩⟩⟩⟩⟩⟩⟩⟩⟩⟩⟩⟩⟩⟩⟩⟩⟩⟩⟩⟩⟩⟩⟩⟩⟩⟩⟩⟩⟩⟩⟩⟩⟩⟩⟩⟩⟩⟩⟩⟩⟩⟩⟩⟩⟩⟩⟩⟩⟩⟩⟩⟩⟩⟩⟩⟩⟩⟩⟩⟩⟩⟩⟩⟩⟩⟩⟩⟩⟩⟩
def clnT : List (Nat × Nat × Nat) := [(10, 8, 8), (8, 7, 6), (6, 15, 7), (8, 16, 4), (4, 9, 6), (8, 23, 3), (8, 32, 2), (8, 39, 1), (8, 46, 0), (8, 53, 5), (10, 93, 9)]
def clnP (e : Nat × Nat × Nat) : Prop := Cond.classLink (ownN e.1) e.2.1 (RC e.2.2) ∈ Wg ∧ Cond.instantiable (RC e.2.2) (NC e.2.2) ∈ Wg ∧ Cond.initialized (RC e.2.2) ∈ Wg ∧ e.2.2 < 10
set_option maxRecDepth 100000 in
theorem cln_ok : ∀ e ∈ clnT, clnP e := by
  unfold clnT
  exact List.forall_mem_cons.mpr ⟨⟨wgm 20 (by decide +kernel) (by decide +kernel), wgm 21 (by decide +kernel) (by decide +kernel), wgm 1 (by decide +kernel) (by decide +kernel), (by decide +kernel)⟩, List.forall_mem_cons.mpr ⟨⟨wgm 28 (by decide +kernel) (by decide +kernel), wgm 29 (by decide +kernel) (by decide +kernel), wgm 2 (by decide +kernel) (by decide +kernel), (by decide +kernel)⟩, List.forall_mem_cons.mpr ⟨⟨wgm 34 (by decide +kernel) (by decide +kernel), wgm 36 (by decide +kernel) (by decide +kernel), wgm 3 (by decide +kernel) (by decide +kernel), (by decide +kernel)⟩, List.forall_mem_cons.mpr ⟨⟨wgm 170 (by decide +kernel) (by decide +kernel), wgm 171 (by decide +kernel) (by decide +kernel), wgm 5 (by decide +kernel) (by decide +kernel), (by decide +kernel)⟩, List.forall_mem_cons.mpr ⟨⟨wgm 176 (by decide +kernel) (by decide +kernel), wgm 29 (by decide +kernel) (by decide +kernel), wgm 2 (by decide +kernel) (by decide +kernel), (by decide +kernel)⟩, List.forall_mem_cons.mpr ⟨⟨wgm 187 (by decide +kernel) (by decide +kernel), wgm 188 (by decide +kernel) (by decide +kernel), wgm 6 (by decide +kernel) (by decide +kernel), (by decide +kernel)⟩, List.forall_mem_cons.mpr ⟨⟨wgm 197 (by decide +kernel) (by decide +kernel), wgm 198 (by decide +kernel) (by decide +kernel), wgm 7 (by decide +kernel) (by decide +kernel), (by decide +kernel)⟩, List.forall_mem_cons.mpr ⟨⟨wgm 207 (by decide +kernel) (by decide +kernel), wgm 208 (by decide +kernel) (by decide +kernel), wgm 8 (by decide +kernel) (by decide +kernel), (by decide +kernel)⟩, List.forall_mem_cons.mpr ⟨⟨wgm 217 (by decide +kernel) (by decide +kernel), wgm 218 (by decide +kernel) (by decide +kernel), wgm 9 (by decide +kernel) (by decide +kernel), (by decide +kernel)⟩, List.forall_mem_cons.mpr ⟨⟨wgm 242 (by decide +kernel) (by decide +kernel), wgm 243 (by decide +kernel) (by decide +kernel), wgm 10 (by decide +kernel) (by decide +kernel), (by decide +kernel)⟩, List.forall_mem_cons.mpr ⟨⟨wgm 950 (by decide +kernel) (by decide +kernel), wgm 951 (by decide +kernel) (by decide +kernel), wgm 11 (by decide +kernel) (by decide +kernel), (by decide +kernel)⟩, fun _ h => absurd h List.not_mem_nil⟩⟩⟩⟩⟩⟩⟩⟩⟩⟩⟩
def conT : List (Nat × Nat × Value) := [(8, 289, .long (103757 : Int64)), (8, 291, .long (31 : Int64)), (8, 255, .double (4602678819172646912 : UInt64)), (9, 211, .double (4602678819172646912 : UInt64)), (9, 254, .long (3347 : Int64)), (9, 248, .long (31 : Int64))]
def conP (e : Nat × Nat × Value) : Prop := match e.2.2 with | .long v => Cond.constantLong (ownN e.1) e.2.1 v ∈ Wg | .double v => Cond.constantDouble (ownN e.1) e.2.1 v ∈ Wg | _ => False
set_option maxRecDepth 100000 in
theorem con_ok : ∀ e ∈ conT, conP e := by
  unfold conT
  exact List.forall_mem_cons.mpr ⟨wgm 450 (by decide +kernel) (by decide +kernel), List.forall_mem_cons.mpr ⟨wgm 451 (by decide +kernel) (by decide +kernel), List.forall_mem_cons.mpr ⟨wgm 920 (by decide +kernel) (by decide +kernel), List.forall_mem_cons.mpr ⟨wgm 1299 (by decide +kernel) (by decide +kernel), List.forall_mem_cons.mpr ⟨wgm 1348 (by decide +kernel) (by decide +kernel), List.forall_mem_cons.mpr ⟨wgm 1353 (by decide +kernel) (by decide +kernel), fun _ h => absurd h List.not_mem_nil⟩⟩⟩⟩⟩⟩
def calT : List (Nat × Nat × Nat × Nat) := [(10, 92, 2, 82), (8, 1, 9, 0), (8, 9, 2, 40), (6, 3, 9, 0), (6, 21, 3, 70), (7, 3, 9, 0), (6, 22, 0, 41), (6, 45, 1, 212), (8, 18, 2, 29), (4, 1, 9, 0), (4, 15, 2, 40), (8, 25, 2, 19), (3, 3, 9, 0), (8, 34, 2, 10), (2, 3, 9, 0), (8, 41, 2, 6), (1, 1, 9, 0), (8, 48, 2, 0), (0, 3, 9, 0), (8, 55, 2, 33), (5, 3, 9, 0), (10, 138, 0, 94), (8, 71, 0, 30), (4, 20, 0, 31), (4, 23, 0, 42), (6, 51, 8, 0), (6, 57, 0, 72), (8, 185, 0, 24), (3, 78, 0, 25), (3, 92, 0, 73), (3, 95, 0, 74), (3, 34, 0, 53), (6, 67, 0, 44), (6, 85, 1, 208), (6, 88, 0, 46), (6, 94, 0, 47), (3, 38, 0, 51), (6, 78, 0, 50), (6, 71, 0, 73), (3, 85, 0, 81), (7, 75, 1, 210), (3, 88, 0, 23), (3, 59, 0, 60), (6, 109, 1, 58), (6, 61, 1, 211), (6, 115, 1, 59), (3, 63, 1, 210), (10, 178, 0, 106), (10, 182, 0, 107), (8, 271, 0, 37), (5, 19, 0, 36), (5, 23, 1, 38), (5, 27, 1, 39), (8, 274, 0, 36), (8, 277, 0, 26), (3, 101, 0, 24), (3, 105, 0, 45), (3, 108, 0, 27), (3, 115, 0, 20), (3, 15, 0, 75), (7, 58, 0, 73), (7, 62, 0, 74), (3, 25, 0, 57), (3, 118, 0, 21), (3, 111, 0, 28), (3, 121, 0, 22), (3, 49, 0, 76), (7, 65, 1, 208), (3, 124, 0, 77), (7, 71, 0, 76), (10, 190, 0, 109), (8, 138, 0, 68), (6, 143, 0, 64), (6, 146, 0, 66), (6, 82, 0, 48), (6, 150, 0, 67), (8, 146, 0, 69), (6, 121, 0, 60), (6, 168, 0, 57), (8, 237, 0, 1), (0, 32, 0, 3), (0, 42, 1, 212), (0, 48, 0, 73), (0, 67, 0, 5), (0, 36, 0, 44), (0, 71, 0, 75), (0, 74, 0, 4), (0, 78, 0, 57), (0, 82, 0, 53), (0, 86, 0, 51), (8, 293, 0, 43), (8, 150, 0, 52), (10, 96, 1, 213), (10, 7, 0, 83), (8, 74, 0, 41), (10, 105, 1, 214), (10, 15, 0, 84), (8, 78, 0, 110), (8, 296, 0, 44), (8, 82, 0, 50), (8, 91, 0, 48), (8, 95, 0, 49), (10, 109, 1, 215), (10, 23, 0, 85), (8, 99, 1, 114), (10, 112, 1, 216), (10, 26, 0, 86), (8, 110, 1, 113), (8, 117, 0, 51), (8, 126, 0, 71), (8, 132, 0, 23), (10, 116, 1, 217), (10, 30, 0, 87), (10, 120, 1, 218), (10, 34, 0, 88), (8, 141, 0, 111), (8, 225, 0, 45), (10, 123, 1, 219), (10, 37, 0, 89), (10, 126, 1, 220), (10, 40, 0, 90), (8, 153, 0, 54), (6, 100, 1, 209), (6, 103, 1, 210), (10, 129, 1, 221), (10, 43, 0, 91), (8, 157, 0, 55), (6, 106, 1, 56), (10, 132, 1, 222), (10, 46, 0, 92), (8, 160, 0, 20), (8, 166, 0, 21), (10, 135, 1, 223), (10, 49, 0, 93), (8, 172, 0, 22), (8, 178, 0, 77), (10, 142, 1, 224), (10, 52, 0, 95), (8, 189, 0, 112), (8, 192, 0, 14), (2, 45, 0, 73), (2, 26, 0, 54), (2, 21, 0, 55), (2, 52, 1, 11), (2, 15, 1, 208), (2, 55, 0, 12), (2, 29, 0, 53), (2, 32, 0, 51), (2, 59, 0, 78), (2, 63, 0, 13), (10, 146, 1, 225), (10, 56, 0, 96), (8, 198, 0, 15), (2, 67, 0, 79), (2, 70, 0, 14), (8, 204, 0, 16), (2, 74, 0, 80), (2, 78, 0, 17), (2, 85, 1, 211), (2, 91, 1, 210), (2, 103, 0, 62), (6, 128, 0, 45), (10, 150, 1, 226), (10, 60, 0, 97), (8, 208, 0, 7), (1, 13, 0, 73), (1, 23, 0, 74), (1, 29, 0, 54), (8, 217, 0, 63), (6, 131, 0, 74), (10, 153, 1, 227), (10, 63, 0, 98), (8, 222, 0, 62), (10, 156, 1, 228), (10, 66, 0, 99), (8, 234, 0, 8), (1, 38, 1, 210), (1, 47, 0, 9), (1, 51, 1, 211), (1, 54, 0, 62), (10, 159, 1, 229), (10, 69, 0, 100), (10, 162, 1, 230), (10, 72, 0, 101), (8, 241, 0, 2), (10, 165, 1, 231), (10, 75, 0, 102), (8, 244, 0, 18), (10, 168, 1, 232), (10, 78, 0, 103), (8, 247, 0, 61), (10, 171, 1, 233), (10, 81, 0, 104), (8, 252, 0, 65), (10, 175, 1, 234), (10, 85, 0, 105), (8, 259, 0, 34), (8, 265, 0, 35), (10, 186, 1, 235), (10, 88, 0, 108), (8, 286, 0, 32), (10, 95, 2, 115), (9, 1, 9, 0), (9, 22, 0, 116), (10, 102, 0, 117), (10, 101, 0, 140), (9, 37, 1, 118), (9, 77, 0, 121), (10, 108, 0, 141), (9, 80, 0, 123), (9, 33, 0, 122), (9, 56, 0, 131), (9, 52, 0, 127), (9, 41, 0, 125), (10, 111, 0, 142), (10, 115, 0, 148), (9, 96, 0, 147), (9, 100, 0, 133), (9, 59, 0, 132), (9, 92, 0, 126), (9, 103, 0, 146), (9, 89, 0, 145), (9, 86, 0, 144), (9, 83, 1, 143), (10, 119, 0, 152), (9, 114, 0, 151), (9, 107, 0, 149), (9, 110, 0, 150), (10, 122, 0, 154), (9, 117, 0, 124), (9, 120, 0, 153), (10, 125, 0, 155), (10, 128, 0, 156), (9, 123, 0, 136), (9, 62, 0, 134), (9, 65, 1, 119), (9, 68, 0, 135), (10, 131, 0, 157), (9, 71, 0, 137), (9, 45, 1, 128), (9, 49, 1, 129), (10, 134, 0, 161), (9, 129, 0, 159), (9, 126, 0, 158), (9, 74, 0, 130), (9, 132, 0, 160), (10, 137, 0, 165), (9, 139, 0, 163), (9, 135, 1, 162), (9, 142, 0, 164), (10, 141, 0, 167), (9, 145, 0, 166), (10, 145, 0, 171), (9, 158, 0, 170), (9, 161, 0, 169), (9, 148, 0, 138), (9, 151, 0, 139), (9, 155, 0, 168), (10, 149, 0, 176), (9, 175, 0, 172), (9, 178, 0, 175), (9, 168, 0, 173), (9, 165, 1, 120), (9, 172, 0, 174), (10, 152, 0, 179), (9, 181, 0, 178), (9, 184, 0, 177), (10, 155, 0, 180), (10, 158, 0, 182), (9, 187, 0, 181), (10, 161, 0, 190), (9, 208, 0, 189), (9, 202, 0, 187), (9, 193, 0, 183), (9, 199, 0, 186), (9, 190, 0, 184), (9, 196, 0, 185), (9, 205, 0, 188), (10, 164, 0, 191), (10, 167, 0, 192), (10, 170, 0, 193), (10, 174, 0, 194), (10, 177, 0, 195), (10, 181, 0, 196), (10, 185, 0, 204), (9, 239, 0, 201), (9, 235, 0, 200), (9, 219, 0, 197), (9, 228, 0, 199), (9, 232, 0, 198), (9, 242, 0, 202), (9, 245, 0, 203), (10, 189, 0, 205), (10, 194, 0, 207), (9, 256, 0, 206)]
def mW (m : Nat) : Cond := if (mHh m).isEmpty then Cond.code (mY m) (mCc m) (mMax m) (mRet m) else Cond.codeWith (mY m) (mCc m) (mMax m) (mRet m) (mHh m)
def arity (y : MethodName) : Option Nat := (parseMethodDescriptor y.desc).map (fun d => d.parameters.length)
def calP (e : Nat × Nat × Nat × Nat) : Prop := match e.2.2.1 with
  | 0 => Cond.methodLink (ownN e.1) e.2.1 (mY e.2.2.2) ∈ Wg ∧ Cond.instanceMethod (mY e.2.2.2) ∈ Wg ∧ Cond.selects (RC (mOwn e.2.2.2)) (mY e.2.2.2) (mY e.2.2.2) ∈ Wg ∧ mOwn e.2.2.2 < 10 ∧ (mY e.2.2.2).cls = RC (mOwn e.2.2.2) ∧ arity (mY e.2.2.2) = some (mNa e.2.2.2 - 1) ∧ 1 ≤ mNa e.2.2.2 ∧ (mHh e.2.2.2).isEmpty = true
  | 1 => Cond.methodLink (ownN e.1) e.2.1 (mY e.2.2.2) ∈ Wg ∧ Cond.static (mY e.2.2.2) ∈ Wg ∧ arity (mY e.2.2.2) = some (mNa e.2.2.2)
  | 2 => Cond.methodLink (ownN e.1) e.2.1 (mY e.2.2.2) ∈ Wg ∧ Cond.instanceMethod (mY e.2.2.2) ∈ Wg ∧ (mY e.2.2.2).name = "<init>" ∧ arity (mY e.2.2.2) = some (mNa e.2.2.2 - 1) ∧ 1 ≤ mNa e.2.2.2 ∧ (mHh e.2.2.2).isEmpty = true ∧ mRet e.2.2.2 = none
  | 3 => Cond.methodLinkNest (ownN e.1) e.2.1 (mY e.2.2.2) "HexBroadsides" ∈ lw_tbl ∧ Cond.instanceMethod (mY e.2.2.2) ∈ Wg ∧ (mY e.2.2.2).name = "<init>" ∧ arity (mY e.2.2.2) = some (mNa e.2.2.2 - 1) ∧ 1 ≤ mNa e.2.2.2 ∧ (mHh e.2.2.2).isEmpty = true ∧ mRet e.2.2.2 = none
  | 8 => Cond.methodLink (ownN e.1) e.2.1 arraycopyName ∈ Wg
  | _ => Cond.methodLink (ownN e.1) e.2.1 Lib.objectInit ∈ Wg
set_option maxRecDepth 100000 in
theorem cal_ok : ∀ e ∈ calT, calP e := by
  unfold calT
  exact List.forall_mem_cons.mpr ⟨⟨wgm 22 (by decide +kernel) (by decide +kernel), wgm 23 (by decide +kernel) (by decide +kernel), (by decide +kernel), (by decide +kernel), (by decide +kernel), (by decide +kernel), (by decide +kernel)⟩, List.forall_mem_cons.mpr ⟨wgm 25 (by decide +kernel) (by decide +kernel), List.forall_mem_cons.mpr ⟨⟨wgm 30 (by decide +kernel) (by decide +kernel), wgm 31 (by decide +kernel) (by decide +kernel), (by decide +kernel), (by decide +kernel), (by decide +kernel), (by decide +kernel), (by decide +kernel)⟩, List.forall_mem_cons.mpr ⟨wgm 33 (by decide +kernel) (by decide +kernel), List.forall_mem_cons.mpr ⟨⟨List.mem_append_right _ (List.mem_of_getElem? (i := 37) (by decide +kernel)), wgm 38 (by decide +kernel) (by decide +kernel), (by decide +kernel), (by decide +kernel), (by decide +kernel), (by decide +kernel), (by decide +kernel)⟩, List.forall_mem_cons.mpr ⟨wgm 40 (by decide +kernel) (by decide +kernel), List.forall_mem_cons.mpr ⟨⟨wgm 127 (by decide +kernel) (by decide +kernel), wgm 128 (by decide +kernel) (by decide +kernel), wgm 129 (by decide +kernel) (by decide +kernel), (by decide +kernel), (by decide +kernel), (by decide +kernel), (by decide +kernel), (by decide +kernel)⟩, List.forall_mem_cons.mpr ⟨⟨wgm 131 (by decide +kernel) (by decide +kernel), wgm 132 (by decide +kernel) (by decide +kernel), (by decide +kernel)⟩, List.forall_mem_cons.mpr ⟨⟨wgm 172 (by decide +kernel) (by decide +kernel), wgm 173 (by decide +kernel) (by decide +kernel), (by decide +kernel), (by decide +kernel), (by decide +kernel), (by decide +kernel), (by decide +kernel)⟩, List.forall_mem_cons.mpr ⟨wgm 175 (by decide +kernel) (by decide +kernel), List.forall_mem_cons.mpr ⟨⟨wgm 178 (by decide +kernel) (by decide +kernel), wgm 31 (by decide +kernel) (by decide +kernel), (by decide +kernel), (by decide +kernel), (by decide +kernel), (by decide +kernel), (by decide +kernel)⟩, List.forall_mem_cons.mpr ⟨⟨wgm 189 (by decide +kernel) (by decide +kernel), wgm 190 (by decide +kernel) (by decide +kernel), (by decide +kernel), (by decide +kernel), (by decide +kernel), (by decide +kernel), (by decide +kernel)⟩, List.forall_mem_cons.mpr ⟨wgm 192 (by decide +kernel) (by decide +kernel), List.forall_mem_cons.mpr ⟨⟨wgm 199 (by decide +kernel) (by decide +kernel), wgm 200 (by decide +kernel) (by decide +kernel), (by decide +kernel), (by decide +kernel), (by decide +kernel), (by decide +kernel), (by decide +kernel)⟩, List.forall_mem_cons.mpr ⟨wgm 202 (by decide +kernel) (by decide +kernel), List.forall_mem_cons.mpr ⟨⟨wgm 209 (by decide +kernel) (by decide +kernel), wgm 210 (by decide +kernel) (by decide +kernel), (by decide +kernel), (by decide +kernel), (by decide +kernel), (by decide +kernel), (by decide +kernel)⟩, List.forall_mem_cons.mpr ⟨wgm 212 (by decide +kernel) (by decide +kernel), List.forall_mem_cons.mpr ⟨⟨wgm 219 (by decide +kernel) (by decide +kernel), wgm 220 (by decide +kernel) (by decide +kernel), (by decide +kernel), (by decide +kernel), (by decide +kernel), (by decide +kernel), (by decide +kernel)⟩, List.forall_mem_cons.mpr ⟨wgm 222 (by decide +kernel) (by decide +kernel), List.forall_mem_cons.mpr ⟨⟨wgm 244 (by decide +kernel) (by decide +kernel), wgm 245 (by decide +kernel) (by decide +kernel), (by decide +kernel), (by decide +kernel), (by decide +kernel), (by decide +kernel), (by decide +kernel)⟩, List.forall_mem_cons.mpr ⟨wgm 247 (by decide +kernel) (by decide +kernel), List.forall_mem_cons.mpr ⟨⟨wgm 278 (by decide +kernel) (by decide +kernel), wgm 279 (by decide +kernel) (by decide +kernel), wgm 280 (by decide +kernel) (by decide +kernel), (by decide +kernel), (by decide +kernel), (by decide +kernel), (by decide +kernel), (by decide +kernel)⟩, List.forall_mem_cons.mpr ⟨⟨wgm 282 (by decide +kernel) (by decide +kernel), wgm 283 (by decide +kernel) (by decide +kernel), wgm 284 (by decide +kernel) (by decide +kernel), (by decide +kernel), (by decide +kernel), (by decide +kernel), (by decide +kernel), (by decide +kernel)⟩, List.forall_mem_cons.mpr ⟨⟨wgm 286 (by decide +kernel) (by decide +kernel), wgm 288 (by decide +kernel) (by decide +kernel), wgp 0 (by decide +kernel) (by decide +kernel), (by decide +kernel), (by decide +kernel), (by decide +kernel), (by decide +kernel), (by decide +kernel)⟩, List.forall_mem_cons.mpr ⟨⟨wgm 290 (by decide +kernel) (by decide +kernel), wgm 291 (by decide +kernel) (by decide +kernel), wgm 292 (by decide +kernel) (by decide +kernel), (by decide +kernel), (by decide +kernel), (by decide +kernel), (by decide +kernel), (by decide +kernel)⟩, List.forall_mem_cons.mpr ⟨wgm 294 (by decide +kernel) (by decide +kernel), List.forall_mem_cons.mpr ⟨⟨wgm 297 (by decide +kernel) (by decide +kernel), wgm 298 (by decide +kernel) (by decide +kernel), wgm 299 (by decide +kernel) (by decide +kernel), (by decide +kernel), (by decide +kernel), (by decide +kernel), (by decide +kernel), (by decide +kernel)⟩, List.forall_mem_cons.mpr ⟨⟨wgm 301 (by decide +kernel) (by decide +kernel), wgm 302 (by decide +kernel) (by decide +kernel), wgm 303 (by decide +kernel) (by decide +kernel), (by decide +kernel), (by decide +kernel), (by decide +kernel), (by decide +kernel), (by decide +kernel)⟩, List.forall_mem_cons.mpr ⟨⟨wgm 305 (by decide +kernel) (by decide +kernel), wgm 307 (by decide +kernel) (by decide +kernel), wgp 1 (by decide +kernel) (by decide +kernel), (by decide +kernel), (by decide +kernel), (by decide +kernel), (by decide +kernel), (by decide +kernel)⟩, List.forall_mem_cons.mpr ⟨⟨wgm 309 (by decide +kernel) (by decide +kernel), wgm 310 (by decide +kernel) (by decide +kernel), wgm 311 (by decide +kernel) (by decide +kernel), (by decide +kernel), (by decide +kernel), (by decide +kernel), (by decide +kernel), (by decide +kernel)⟩, List.forall_mem_cons.mpr ⟨⟨wgm 313 (by decide +kernel) (by decide +kernel), wgm 314 (by decide +kernel) (by decide +kernel), wgm 315 (by decide +kernel) (by decide +kernel), (by decide +kernel), (by decide +kernel), (by decide +kernel), (by decide +kernel), (by decide +kernel)⟩, List.forall_mem_cons.mpr ⟨⟨wgm 317 (by decide +kernel) (by decide +kernel), wgm 318 (by decide +kernel) (by decide +kernel), wgm 319 (by decide +kernel) (by decide +kernel), (by decide +kernel), (by decide +kernel), (by decide +kernel), (by decide +kernel), (by decide +kernel)⟩, List.forall_mem_cons.mpr ⟨⟨wgm 321 (by decide +kernel) (by decide +kernel), wgm 322 (by decide +kernel) (by decide +kernel), wgm 323 (by decide +kernel) (by decide +kernel), (by decide +kernel), (by decide +kernel), (by decide +kernel), (by decide +kernel), (by decide +kernel)⟩, List.forall_mem_cons.mpr ⟨⟨wgm 325 (by decide +kernel) (by decide +kernel), wgm 326 (by decide +kernel) (by decide +kernel), (by decide +kernel)⟩, List.forall_mem_cons.mpr ⟨⟨wgm 328 (by decide +kernel) (by decide +kernel), wgm 329 (by decide +kernel) (by decide +kernel), wgm 330 (by decide +kernel) (by decide +kernel), (by decide +kernel), (by decide +kernel), (by decide +kernel), (by decide +kernel), (by decide +kernel)⟩, List.forall_mem_cons.mpr ⟨⟨wgm 334 (by decide +kernel) (by decide +kernel), wgm 335 (by decide +kernel) (by decide +kernel), wgm 336 (by decide +kernel) (by decide +kernel), (by decide +kernel), (by decide +kernel), (by decide +kernel), (by decide +kernel), (by decide +kernel)⟩, List.forall_mem_cons.mpr ⟨⟨wgm 340 (by decide +kernel) (by decide +kernel), wgm 341 (by decide +kernel) (by decide +kernel), wgm 342 (by decide +kernel) (by decide +kernel), (by decide +kernel), (by decide +kernel), (by decide +kernel), (by decide +kernel), (by decide +kernel)⟩, List.forall_mem_cons.mpr ⟨⟨wgm 344 (by decide +kernel) (by decide +kernel), wgm 345 (by decide +kernel) (by decide +kernel), wgm 346 (by decide +kernel) (by decide +kernel), (by decide +kernel), (by decide +kernel), (by decide +kernel), (by decide +kernel), (by decide +kernel)⟩, List.forall_mem_cons.mpr ⟨⟨wgm 348 (by decide +kernel) (by decide +kernel), wgm 310 (by decide +kernel) (by decide +kernel), wgm 311 (by decide +kernel) (by decide +kernel), (by decide +kernel), (by decide +kernel), (by decide +kernel), (by decide +kernel), (by decide +kernel)⟩, List.forall_mem_cons.mpr ⟨⟨wgm 349 (by decide +kernel) (by decide +kernel), wgm 350 (by decide +kernel) (by decide +kernel), wgm 351 (by decide +kernel) (by decide +kernel), (by decide +kernel), (by decide +kernel), (by decide +kernel), (by decide +kernel), (by decide +kernel)⟩, List.forall_mem_cons.mpr ⟨⟨wgm 353 (by decide +kernel) (by decide +kernel), wgm 354 (by decide +kernel) (by decide +kernel), (by decide +kernel)⟩, List.forall_mem_cons.mpr ⟨⟨wgm 356 (by decide +kernel) (by decide +kernel), wgm 357 (by decide +kernel) (by decide +kernel), wgm 358 (by decide +kernel) (by decide +kernel), (by decide +kernel), (by decide +kernel), (by decide +kernel), (by decide +kernel), (by decide +kernel)⟩, List.forall_mem_cons.mpr ⟨⟨wgm 360 (by decide +kernel) (by decide +kernel), wgm 361 (by decide +kernel) (by decide +kernel), wgm 362 (by decide +kernel) (by decide +kernel), (by decide +kernel), (by decide +kernel), (by decide +kernel), (by decide +kernel), (by decide +kernel)⟩, List.forall_mem_cons.mpr ⟨⟨wgm 364 (by decide +kernel) (by decide +kernel), wgm 365 (by decide +kernel) (by decide +kernel), (by decide +kernel)⟩, List.forall_mem_cons.mpr ⟨⟨wgm 367 (by decide +kernel) (by decide +kernel), wgm 368 (by decide +kernel) (by decide +kernel), (by decide +kernel)⟩, List.forall_mem_cons.mpr ⟨⟨wgm 370 (by decide +kernel) (by decide +kernel), wgm 371 (by decide +kernel) (by decide +kernel), (by decide +kernel)⟩, List.forall_mem_cons.mpr ⟨⟨wgm 373 (by decide +kernel) (by decide +kernel), wgm 354 (by decide +kernel) (by decide +kernel), (by decide +kernel)⟩, List.forall_mem_cons.mpr ⟨⟨wgm 374 (by decide +kernel) (by decide +kernel), wgm 375 (by decide +kernel) (by decide +kernel), wgm 376 (by decide +kernel) (by decide +kernel), (by decide +kernel), (by decide +kernel), (by decide +kernel), (by decide +kernel), (by decide +kernel)⟩, List.forall_mem_cons.mpr ⟨⟨wgm 378 (by decide +kernel) (by decide +kernel), wgm 379 (by decide +kernel) (by decide +kernel), wgm 380 (by decide +kernel) (by decide +kernel), (by decide +kernel), (by decide +kernel), (by decide +kernel), (by decide +kernel), (by decide +kernel)⟩, List.forall_mem_cons.mpr ⟨⟨wgm 382 (by decide +kernel) (by decide +kernel), wgm 383 (by decide +kernel) (by decide +kernel), wgm 384 (by decide +kernel) (by decide +kernel), (by decide +kernel), (by decide +kernel), (by decide +kernel), (by decide +kernel), (by decide +kernel)⟩, List.forall_mem_cons.mpr ⟨⟨wgm 386 (by decide +kernel) (by decide +kernel), wgm 387 (by decide +kernel) (by decide +kernel), wgm 388 (by decide +kernel) (by decide +kernel), (by decide +kernel), (by decide +kernel), (by decide +kernel), (by decide +kernel), (by decide +kernel)⟩, List.forall_mem_cons.mpr ⟨⟨wgm 390 (by decide +kernel) (by decide +kernel), wgm 391 (by decide +kernel) (by decide +kernel), (by decide +kernel)⟩, List.forall_mem_cons.mpr ⟨⟨wgm 393 (by decide +kernel) (by decide +kernel), wgm 394 (by decide +kernel) (by decide +kernel), (by decide +kernel)⟩, List.forall_mem_cons.mpr ⟨⟨wgm 396 (by decide +kernel) (by decide +kernel), wgm 387 (by decide +kernel) (by decide +kernel), wgm 388 (by decide +kernel) (by decide +kernel), (by decide +kernel), (by decide +kernel), (by decide +kernel), (by decide +kernel), (by decide +kernel)⟩, List.forall_mem_cons.mpr ⟨⟨wgm 397 (by decide +kernel) (by decide +kernel), wgm 398 (by decide +kernel) (by decide +kernel), wgm 399 (by decide +kernel) (by decide +kernel), (by decide +kernel), (by decide +kernel), (by decide +kernel), (by decide +kernel), (by decide +kernel)⟩, List.forall_mem_cons.mpr ⟨⟨wgm 401 (by decide +kernel) (by decide +kernel), wgm 302 (by decide +kernel) (by decide +kernel), wgm 303 (by decide +kernel) (by decide +kernel), (by decide +kernel), (by decide +kernel), (by decide +kernel), (by decide +kernel), (by decide +kernel)⟩, List.forall_mem_cons.mpr ⟨⟨wgm 402 (by decide +kernel) (by decide +kernel), wgm 403 (by decide +kernel) (by decide +kernel), wgm 404 (by decide +kernel) (by decide +kernel), (by decide +kernel), (by decide +kernel), (by decide +kernel), (by decide +kernel), (by decide +kernel)⟩, List.forall_mem_cons.mpr ⟨⟨wgm 406 (by decide +kernel) (by decide +kernel), wgm 408 (by decide +kernel) (by decide +kernel), wgp 2 (by decide +kernel) (by decide +kernel), (by decide +kernel), (by decide +kernel), (by decide +kernel), (by decide +kernel), (by decide +kernel)⟩, List.forall_mem_cons.mpr ⟨⟨wgm 410 (by decide +kernel) (by decide +kernel), wgm 411 (by decide +kernel) (by decide +kernel), wgm 412 (by decide +kernel) (by decide +kernel), (by decide +kernel), (by decide +kernel), (by decide +kernel), (by decide +kernel), (by decide +kernel)⟩, List.forall_mem_cons.mpr ⟨⟨wgm 414 (by decide +kernel) (by decide +kernel), wgm 415 (by decide +kernel) (by decide +kernel), wgm 416 (by decide +kernel) (by decide +kernel), (by decide +kernel), (by decide +kernel), (by decide +kernel), (by decide +kernel), (by decide +kernel)⟩, List.forall_mem_cons.mpr ⟨⟨wgm 418 (by decide +kernel) (by decide +kernel), wgm 310 (by decide +kernel) (by decide +kernel), wgm 311 (by decide +kernel) (by decide +kernel), (by decide +kernel), (by decide +kernel), (by decide +kernel), (by decide +kernel), (by decide +kernel)⟩, List.forall_mem_cons.mpr ⟨⟨wgm 419 (by decide +kernel) (by decide +kernel), wgm 314 (by decide +kernel) (by decide +kernel), wgm 315 (by decide +kernel) (by decide +kernel), (by decide +kernel), (by decide +kernel), (by decide +kernel), (by decide +kernel), (by decide +kernel)⟩, List.forall_mem_cons.mpr ⟨⟨wgm 420 (by decide +kernel) (by decide +kernel), wgm 421 (by decide +kernel) (by decide +kernel), wgm 422 (by decide +kernel) (by decide +kernel), (by decide +kernel), (by decide +kernel), (by decide +kernel), (by decide +kernel), (by decide +kernel)⟩, List.forall_mem_cons.mpr ⟨⟨wgm 424 (by decide +kernel) (by decide +kernel), wgm 425 (by decide +kernel) (by decide +kernel), wgm 426 (by decide +kernel) (by decide +kernel), (by decide +kernel), (by decide +kernel), (by decide +kernel), (by decide +kernel), (by decide +kernel)⟩, List.forall_mem_cons.mpr ⟨⟨wgm 428 (by decide +kernel) (by decide +kernel), wgm 430 (by decide +kernel) (by decide +kernel), wgp 3 (by decide +kernel) (by decide +kernel), (by decide +kernel), (by decide +kernel), (by decide +kernel), (by decide +kernel), (by decide +kernel)⟩, List.forall_mem_cons.mpr ⟨⟨wgm 432 (by decide +kernel) (by decide +kernel), wgm 433 (by decide +kernel) (by decide +kernel), wgm 434 (by decide +kernel) (by decide +kernel), (by decide +kernel), (by decide +kernel), (by decide +kernel), (by decide +kernel), (by decide +kernel)⟩, List.forall_mem_cons.mpr ⟨⟨wgm 436 (by decide +kernel) (by decide +kernel), wgm 437 (by decide +kernel) (by decide +kernel), wgm 438 (by decide +kernel) (by decide +kernel), (by decide +kernel), (by decide +kernel), (by decide +kernel), (by decide +kernel), (by decide +kernel)⟩, List.forall_mem_cons.mpr ⟨⟨wgm 440 (by decide +kernel) (by decide +kernel), wgm 326 (by decide +kernel) (by decide +kernel), (by decide +kernel)⟩, List.forall_mem_cons.mpr ⟨⟨wgm 441 (by decide +kernel) (by decide +kernel), wgm 442 (by decide +kernel) (by decide +kernel), wgm 443 (by decide +kernel) (by decide +kernel), (by decide +kernel), (by decide +kernel), (by decide +kernel), (by decide +kernel), (by decide +kernel)⟩, List.forall_mem_cons.mpr ⟨⟨wgm 445 (by decide +kernel) (by decide +kernel), wgm 437 (by decide +kernel) (by decide +kernel), wgm 438 (by decide +kernel) (by decide +kernel), (by decide +kernel), (by decide +kernel), (by decide +kernel), (by decide +kernel), (by decide +kernel)⟩, List.forall_mem_cons.mpr ⟨⟨wgm 446 (by decide +kernel) (by decide +kernel), wgm 447 (by decide +kernel) (by decide +kernel), wgm 448 (by decide +kernel) (by decide +kernel), (by decide +kernel), (by decide +kernel), (by decide +kernel), (by decide +kernel), (by decide +kernel)⟩, List.forall_mem_cons.mpr ⟨⟨wgm 452 (by decide +kernel) (by decide +kernel), wgm 453 (by decide +kernel) (by decide +kernel), wgm 454 (by decide +kernel) (by decide +kernel), (by decide +kernel), (by decide +kernel), (by decide +kernel), (by decide +kernel), (by decide +kernel)⟩, List.forall_mem_cons.mpr ⟨⟨wgm 456 (by decide +kernel) (by decide +kernel), wgm 458 (by decide +kernel) (by decide +kernel), wgp 4 (by decide +kernel) (by decide +kernel), (by decide +kernel), (by decide +kernel), (by decide +kernel), (by decide +kernel), (by decide +kernel)⟩, List.forall_mem_cons.mpr ⟨⟨wgm 460 (by decide +kernel) (by decide +kernel), wgm 462 (by decide +kernel) (by decide +kernel), wgp 5 (by decide +kernel) (by decide +kernel), (by decide +kernel), (by decide +kernel), (by decide +kernel), (by decide +kernel), (by decide +kernel)⟩, List.forall_mem_cons.mpr ⟨⟨wgm 464 (by decide +kernel) (by decide +kernel), wgm 465 (by decide +kernel) (by decide +kernel), wgm 466 (by decide +kernel) (by decide +kernel), (by decide +kernel), (by decide +kernel), (by decide +kernel), (by decide +kernel), (by decide +kernel)⟩, List.forall_mem_cons.mpr ⟨⟨wgm 468 (by decide +kernel) (by decide +kernel), wgm 470 (by decide +kernel) (by decide +kernel), wgp 6 (by decide +kernel) (by decide +kernel), (by decide +kernel), (by decide +kernel), (by decide +kernel), (by decide +kernel), (by decide +kernel)⟩, List.forall_mem_cons.mpr ⟨⟨wgm 472 (by decide +kernel) (by decide +kernel), wgm 473 (by decide +kernel) (by decide +kernel), wgm 474 (by decide +kernel) (by decide +kernel), (by decide +kernel), (by decide +kernel), (by decide +kernel), (by decide +kernel), (by decide +kernel)⟩, List.forall_mem_cons.mpr ⟨⟨wgm 476 (by decide +kernel) (by decide +kernel), wgm 361 (by decide +kernel) (by decide +kernel), wgm 362 (by decide +kernel) (by decide +kernel), (by decide +kernel), (by decide +kernel), (by decide +kernel), (by decide +kernel), (by decide +kernel)⟩, List.forall_mem_cons.mpr ⟨⟨wgm 477 (by decide +kernel) (by decide +kernel), wgm 421 (by decide +kernel) (by decide +kernel), wgm 422 (by decide +kernel) (by decide +kernel), (by decide +kernel), (by decide +kernel), (by decide +kernel), (by decide +kernel), (by decide +kernel)⟩, List.forall_mem_cons.mpr ⟨⟨wgm 478 (by decide +kernel) (by decide +kernel), wgm 479 (by decide +kernel) (by decide +kernel), wgm 480 (by decide +kernel) (by decide +kernel), (by decide +kernel), (by decide +kernel), (by decide +kernel), (by decide +kernel), (by decide +kernel)⟩, List.forall_mem_cons.mpr ⟨⟨wgm 482 (by decide +kernel) (by decide +kernel), wgm 484 (by decide +kernel) (by decide +kernel), wgp 7 (by decide +kernel) (by decide +kernel), (by decide +kernel), (by decide +kernel), (by decide +kernel), (by decide +kernel), (by decide +kernel)⟩, List.forall_mem_cons.mpr ⟨⟨wgm 486 (by decide +kernel) (by decide +kernel), wgm 132 (by decide +kernel) (by decide +kernel), (by decide +kernel)⟩, List.forall_mem_cons.mpr ⟨⟨wgm 487 (by decide +kernel) (by decide +kernel), wgm 310 (by decide +kernel) (by decide +kernel), wgm 311 (by decide +kernel) (by decide +kernel), (by decide +kernel), (by decide +kernel), (by decide +kernel), (by decide +kernel), (by decide +kernel)⟩, List.forall_mem_cons.mpr ⟨⟨wgm 488 (by decide +kernel) (by decide +kernel), wgm 490 (by decide +kernel) (by decide +kernel), wgp 8 (by decide +kernel) (by decide +kernel), (by decide +kernel), (by decide +kernel), (by decide +kernel), (by decide +kernel), (by decide +kernel)⟩, List.forall_mem_cons.mpr ⟨⟨wgm 492 (by decide +kernel) (by decide +kernel), wgm 322 (by decide +kernel) (by decide +kernel), wgm 323 (by decide +kernel) (by decide +kernel), (by decide +kernel), (by decide +kernel), (by decide +kernel), (by decide +kernel), (by decide +kernel)⟩, List.forall_mem_cons.mpr ⟨⟨wgm 493 (by decide +kernel) (by decide +kernel), wgm 415 (by decide +kernel) (by decide +kernel), wgm 416 (by decide +kernel) (by decide +kernel), (by decide +kernel), (by decide +kernel), (by decide +kernel), (by decide +kernel), (by decide +kernel)⟩, List.forall_mem_cons.mpr ⟨⟨wgm 494 (by decide +kernel) (by decide +kernel), wgm 496 (by decide +kernel) (by decide +kernel), wgp 9 (by decide +kernel) (by decide +kernel), (by decide +kernel), (by decide +kernel), (by decide +kernel), (by decide +kernel), (by decide +kernel)⟩, List.forall_mem_cons.mpr ⟨⟨wgm 498 (by decide +kernel) (by decide +kernel), wgm 421 (by decide +kernel) (by decide +kernel), wgm 422 (by decide +kernel) (by decide +kernel), (by decide +kernel), (by decide +kernel), (by decide +kernel), (by decide +kernel), (by decide +kernel)⟩, List.forall_mem_cons.mpr ⟨⟨wgm 499 (by decide +kernel) (by decide +kernel), wgm 318 (by decide +kernel) (by decide +kernel), wgm 319 (by decide +kernel) (by decide +kernel), (by decide +kernel), (by decide +kernel), (by decide +kernel), (by decide +kernel), (by decide +kernel)⟩, List.forall_mem_cons.mpr ⟨⟨wgm 500 (by decide +kernel) (by decide +kernel), wgm 341 (by decide +kernel) (by decide +kernel), wgm 342 (by decide +kernel) (by decide +kernel), (by decide +kernel), (by decide +kernel), (by decide +kernel), (by decide +kernel), (by decide +kernel)⟩, List.forall_mem_cons.mpr ⟨⟨wgm 501 (by decide +kernel) (by decide +kernel), wgm 502 (by decide +kernel) (by decide +kernel), wgm 503 (by decide +kernel) (by decide +kernel), (by decide +kernel), (by decide +kernel), (by decide +kernel), (by decide +kernel), (by decide +kernel)⟩, List.forall_mem_cons.mpr ⟨⟨wgm 505 (by decide +kernel) (by decide +kernel), wgm 506 (by decide +kernel) (by decide +kernel), wgm 507 (by decide +kernel) (by decide +kernel), (by decide +kernel), (by decide +kernel), (by decide +kernel), (by decide +kernel), (by decide +kernel)⟩, List.forall_mem_cons.mpr ⟨⟨wgm 509 (by decide +kernel) (by decide +kernel), wgm 510 (by decide +kernel) (by decide +kernel), (by decide +kernel)⟩, List.forall_mem_cons.mpr ⟨⟨wgm 513 (by decide +kernel) (by decide +kernel), wgm 514 (by decide +kernel) (by decide +kernel), wgm 515 (by decide +kernel) (by decide +kernel), (by decide +kernel), (by decide +kernel), (by decide +kernel), (by decide +kernel), (by decide +kernel)⟩, List.forall_mem_cons.mpr ⟨⟨wgm 585 (by decide +kernel) (by decide +kernel), wgm 128 (by decide +kernel) (by decide +kernel), wgm 129 (by decide +kernel) (by decide +kernel), (by decide +kernel), (by decide +kernel), (by decide +kernel), (by decide +kernel), (by decide +kernel)⟩, List.forall_mem_cons.mpr ⟨⟨wgm 586 (by decide +kernel) (by decide +kernel), wgm 587 (by decide +kernel) (by decide +kernel), (by decide +kernel)⟩, List.forall_mem_cons.mpr ⟨⟨wgm 591 (by decide +kernel) (by decide +kernel), wgm 592 (by decide +kernel) (by decide +kernel), wgm 593 (by decide +kernel) (by decide +kernel), (by decide +kernel), (by decide +kernel), (by decide +kernel), (by decide +kernel), (by decide +kernel)⟩, List.forall_mem_cons.mpr ⟨⟨wgm 595 (by decide +kernel) (by decide +kernel), wgm 597 (by decide +kernel) (by decide +kernel), wgp 11 (by decide +kernel) (by decide +kernel), (by decide +kernel), (by decide +kernel), (by decide +kernel), (by decide +kernel), (by decide +kernel)⟩, List.forall_mem_cons.mpr ⟨⟨wgm 599 (by decide +kernel) (by decide +kernel), wgm 322 (by decide +kernel) (by decide +kernel), wgm 323 (by decide +kernel) (by decide +kernel), (by decide +kernel), (by decide +kernel), (by decide +kernel), (by decide +kernel), (by decide +kernel)⟩, List.forall_mem_cons.mpr ⟨⟨wgm 616 (by decide +kernel) (by decide +kernel), wgm 345 (by decide +kernel) (by decide +kernel), wgm 346 (by decide +kernel) (by decide +kernel), (by decide +kernel), (by decide +kernel), (by decide +kernel), (by decide +kernel), (by decide +kernel)⟩, List.forall_mem_cons.mpr ⟨⟨wgm 633 (by decide +kernel) (by decide +kernel), wgm 465 (by decide +kernel) (by decide +kernel), wgm 466 (by decide +kernel) (by decide +kernel), (by decide +kernel), (by decide +kernel), (by decide +kernel), (by decide +kernel), (by decide +kernel)⟩, List.forall_mem_cons.mpr ⟨⟨wgm 634 (by decide +kernel) (by decide +kernel), wgm 635 (by decide +kernel) (by decide +kernel), wgm 636 (by decide +kernel) (by decide +kernel), (by decide +kernel), (by decide +kernel), (by decide +kernel), (by decide +kernel), (by decide +kernel)⟩, List.forall_mem_cons.mpr ⟨⟨wgm 638 (by decide +kernel) (by decide +kernel), wgm 639 (by decide +kernel) (by decide +kernel), (by decide +kernel)⟩, List.forall_mem_cons.mpr ⟨⟨wgm 641 (by decide +kernel) (by decide +kernel), wgm 642 (by decide +kernel) (by decide +kernel), wgm 643 (by decide +kernel) (by decide +kernel), (by decide +kernel), (by decide +kernel), (by decide +kernel), (by decide +kernel), (by decide +kernel)⟩, List.forall_mem_cons.mpr ⟨⟨wgm 645 (by decide +kernel) (by decide +kernel), wgm 646 (by decide +kernel) (by decide +kernel), (by decide +kernel)⟩, List.forall_mem_cons.mpr ⟨⟨wgm 649 (by decide +kernel) (by decide +kernel), wgm 650 (by decide +kernel) (by decide +kernel), (by decide +kernel)⟩, List.forall_mem_cons.mpr ⟨⟨wgm 652 (by decide +kernel) (by decide +kernel), wgm 653 (by decide +kernel) (by decide +kernel), wgm 654 (by decide +kernel) (by decide +kernel), (by decide +kernel), (by decide +kernel), (by decide +kernel), (by decide +kernel), (by decide +kernel)⟩, List.forall_mem_cons.mpr ⟨⟨wgm 656 (by decide +kernel) (by decide +kernel), wgm 657 (by decide +kernel) (by decide +kernel), (by decide +kernel)⟩, List.forall_mem_cons.mpr ⟨⟨wgm 661 (by decide +kernel) (by decide +kernel), wgm 341 (by decide +kernel) (by decide +kernel), wgm 342 (by decide +kernel) (by decide +kernel), (by decide +kernel), (by decide +kernel), (by decide +kernel), (by decide +kernel), (by decide +kernel)⟩, List.forall_mem_cons.mpr ⟨⟨wgm 663 (by decide +kernel) (by decide +kernel), wgm 664 (by decide +kernel) (by decide +kernel), wgm 665 (by decide +kernel) (by decide +kernel), (by decide +kernel), (by decide +kernel), (by decide +kernel), (by decide +kernel), (by decide +kernel)⟩, List.forall_mem_cons.mpr ⟨⟨wgm 667 (by decide +kernel) (by decide +kernel), wgm 357 (by decide +kernel) (by decide +kernel), wgm 358 (by decide +kernel) (by decide +kernel), (by decide +kernel), (by decide +kernel), (by decide +kernel), (by decide +kernel), (by decide +kernel)⟩, List.forall_mem_cons.mpr ⟨⟨wgm 668 (by decide +kernel) (by decide +kernel), wgm 669 (by decide +kernel) (by decide +kernel), (by decide +kernel)⟩, List.forall_mem_cons.mpr ⟨⟨wgm 671 (by decide +kernel) (by decide +kernel), wgm 672 (by decide +kernel) (by decide +kernel), wgm 673 (by decide +kernel) (by decide +kernel), (by decide +kernel), (by decide +kernel), (by decide +kernel), (by decide +kernel), (by decide +kernel)⟩, List.forall_mem_cons.mpr ⟨⟨wgm 676 (by decide +kernel) (by decide +kernel), wgm 677 (by decide +kernel) (by decide +kernel), (by decide +kernel)⟩, List.forall_mem_cons.mpr ⟨⟨wgm 679 (by decide +kernel) (by decide +kernel), wgm 680 (by decide +kernel) (by decide +kernel), wgm 681 (by decide +kernel) (by decide +kernel), (by decide +kernel), (by decide +kernel), (by decide +kernel), (by decide +kernel), (by decide +kernel)⟩, List.forall_mem_cons.mpr ⟨⟨wgm 683 (by decide +kernel) (by decide +kernel), wgm 685 (by decide +kernel) (by decide +kernel), wgp 12 (by decide +kernel) (by decide +kernel), (by decide +kernel), (by decide +kernel), (by decide +kernel), (by decide +kernel), (by decide +kernel)⟩, List.forall_mem_cons.mpr ⟨⟨wgm 687 (by decide +kernel) (by decide +kernel), wgm 403 (by decide +kernel) (by decide +kernel), wgm 404 (by decide +kernel) (by decide +kernel), (by decide +kernel), (by decide +kernel), (by decide +kernel), (by decide +kernel), (by decide +kernel)⟩, List.forall_mem_cons.mpr ⟨⟨wgm 690 (by decide +kernel) (by decide +kernel), wgm 691 (by decide +kernel) (by decide +kernel), (by decide +kernel)⟩, List.forall_mem_cons.mpr ⟨⟨wgm 693 (by decide +kernel) (by decide +kernel), wgm 694 (by decide +kernel) (by decide +kernel), wgm 695 (by decide +kernel) (by decide +kernel), (by decide +kernel), (by decide +kernel), (by decide +kernel), (by decide +kernel), (by decide +kernel)⟩, List.forall_mem_cons.mpr ⟨⟨wgm 697 (by decide +kernel) (by decide +kernel), wgm 698 (by decide +kernel) (by decide +kernel), (by decide +kernel)⟩, List.forall_mem_cons.mpr ⟨⟨wgm 700 (by decide +kernel) (by decide +kernel), wgm 701 (by decide +kernel) (by decide +kernel), wgm 702 (by decide +kernel) (by decide +kernel), (by decide +kernel), (by decide +kernel), (by decide +kernel), (by decide +kernel), (by decide +kernel)⟩, List.forall_mem_cons.mpr ⟨⟨wgm 704 (by decide +kernel) (by decide +kernel), wgm 705 (by decide +kernel) (by decide +kernel), wgm 706 (by decide +kernel) (by decide +kernel), (by decide +kernel), (by decide +kernel), (by decide +kernel), (by decide +kernel), (by decide +kernel)⟩, List.forall_mem_cons.mpr ⟨⟨wgm 708 (by decide +kernel) (by decide +kernel), wgm 709 (by decide +kernel) (by decide +kernel), (by decide +kernel)⟩, List.forall_mem_cons.mpr ⟨⟨wgm 711 (by decide +kernel) (by decide +kernel), wgm 354 (by decide +kernel) (by decide +kernel), (by decide +kernel)⟩, List.forall_mem_cons.mpr ⟨⟨wgm 712 (by decide +kernel) (by decide +kernel), wgm 713 (by decide +kernel) (by decide +kernel), (by decide +kernel)⟩, List.forall_mem_cons.mpr ⟨⟨wgm 715 (by decide +kernel) (by decide +kernel), wgm 716 (by decide +kernel) (by decide +kernel), wgm 717 (by decide +kernel) (by decide +kernel), (by decide +kernel), (by decide +kernel), (by decide +kernel), (by decide +kernel), (by decide +kernel)⟩, List.forall_mem_cons.mpr ⟨⟨wgm 719 (by decide +kernel) (by decide +kernel), wgm 720 (by decide +kernel) (by decide +kernel), wgm 721 (by decide +kernel) (by decide +kernel), (by decide +kernel), (by decide +kernel), (by decide +kernel), (by decide +kernel), (by decide +kernel)⟩, List.forall_mem_cons.mpr ⟨⟨wgm 723 (by decide +kernel) (by decide +kernel), wgm 724 (by decide +kernel) (by decide +kernel), (by decide +kernel)⟩, List.forall_mem_cons.mpr ⟨⟨wgm 726 (by decide +kernel) (by decide +kernel), wgm 727 (by decide +kernel) (by decide +kernel), (by decide +kernel)⟩, List.forall_mem_cons.mpr ⟨⟨wgm 729 (by decide +kernel) (by decide +kernel), wgm 730 (by decide +kernel) (by decide +kernel), wgm 731 (by decide +kernel) (by decide +kernel), (by decide +kernel), (by decide +kernel), (by decide +kernel), (by decide +kernel), (by decide +kernel)⟩, List.forall_mem_cons.mpr ⟨⟨wgm 733 (by decide +kernel) (by decide +kernel), wgm 411 (by decide +kernel) (by decide +kernel), wgm 412 (by decide +kernel) (by decide +kernel), (by decide +kernel), (by decide +kernel), (by decide +kernel), (by decide +kernel), (by decide +kernel)⟩, List.forall_mem_cons.mpr ⟨⟨wgm 735 (by decide +kernel) (by decide +kernel), wgm 425 (by decide +kernel) (by decide +kernel), wgm 426 (by decide +kernel) (by decide +kernel), (by decide +kernel), (by decide +kernel), (by decide +kernel), (by decide +kernel), (by decide +kernel)⟩, List.forall_mem_cons.mpr ⟨⟨wgm 736 (by decide +kernel) (by decide +kernel), wgm 737 (by decide +kernel) (by decide +kernel), (by decide +kernel)⟩, List.forall_mem_cons.mpr ⟨⟨wgm 739 (by decide +kernel) (by decide +kernel), wgm 740 (by decide +kernel) (by decide +kernel), wgm 741 (by decide +kernel) (by decide +kernel), (by decide +kernel), (by decide +kernel), (by decide +kernel), (by decide +kernel), (by decide +kernel)⟩, List.forall_mem_cons.mpr ⟨⟨wgm 743 (by decide +kernel) (by decide +kernel), wgm 433 (by decide +kernel) (by decide +kernel), wgm 434 (by decide +kernel) (by decide +kernel), (by decide +kernel), (by decide +kernel), (by decide +kernel), (by decide +kernel), (by decide +kernel)⟩, List.forall_mem_cons.mpr ⟨⟨wgm 745 (by decide +kernel) (by decide +kernel), wgm 442 (by decide +kernel) (by decide +kernel), wgm 443 (by decide +kernel) (by decide +kernel), (by decide +kernel), (by decide +kernel), (by decide +kernel), (by decide +kernel), (by decide +kernel)⟩, List.forall_mem_cons.mpr ⟨⟨wgm 746 (by decide +kernel) (by decide +kernel), wgm 747 (by decide +kernel) (by decide +kernel), (by decide +kernel)⟩, List.forall_mem_cons.mpr ⟨⟨wgm 749 (by decide +kernel) (by decide +kernel), wgm 750 (by decide +kernel) (by decide +kernel), wgm 751 (by decide +kernel) (by decide +kernel), (by decide +kernel), (by decide +kernel), (by decide +kernel), (by decide +kernel), (by decide +kernel)⟩, List.forall_mem_cons.mpr ⟨⟨wgm 753 (by decide +kernel) (by decide +kernel), wgm 755 (by decide +kernel) (by decide +kernel), wgp 13 (by decide +kernel) (by decide +kernel), (by decide +kernel), (by decide +kernel), (by decide +kernel), (by decide +kernel), (by decide +kernel)⟩, List.forall_mem_cons.mpr ⟨⟨wgm 758 (by decide +kernel) (by decide +kernel), wgm 759 (by decide +kernel) (by decide +kernel), wgm 760 (by decide +kernel) (by decide +kernel), (by decide +kernel), (by decide +kernel), (by decide +kernel), (by decide +kernel), (by decide +kernel)⟩, List.forall_mem_cons.mpr ⟨⟨wgm 762 (by decide +kernel) (by decide +kernel), wgm 310 (by decide +kernel) (by decide +kernel), wgm 311 (by decide +kernel) (by decide +kernel), (by decide +kernel), (by decide +kernel), (by decide +kernel), (by decide +kernel), (by decide +kernel)⟩, List.forall_mem_cons.mpr ⟨⟨wgm 763 (by decide +kernel) (by decide +kernel), wgm 705 (by decide +kernel) (by decide +kernel), wgm 706 (by decide +kernel) (by decide +kernel), (by decide +kernel), (by decide +kernel), (by decide +kernel), (by decide +kernel), (by decide +kernel)⟩, List.forall_mem_cons.mpr ⟨⟨wgm 764 (by decide +kernel) (by decide +kernel), wgm 720 (by decide +kernel) (by decide +kernel), wgm 721 (by decide +kernel) (by decide +kernel), (by decide +kernel), (by decide +kernel), (by decide +kernel), (by decide +kernel), (by decide +kernel)⟩, List.forall_mem_cons.mpr ⟨⟨wgm 765 (by decide +kernel) (by decide +kernel), wgm 766 (by decide +kernel) (by decide +kernel), (by decide +kernel)⟩, List.forall_mem_cons.mpr ⟨⟨wgm 768 (by decide +kernel) (by decide +kernel), wgm 326 (by decide +kernel) (by decide +kernel), (by decide +kernel)⟩, List.forall_mem_cons.mpr ⟨⟨wgm 769 (by decide +kernel) (by decide +kernel), wgm 771 (by decide +kernel) (by decide +kernel), wgp 14 (by decide +kernel) (by decide +kernel), (by decide +kernel), (by decide +kernel), (by decide +kernel), (by decide +kernel), (by decide +kernel)⟩, List.forall_mem_cons.mpr ⟨⟨wgm 773 (by decide +kernel) (by decide +kernel), wgm 318 (by decide +kernel) (by decide +kernel), wgm 319 (by decide +kernel) (by decide +kernel), (by decide +kernel), (by decide +kernel), (by decide +kernel), (by decide +kernel), (by decide +kernel)⟩, List.forall_mem_cons.mpr ⟨⟨wgm 774 (by decide +kernel) (by decide +kernel), wgm 341 (by decide +kernel) (by decide +kernel), wgm 342 (by decide +kernel) (by decide +kernel), (by decide +kernel), (by decide +kernel), (by decide +kernel), (by decide +kernel), (by decide +kernel)⟩, List.forall_mem_cons.mpr ⟨⟨wgm 775 (by decide +kernel) (by decide +kernel), wgm 776 (by decide +kernel) (by decide +kernel), wgm 777 (by decide +kernel) (by decide +kernel), (by decide +kernel), (by decide +kernel), (by decide +kernel), (by decide +kernel), (by decide +kernel)⟩, List.forall_mem_cons.mpr ⟨⟨wgm 779 (by decide +kernel) (by decide +kernel), wgm 781 (by decide +kernel) (by decide +kernel), wgp 15 (by decide +kernel) (by decide +kernel), (by decide +kernel), (by decide +kernel), (by decide +kernel), (by decide +kernel), (by decide +kernel)⟩, List.forall_mem_cons.mpr ⟨⟨wgm 783 (by decide +kernel) (by decide +kernel), wgm 784 (by decide +kernel) (by decide +kernel), (by decide +kernel)⟩, List.forall_mem_cons.mpr ⟨⟨wgm 786 (by decide +kernel) (by decide +kernel), wgm 787 (by decide +kernel) (by decide +kernel), wgm 788 (by decide +kernel) (by decide +kernel), (by decide +kernel), (by decide +kernel), (by decide +kernel), (by decide +kernel), (by decide +kernel)⟩, List.forall_mem_cons.mpr ⟨⟨wgm 791 (by decide +kernel) (by decide +kernel), wgm 792 (by decide +kernel) (by decide +kernel), wgm 793 (by decide +kernel) (by decide +kernel), (by decide +kernel), (by decide +kernel), (by decide +kernel), (by decide +kernel), (by decide +kernel)⟩, List.forall_mem_cons.mpr ⟨⟨wgm 795 (by decide +kernel) (by decide +kernel), wgm 796 (by decide +kernel) (by decide +kernel), wgm 797 (by decide +kernel) (by decide +kernel), (by decide +kernel), (by decide +kernel), (by decide +kernel), (by decide +kernel), (by decide +kernel)⟩, List.forall_mem_cons.mpr ⟨⟨wgm 799 (by decide +kernel) (by decide +kernel), wgm 759 (by decide +kernel) (by decide +kernel), wgm 760 (by decide +kernel) (by decide +kernel), (by decide +kernel), (by decide +kernel), (by decide +kernel), (by decide +kernel), (by decide +kernel)⟩, List.forall_mem_cons.mpr ⟨⟨wgm 801 (by decide +kernel) (by decide +kernel), wgm 802 (by decide +kernel) (by decide +kernel), wgm 803 (by decide +kernel) (by decide +kernel), (by decide +kernel), (by decide +kernel), (by decide +kernel), (by decide +kernel), (by decide +kernel)⟩, List.forall_mem_cons.mpr ⟨⟨wgm 805 (by decide +kernel) (by decide +kernel), wgm 806 (by decide +kernel) (by decide +kernel), wgm 807 (by decide +kernel) (by decide +kernel), (by decide +kernel), (by decide +kernel), (by decide +kernel), (by decide +kernel), (by decide +kernel)⟩, List.forall_mem_cons.mpr ⟨⟨wgm 809 (by decide +kernel) (by decide +kernel), wgm 811 (by decide +kernel) (by decide +kernel), wgp 16 (by decide +kernel) (by decide +kernel), (by decide +kernel), (by decide +kernel), (by decide +kernel), (by decide +kernel), (by decide +kernel)⟩, List.forall_mem_cons.mpr ⟨⟨wgm 813 (by decide +kernel) (by decide +kernel), wgm 368 (by decide +kernel) (by decide +kernel), (by decide +kernel)⟩, List.forall_mem_cons.mpr ⟨⟨wgm 814 (by decide +kernel) (by decide +kernel), wgm 354 (by decide +kernel) (by decide +kernel), (by decide +kernel)⟩, List.forall_mem_cons.mpr ⟨⟨wgm 815 (by decide +kernel) (by decide +kernel), wgm 816 (by decide +kernel) (by decide +kernel), wgm 817 (by decide +kernel) (by decide +kernel), (by decide +kernel), (by decide +kernel), (by decide +kernel), (by decide +kernel), (by decide +kernel)⟩, List.forall_mem_cons.mpr ⟨⟨wgm 819 (by decide +kernel) (by decide +kernel), wgm 403 (by decide +kernel) (by decide +kernel), wgm 404 (by decide +kernel) (by decide +kernel), (by decide +kernel), (by decide +kernel), (by decide +kernel), (by decide +kernel), (by decide +kernel)⟩, List.forall_mem_cons.mpr ⟨⟨wgm 820 (by decide +kernel) (by decide +kernel), wgm 821 (by decide +kernel) (by decide +kernel), (by decide +kernel)⟩, List.forall_mem_cons.mpr ⟨⟨wgm 823 (by decide +kernel) (by decide +kernel), wgm 824 (by decide +kernel) (by decide +kernel), wgm 825 (by decide +kernel) (by decide +kernel), (by decide +kernel), (by decide +kernel), (by decide +kernel), (by decide +kernel), (by decide +kernel)⟩, List.forall_mem_cons.mpr ⟨⟨wgm 827 (by decide +kernel) (by decide +kernel), wgm 828 (by decide +kernel) (by decide +kernel), wgm 829 (by decide +kernel) (by decide +kernel), (by decide +kernel), (by decide +kernel), (by decide +kernel), (by decide +kernel), (by decide +kernel)⟩, List.forall_mem_cons.mpr ⟨⟨wgm 831 (by decide +kernel) (by decide +kernel), wgm 310 (by decide +kernel) (by decide +kernel), wgm 311 (by decide +kernel) (by decide +kernel), (by decide +kernel), (by decide +kernel), (by decide +kernel), (by decide +kernel), (by decide +kernel)⟩, List.forall_mem_cons.mpr ⟨⟨wgm 832 (by decide +kernel) (by decide +kernel), wgm 314 (by decide +kernel) (by decide +kernel), wgm 315 (by decide +kernel) (by decide +kernel), (by decide +kernel), (by decide +kernel), (by decide +kernel), (by decide +kernel), (by decide +kernel)⟩, List.forall_mem_cons.mpr ⟨⟨wgm 833 (by decide +kernel) (by decide +kernel), wgm 705 (by decide +kernel) (by decide +kernel), wgm 706 (by decide +kernel) (by decide +kernel), (by decide +kernel), (by decide +kernel), (by decide +kernel), (by decide +kernel), (by decide +kernel)⟩, List.forall_mem_cons.mpr ⟨⟨wgm 835 (by decide +kernel) (by decide +kernel), wgm 836 (by decide +kernel) (by decide +kernel), wgm 837 (by decide +kernel) (by decide +kernel), (by decide +kernel), (by decide +kernel), (by decide +kernel), (by decide +kernel), (by decide +kernel)⟩, List.forall_mem_cons.mpr ⟨⟨wgm 839 (by decide +kernel) (by decide +kernel), wgm 314 (by decide +kernel) (by decide +kernel), wgm 315 (by decide +kernel) (by decide +kernel), (by decide +kernel), (by decide +kernel), (by decide +kernel), (by decide +kernel), (by decide +kernel)⟩, List.forall_mem_cons.mpr ⟨⟨wgm 840 (by decide +kernel) (by decide +kernel), wgm 841 (by decide +kernel) (by decide +kernel), (by decide +kernel)⟩, List.forall_mem_cons.mpr ⟨⟨wgm 843 (by decide +kernel) (by decide +kernel), wgm 844 (by decide +kernel) (by decide +kernel), wgm 845 (by decide +kernel) (by decide +kernel), (by decide +kernel), (by decide +kernel), (by decide +kernel), (by decide +kernel), (by decide +kernel)⟩, List.forall_mem_cons.mpr ⟨⟨wgm 848 (by decide +kernel) (by decide +kernel), wgm 816 (by decide +kernel) (by decide +kernel), wgm 817 (by decide +kernel) (by decide +kernel), (by decide +kernel), (by decide +kernel), (by decide +kernel), (by decide +kernel), (by decide +kernel)⟩, List.forall_mem_cons.mpr ⟨⟨wgm 849 (by decide +kernel) (by decide +kernel), wgm 850 (by decide +kernel) (by decide +kernel), (by decide +kernel)⟩, List.forall_mem_cons.mpr ⟨⟨wgm 852 (by decide +kernel) (by decide +kernel), wgm 853 (by decide +kernel) (by decide +kernel), wgm 854 (by decide +kernel) (by decide +kernel), (by decide +kernel), (by decide +kernel), (by decide +kernel), (by decide +kernel), (by decide +kernel)⟩, List.forall_mem_cons.mpr ⟨⟨wgm 857 (by decide +kernel) (by decide +kernel), wgm 858 (by decide +kernel) (by decide +kernel), wgm 859 (by decide +kernel) (by decide +kernel), (by decide +kernel), (by decide +kernel), (by decide +kernel), (by decide +kernel), (by decide +kernel)⟩, List.forall_mem_cons.mpr ⟨⟨wgm 861 (by decide +kernel) (by decide +kernel), wgm 354 (by decide +kernel) (by decide +kernel), (by decide +kernel)⟩, List.forall_mem_cons.mpr ⟨⟨wgm 862 (by decide +kernel) (by decide +kernel), wgm 864 (by decide +kernel) (by decide +kernel), wgp 17 (by decide +kernel) (by decide +kernel), (by decide +kernel), (by decide +kernel), (by decide +kernel), (by decide +kernel), (by decide +kernel)⟩, List.forall_mem_cons.mpr ⟨⟨wgm 866 (by decide +kernel) (by decide +kernel), wgm 368 (by decide +kernel) (by decide +kernel), (by decide +kernel)⟩, List.forall_mem_cons.mpr ⟨⟨wgm 867 (by decide +kernel) (by decide +kernel), wgm 816 (by decide +kernel) (by decide +kernel), wgm 817 (by decide +kernel) (by decide +kernel), (by decide +kernel), (by decide +kernel), (by decide +kernel), (by decide +kernel), (by decide +kernel)⟩, List.forall_mem_cons.mpr ⟨⟨wgm 868 (by decide +kernel) (by decide +kernel), wgm 869 (by decide +kernel) (by decide +kernel), (by decide +kernel)⟩, List.forall_mem_cons.mpr ⟨⟨wgm 871 (by decide +kernel) (by decide +kernel), wgm 872 (by decide +kernel) (by decide +kernel), wgm 873 (by decide +kernel) (by decide +kernel), (by decide +kernel), (by decide +kernel), (by decide +kernel), (by decide +kernel), (by decide +kernel)⟩, List.forall_mem_cons.mpr ⟨⟨wgm 875 (by decide +kernel) (by decide +kernel), wgm 876 (by decide +kernel) (by decide +kernel), (by decide +kernel)⟩, List.forall_mem_cons.mpr ⟨⟨wgm 878 (by decide +kernel) (by decide +kernel), wgm 879 (by decide +kernel) (by decide +kernel), wgm 880 (by decide +kernel) (by decide +kernel), (by decide +kernel), (by decide +kernel), (by decide +kernel), (by decide +kernel), (by decide +kernel)⟩, List.forall_mem_cons.mpr ⟨⟨wgm 882 (by decide +kernel) (by decide +kernel), wgm 883 (by decide +kernel) (by decide +kernel), wgm 884 (by decide +kernel) (by decide +kernel), (by decide +kernel), (by decide +kernel), (by decide +kernel), (by decide +kernel), (by decide +kernel)⟩, List.forall_mem_cons.mpr ⟨⟨wgm 886 (by decide +kernel) (by decide +kernel), wgm 887 (by decide +kernel) (by decide +kernel), (by decide +kernel)⟩, List.forall_mem_cons.mpr ⟨⟨wgm 889 (by decide +kernel) (by decide +kernel), wgm 890 (by decide +kernel) (by decide +kernel), wgm 891 (by decide +kernel) (by decide +kernel), (by decide +kernel), (by decide +kernel), (by decide +kernel), (by decide +kernel), (by decide +kernel)⟩, List.forall_mem_cons.mpr ⟨⟨wgm 893 (by decide +kernel) (by decide +kernel), wgm 894 (by decide +kernel) (by decide +kernel), wgm 895 (by decide +kernel) (by decide +kernel), (by decide +kernel), (by decide +kernel), (by decide +kernel), (by decide +kernel), (by decide +kernel)⟩, List.forall_mem_cons.mpr ⟨⟨wgm 897 (by decide +kernel) (by decide +kernel), wgm 898 (by decide +kernel) (by decide +kernel), (by decide +kernel)⟩, List.forall_mem_cons.mpr ⟨⟨wgm 900 (by decide +kernel) (by decide +kernel), wgm 901 (by decide +kernel) (by decide +kernel), wgm 902 (by decide +kernel) (by decide +kernel), (by decide +kernel), (by decide +kernel), (by decide +kernel), (by decide +kernel), (by decide +kernel)⟩, List.forall_mem_cons.mpr ⟨⟨wgm 904 (by decide +kernel) (by decide +kernel), wgm 905 (by decide +kernel) (by decide +kernel), wgm 906 (by decide +kernel) (by decide +kernel), (by decide +kernel), (by decide +kernel), (by decide +kernel), (by decide +kernel), (by decide +kernel)⟩, List.forall_mem_cons.mpr ⟨⟨wgm 908 (by decide +kernel) (by decide +kernel), wgm 909 (by decide +kernel) (by decide +kernel), (by decide +kernel)⟩, List.forall_mem_cons.mpr ⟨⟨wgm 911 (by decide +kernel) (by decide +kernel), wgm 912 (by decide +kernel) (by decide +kernel), wgm 913 (by decide +kernel) (by decide +kernel), (by decide +kernel), (by decide +kernel), (by decide +kernel), (by decide +kernel), (by decide +kernel)⟩, List.forall_mem_cons.mpr ⟨⟨wgm 916 (by decide +kernel) (by decide +kernel), wgm 917 (by decide +kernel) (by decide +kernel), wgm 918 (by decide +kernel) (by decide +kernel), (by decide +kernel), (by decide +kernel), (by decide +kernel), (by decide +kernel), (by decide +kernel)⟩, List.forall_mem_cons.mpr ⟨⟨wgm 921 (by decide +kernel) (by decide +kernel), wgm 922 (by decide +kernel) (by decide +kernel), (by decide +kernel)⟩, List.forall_mem_cons.mpr ⟨⟨wgm 924 (by decide +kernel) (by decide +kernel), wgm 925 (by decide +kernel) (by decide +kernel), wgm 926 (by decide +kernel) (by decide +kernel), (by decide +kernel), (by decide +kernel), (by decide +kernel), (by decide +kernel), (by decide +kernel)⟩, List.forall_mem_cons.mpr ⟨⟨wgm 929 (by decide +kernel) (by decide +kernel), wgm 930 (by decide +kernel) (by decide +kernel), wgm 931 (by decide +kernel) (by decide +kernel), (by decide +kernel), (by decide +kernel), (by decide +kernel), (by decide +kernel), (by decide +kernel)⟩, List.forall_mem_cons.mpr ⟨⟨wgm 934 (by decide +kernel) (by decide +kernel), wgm 935 (by decide +kernel) (by decide +kernel), wgm 936 (by decide +kernel) (by decide +kernel), (by decide +kernel), (by decide +kernel), (by decide +kernel), (by decide +kernel), (by decide +kernel)⟩, List.forall_mem_cons.mpr ⟨⟨wgm 938 (by decide +kernel) (by decide +kernel), wgm 939 (by decide +kernel) (by decide +kernel), (by decide +kernel)⟩, List.forall_mem_cons.mpr ⟨⟨wgm 941 (by decide +kernel) (by decide +kernel), wgm 942 (by decide +kernel) (by decide +kernel), wgm 943 (by decide +kernel) (by decide +kernel), (by decide +kernel), (by decide +kernel), (by decide +kernel), (by decide +kernel), (by decide +kernel)⟩, List.forall_mem_cons.mpr ⟨⟨wgm 946 (by decide +kernel) (by decide +kernel), wgm 947 (by decide +kernel) (by decide +kernel), wgm 948 (by decide +kernel) (by decide +kernel), (by decide +kernel), (by decide +kernel), (by decide +kernel), (by decide +kernel), (by decide +kernel)⟩, List.forall_mem_cons.mpr ⟨⟨wgm 952 (by decide +kernel) (by decide +kernel), wgm 953 (by decide +kernel) (by decide +kernel), (by decide +kernel), (by decide +kernel), (by decide +kernel), (by decide +kernel), (by decide +kernel)⟩, List.forall_mem_cons.mpr ⟨wgm 955 (by decide +kernel) (by decide +kernel), List.forall_mem_cons.mpr ⟨⟨wgm 956 (by decide +kernel) (by decide +kernel), wgm 958 (by decide +kernel) (by decide +kernel), wgp 18 (by decide +kernel) (by decide +kernel), (by decide +kernel), (by decide +kernel), (by decide +kernel), (by decide +kernel), (by decide +kernel)⟩, List.forall_mem_cons.mpr ⟨⟨wgm 994 (by decide +kernel) (by decide +kernel), wgm 995 (by decide +kernel) (by decide +kernel), wgm 996 (by decide +kernel) (by decide +kernel), (by decide +kernel), (by decide +kernel), (by decide +kernel), (by decide +kernel), (by decide +kernel)⟩, List.forall_mem_cons.mpr ⟨⟨wgm 998 (by decide +kernel) (by decide +kernel), wgm 999 (by decide +kernel) (by decide +kernel), wgm 1000 (by decide +kernel) (by decide +kernel), (by decide +kernel), (by decide +kernel), (by decide +kernel), (by decide +kernel), (by decide +kernel)⟩, List.forall_mem_cons.mpr ⟨⟨wgm 1002 (by decide +kernel) (by decide +kernel), wgm 1003 (by decide +kernel) (by decide +kernel), (by decide +kernel)⟩, List.forall_mem_cons.mpr ⟨⟨wgm 1005 (by decide +kernel) (by decide +kernel), wgm 1007 (by decide +kernel) (by decide +kernel), wgp 19 (by decide +kernel) (by decide +kernel), (by decide +kernel), (by decide +kernel), (by decide +kernel), (by decide +kernel), (by decide +kernel)⟩, List.forall_mem_cons.mpr ⟨⟨wgm 1009 (by decide +kernel) (by decide +kernel), wgm 1010 (by decide +kernel) (by decide +kernel), wgm 1011 (by decide +kernel) (by decide +kernel), (by decide +kernel), (by decide +kernel), (by decide +kernel), (by decide +kernel), (by decide +kernel)⟩, List.forall_mem_cons.mpr ⟨⟨wgm 1013 (by decide +kernel) (by decide +kernel), wgm 1015 (by decide +kernel) (by decide +kernel), wgp 20 (by decide +kernel) (by decide +kernel), (by decide +kernel), (by decide +kernel), (by decide +kernel), (by decide +kernel), (by decide +kernel)⟩, List.forall_mem_cons.mpr ⟨⟨wgm 1017 (by decide +kernel) (by decide +kernel), wgm 1019 (by decide +kernel) (by decide +kernel), wgp 21 (by decide +kernel) (by decide +kernel), (by decide +kernel), (by decide +kernel), (by decide +kernel), (by decide +kernel), (by decide +kernel)⟩, List.forall_mem_cons.mpr ⟨⟨wgm 1021 (by decide +kernel) (by decide +kernel), wgm 1023 (by decide +kernel) (by decide +kernel), wgp 22 (by decide +kernel) (by decide +kernel), (by decide +kernel), (by decide +kernel), (by decide +kernel), (by decide +kernel), (by decide +kernel)⟩, List.forall_mem_cons.mpr ⟨⟨wgm 1025 (by decide +kernel) (by decide +kernel), wgm 1027 (by decide +kernel) (by decide +kernel), wgp 23 (by decide +kernel) (by decide +kernel), (by decide +kernel), (by decide +kernel), (by decide +kernel), (by decide +kernel), (by decide +kernel)⟩, List.forall_mem_cons.mpr ⟨⟨wgm 1029 (by decide +kernel) (by decide +kernel), wgm 1031 (by decide +kernel) (by decide +kernel), wgp 24 (by decide +kernel) (by decide +kernel), (by decide +kernel), (by decide +kernel), (by decide +kernel), (by decide +kernel), (by decide +kernel)⟩, List.forall_mem_cons.mpr ⟨⟨wgm 1033 (by decide +kernel) (by decide +kernel), wgm 1034 (by decide +kernel) (by decide +kernel), wgm 1035 (by decide +kernel) (by decide +kernel), (by decide +kernel), (by decide +kernel), (by decide +kernel), (by decide +kernel), (by decide +kernel)⟩, List.forall_mem_cons.mpr ⟨⟨wgm 1037 (by decide +kernel) (by decide +kernel), wgm 1038 (by decide +kernel) (by decide +kernel), wgm 1039 (by decide +kernel) (by decide +kernel), (by decide +kernel), (by decide +kernel), (by decide +kernel), (by decide +kernel), (by decide +kernel)⟩, List.forall_mem_cons.mpr ⟨⟨wgm 1041 (by decide +kernel) (by decide +kernel), wgm 1043 (by decide +kernel) (by decide +kernel), wgp 25 (by decide +kernel) (by decide +kernel), (by decide +kernel), (by decide +kernel), (by decide +kernel), (by decide +kernel), (by decide +kernel)⟩, List.forall_mem_cons.mpr ⟨⟨wgm 1045 (by decide +kernel) (by decide +kernel), wgm 1047 (by decide +kernel) (by decide +kernel), wgp 26 (by decide +kernel) (by decide +kernel), (by decide +kernel), (by decide +kernel), (by decide +kernel), (by decide +kernel), (by decide +kernel)⟩, List.forall_mem_cons.mpr ⟨⟨wgm 1049 (by decide +kernel) (by decide +kernel), wgm 1051 (by decide +kernel) (by decide +kernel), wgp 27 (by decide +kernel) (by decide +kernel), (by decide +kernel), (by decide +kernel), (by decide +kernel), (by decide +kernel), (by decide +kernel)⟩, List.forall_mem_cons.mpr ⟨⟨wgm 1053 (by decide +kernel) (by decide +kernel), wgm 1055 (by decide +kernel) (by decide +kernel), wgp 28 (by decide +kernel) (by decide +kernel), (by decide +kernel), (by decide +kernel), (by decide +kernel), (by decide +kernel), (by decide +kernel)⟩, List.forall_mem_cons.mpr ⟨⟨wgm 1057 (by decide +kernel) (by decide +kernel), wgm 1059 (by decide +kernel) (by decide +kernel), wgp 29 (by decide +kernel) (by decide +kernel), (by decide +kernel), (by decide +kernel), (by decide +kernel), (by decide +kernel), (by decide +kernel)⟩, List.forall_mem_cons.mpr ⟨⟨wgm 1061 (by decide +kernel) (by decide +kernel), wgm 1063 (by decide +kernel) (by decide +kernel), wgp 30 (by decide +kernel) (by decide +kernel), (by decide +kernel), (by decide +kernel), (by decide +kernel), (by decide +kernel), (by decide +kernel)⟩, List.forall_mem_cons.mpr ⟨⟨wgm 1065 (by decide +kernel) (by decide +kernel), wgm 1067 (by decide +kernel) (by decide +kernel), wgp 31 (by decide +kernel) (by decide +kernel), (by decide +kernel), (by decide +kernel), (by decide +kernel), (by decide +kernel), (by decide +kernel)⟩, List.forall_mem_cons.mpr ⟨⟨wgm 1069 (by decide +kernel) (by decide +kernel), wgm 1070 (by decide +kernel) (by decide +kernel), (by decide +kernel)⟩, List.forall_mem_cons.mpr ⟨⟨wgm 1072 (by decide +kernel) (by decide +kernel), wgm 1073 (by decide +kernel) (by decide +kernel), wgm 1074 (by decide +kernel) (by decide +kernel), (by decide +kernel), (by decide +kernel), (by decide +kernel), (by decide +kernel), (by decide +kernel)⟩, List.forall_mem_cons.mpr ⟨⟨wgm 1076 (by decide +kernel) (by decide +kernel), wgm 1078 (by decide +kernel) (by decide +kernel), wgp 32 (by decide +kernel) (by decide +kernel), (by decide +kernel), (by decide +kernel), (by decide +kernel), (by decide +kernel), (by decide +kernel)⟩, List.forall_mem_cons.mpr ⟨⟨wgm 1080 (by decide +kernel) (by decide +kernel), wgm 1082 (by decide +kernel) (by decide +kernel), wgp 33 (by decide +kernel) (by decide +kernel), (by decide +kernel), (by decide +kernel), (by decide +kernel), (by decide +kernel), (by decide +kernel)⟩, List.forall_mem_cons.mpr ⟨⟨wgm 1084 (by decide +kernel) (by decide +kernel), wgm 1086 (by decide +kernel) (by decide +kernel), wgp 34 (by decide +kernel) (by decide +kernel), (by decide +kernel), (by decide +kernel), (by decide +kernel), (by decide +kernel), (by decide +kernel)⟩, List.forall_mem_cons.mpr ⟨⟨wgm 1088 (by decide +kernel) (by decide +kernel), wgm 1089 (by decide +kernel) (by decide +kernel), wgm 1090 (by decide +kernel) (by decide +kernel), (by decide +kernel), (by decide +kernel), (by decide +kernel), (by decide +kernel), (by decide +kernel)⟩, List.forall_mem_cons.mpr ⟨⟨wgm 1092 (by decide +kernel) (by decide +kernel), wgm 1094 (by decide +kernel) (by decide +kernel), wgp 35 (by decide +kernel) (by decide +kernel), (by decide +kernel), (by decide +kernel), (by decide +kernel), (by decide +kernel), (by decide +kernel)⟩, List.forall_mem_cons.mpr ⟨⟨wgm 1096 (by decide +kernel) (by decide +kernel), wgm 1098 (by decide +kernel) (by decide +kernel), wgp 36 (by decide +kernel) (by decide +kernel), (by decide +kernel), (by decide +kernel), (by decide +kernel), (by decide +kernel), (by decide +kernel)⟩, List.forall_mem_cons.mpr ⟨⟨wgm 1100 (by decide +kernel) (by decide +kernel), wgm 1101 (by decide +kernel) (by decide +kernel), wgm 1102 (by decide +kernel) (by decide +kernel), (by decide +kernel), (by decide +kernel), (by decide +kernel), (by decide +kernel), (by decide +kernel)⟩, List.forall_mem_cons.mpr ⟨⟨wgm 1104 (by decide +kernel) (by decide +kernel), wgm 1105 (by decide +kernel) (by decide +kernel), wgm 1106 (by decide +kernel) (by decide +kernel), (by decide +kernel), (by decide +kernel), (by decide +kernel), (by decide +kernel), (by decide +kernel)⟩, List.forall_mem_cons.mpr ⟨⟨wgm 1108 (by decide +kernel) (by decide +kernel), wgm 1110 (by decide +kernel) (by decide +kernel), wgp 37 (by decide +kernel) (by decide +kernel), (by decide +kernel), (by decide +kernel), (by decide +kernel), (by decide +kernel), (by decide +kernel)⟩, List.forall_mem_cons.mpr ⟨⟨wgm 1112 (by decide +kernel) (by decide +kernel), wgm 1114 (by decide +kernel) (by decide +kernel), wgp 38 (by decide +kernel) (by decide +kernel), (by decide +kernel), (by decide +kernel), (by decide +kernel), (by decide +kernel), (by decide +kernel)⟩, List.forall_mem_cons.mpr ⟨⟨wgm 1116 (by decide +kernel) (by decide +kernel), wgm 1117 (by decide +kernel) (by decide +kernel), (by decide +kernel)⟩, List.forall_mem_cons.mpr ⟨⟨wgm 1119 (by decide +kernel) (by decide +kernel), wgm 1121 (by decide +kernel) (by decide +kernel), wgp 39 (by decide +kernel) (by decide +kernel), (by decide +kernel), (by decide +kernel), (by decide +kernel), (by decide +kernel), (by decide +kernel)⟩, List.forall_mem_cons.mpr ⟨⟨wgm 1123 (by decide +kernel) (by decide +kernel), wgm 1124 (by decide +kernel) (by decide +kernel), wgm 1125 (by decide +kernel) (by decide +kernel), (by decide +kernel), (by decide +kernel), (by decide +kernel), (by decide +kernel), (by decide +kernel)⟩, List.forall_mem_cons.mpr ⟨⟨wgm 1127 (by decide +kernel) (by decide +kernel), wgm 1129 (by decide +kernel) (by decide +kernel), wgp 40 (by decide +kernel) (by decide +kernel), (by decide +kernel), (by decide +kernel), (by decide +kernel), (by decide +kernel), (by decide +kernel)⟩, List.forall_mem_cons.mpr ⟨⟨wgm 1131 (by decide +kernel) (by decide +kernel), wgm 1132 (by decide +kernel) (by decide +kernel), (by decide +kernel)⟩, List.forall_mem_cons.mpr ⟨⟨wgm 1134 (by decide +kernel) (by decide +kernel), wgm 1135 (by decide +kernel) (by decide +kernel), (by decide +kernel)⟩, List.forall_mem_cons.mpr ⟨⟨wgm 1137 (by decide +kernel) (by decide +kernel), wgm 1138 (by decide +kernel) (by decide +kernel), wgm 1139 (by decide +kernel) (by decide +kernel), (by decide +kernel), (by decide +kernel), (by decide +kernel), (by decide +kernel), (by decide +kernel)⟩, List.forall_mem_cons.mpr ⟨⟨wgm 1141 (by decide +kernel) (by decide +kernel), wgm 1143 (by decide +kernel) (by decide +kernel), wgp 41 (by decide +kernel) (by decide +kernel), (by decide +kernel), (by decide +kernel), (by decide +kernel), (by decide +kernel), (by decide +kernel)⟩, List.forall_mem_cons.mpr ⟨⟨wgm 1145 (by decide +kernel) (by decide +kernel), wgm 1147 (by decide +kernel) (by decide +kernel), wgp 42 (by decide +kernel) (by decide +kernel), (by decide +kernel), (by decide +kernel), (by decide +kernel), (by decide +kernel), (by decide +kernel)⟩, List.forall_mem_cons.mpr ⟨⟨wgm 1149 (by decide +kernel) (by decide +kernel), wgm 1151 (by decide +kernel) (by decide +kernel), wgp 43 (by decide +kernel) (by decide +kernel), (by decide +kernel), (by decide +kernel), (by decide +kernel), (by decide +kernel), (by decide +kernel)⟩, List.forall_mem_cons.mpr ⟨⟨wgm 1153 (by decide +kernel) (by decide +kernel), wgm 1155 (by decide +kernel) (by decide +kernel), wgp 44 (by decide +kernel) (by decide +kernel), (by decide +kernel), (by decide +kernel), (by decide +kernel), (by decide +kernel), (by decide +kernel)⟩, List.forall_mem_cons.mpr ⟨⟨wgm 1157 (by decide +kernel) (by decide +kernel), wgm 1158 (by decide +kernel) (by decide +kernel), wgm 1159 (by decide +kernel) (by decide +kernel), (by decide +kernel), (by decide +kernel), (by decide +kernel), (by decide +kernel), (by decide +kernel)⟩, List.forall_mem_cons.mpr ⟨⟨wgm 1161 (by decide +kernel) (by decide +kernel), wgm 1163 (by decide +kernel) (by decide +kernel), wgp 45 (by decide +kernel) (by decide +kernel), (by decide +kernel), (by decide +kernel), (by decide +kernel), (by decide +kernel), (by decide +kernel)⟩, List.forall_mem_cons.mpr ⟨⟨wgm 1165 (by decide +kernel) (by decide +kernel), wgm 1166 (by decide +kernel) (by decide +kernel), (by decide +kernel)⟩, List.forall_mem_cons.mpr ⟨⟨wgm 1168 (by decide +kernel) (by decide +kernel), wgm 1170 (by decide +kernel) (by decide +kernel), wgp 46 (by decide +kernel) (by decide +kernel), (by decide +kernel), (by decide +kernel), (by decide +kernel), (by decide +kernel), (by decide +kernel)⟩, List.forall_mem_cons.mpr ⟨⟨wgm 1172 (by decide +kernel) (by decide +kernel), wgm 1173 (by decide +kernel) (by decide +kernel), wgm 1174 (by decide +kernel) (by decide +kernel), (by decide +kernel), (by decide +kernel), (by decide +kernel), (by decide +kernel), (by decide +kernel)⟩, List.forall_mem_cons.mpr ⟨⟨wgm 1176 (by decide +kernel) (by decide +kernel), wgm 1178 (by decide +kernel) (by decide +kernel), wgp 47 (by decide +kernel) (by decide +kernel), (by decide +kernel), (by decide +kernel), (by decide +kernel), (by decide +kernel), (by decide +kernel)⟩, List.forall_mem_cons.mpr ⟨⟨wgm 1180 (by decide +kernel) (by decide +kernel), wgm 1181 (by decide +kernel) (by decide +kernel), wgm 1182 (by decide +kernel) (by decide +kernel), (by decide +kernel), (by decide +kernel), (by decide +kernel), (by decide +kernel), (by decide +kernel)⟩, List.forall_mem_cons.mpr ⟨⟨wgm 1184 (by decide +kernel) (by decide +kernel), wgm 1186 (by decide +kernel) (by decide +kernel), wgp 48 (by decide +kernel) (by decide +kernel), (by decide +kernel), (by decide +kernel), (by decide +kernel), (by decide +kernel), (by decide +kernel)⟩, List.forall_mem_cons.mpr ⟨⟨wgm 1188 (by decide +kernel) (by decide +kernel), wgm 1190 (by decide +kernel) (by decide +kernel), wgp 49 (by decide +kernel) (by decide +kernel), (by decide +kernel), (by decide +kernel), (by decide +kernel), (by decide +kernel), (by decide +kernel)⟩, List.forall_mem_cons.mpr ⟨⟨wgm 1192 (by decide +kernel) (by decide +kernel), wgm 1194 (by decide +kernel) (by decide +kernel), wgp 50 (by decide +kernel) (by decide +kernel), (by decide +kernel), (by decide +kernel), (by decide +kernel), (by decide +kernel), (by decide +kernel)⟩, List.forall_mem_cons.mpr ⟨⟨wgm 1196 (by decide +kernel) (by decide +kernel), wgm 1198 (by decide +kernel) (by decide +kernel), wgp 51 (by decide +kernel) (by decide +kernel), (by decide +kernel), (by decide +kernel), (by decide +kernel), (by decide +kernel), (by decide +kernel)⟩, List.forall_mem_cons.mpr ⟨⟨wgm 1200 (by decide +kernel) (by decide +kernel), wgm 1202 (by decide +kernel) (by decide +kernel), wgp 52 (by decide +kernel) (by decide +kernel), (by decide +kernel), (by decide +kernel), (by decide +kernel), (by decide +kernel), (by decide +kernel)⟩, List.forall_mem_cons.mpr ⟨⟨wgm 1204 (by decide +kernel) (by decide +kernel), wgm 1205 (by decide +kernel) (by decide +kernel), wgm 1206 (by decide +kernel) (by decide +kernel), (by decide +kernel), (by decide +kernel), (by decide +kernel), (by decide +kernel), (by decide +kernel)⟩, List.forall_mem_cons.mpr ⟨⟨wgm 1208 (by decide +kernel) (by decide +kernel), wgm 1210 (by decide +kernel) (by decide +kernel), wgp 53 (by decide +kernel) (by decide +kernel), (by decide +kernel), (by decide +kernel), (by decide +kernel), (by decide +kernel), (by decide +kernel)⟩, List.forall_mem_cons.mpr ⟨⟨wgm 1212 (by decide +kernel) (by decide +kernel), wgm 1214 (by decide +kernel) (by decide +kernel), wgp 54 (by decide +kernel) (by decide +kernel), (by decide +kernel), (by decide +kernel), (by decide +kernel), (by decide +kernel), (by decide +kernel)⟩, List.forall_mem_cons.mpr ⟨⟨wgm 1216 (by decide +kernel) (by decide +kernel), wgm 1218 (by decide +kernel) (by decide +kernel), wgp 55 (by decide +kernel) (by decide +kernel), (by decide +kernel), (by decide +kernel), (by decide +kernel), (by decide +kernel), (by decide +kernel)⟩, List.forall_mem_cons.mpr ⟨⟨wgm 1220 (by decide +kernel) (by decide +kernel), wgm 1221 (by decide +kernel) (by decide +kernel), (by decide +kernel)⟩, List.forall_mem_cons.mpr ⟨⟨wgm 1223 (by decide +kernel) (by decide +kernel), wgm 1225 (by decide +kernel) (by decide +kernel), wgp 56 (by decide +kernel) (by decide +kernel), (by decide +kernel), (by decide +kernel), (by decide +kernel), (by decide +kernel), (by decide +kernel)⟩, List.forall_mem_cons.mpr ⟨⟨wgm 1227 (by decide +kernel) (by decide +kernel), wgm 1228 (by decide +kernel) (by decide +kernel), wgm 1229 (by decide +kernel) (by decide +kernel), (by decide +kernel), (by decide +kernel), (by decide +kernel), (by decide +kernel), (by decide +kernel)⟩, List.forall_mem_cons.mpr ⟨⟨wgm 1231 (by decide +kernel) (by decide +kernel), wgm 1233 (by decide +kernel) (by decide +kernel), wgp 57 (by decide +kernel) (by decide +kernel), (by decide +kernel), (by decide +kernel), (by decide +kernel), (by decide +kernel), (by decide +kernel)⟩, List.forall_mem_cons.mpr ⟨⟨wgm 1235 (by decide +kernel) (by decide +kernel), wgm 1237 (by decide +kernel) (by decide +kernel), wgp 58 (by decide +kernel) (by decide +kernel), (by decide +kernel), (by decide +kernel), (by decide +kernel), (by decide +kernel), (by decide +kernel)⟩, List.forall_mem_cons.mpr ⟨⟨wgm 1239 (by decide +kernel) (by decide +kernel), wgm 1240 (by decide +kernel) (by decide +kernel), wgm 1241 (by decide +kernel) (by decide +kernel), (by decide +kernel), (by decide +kernel), (by decide +kernel), (by decide +kernel), (by decide +kernel)⟩, List.forall_mem_cons.mpr ⟨⟨wgm 1243 (by decide +kernel) (by decide +kernel), wgm 1244 (by decide +kernel) (by decide +kernel), wgm 1245 (by decide +kernel) (by decide +kernel), (by decide +kernel), (by decide +kernel), (by decide +kernel), (by decide +kernel), (by decide +kernel)⟩, List.forall_mem_cons.mpr ⟨⟨wgm 1247 (by decide +kernel) (by decide +kernel), wgm 1249 (by decide +kernel) (by decide +kernel), wgp 59 (by decide +kernel) (by decide +kernel), (by decide +kernel), (by decide +kernel), (by decide +kernel), (by decide +kernel), (by decide +kernel)⟩, List.forall_mem_cons.mpr ⟨⟨wgm 1251 (by decide +kernel) (by decide +kernel), wgm 1252 (by decide +kernel) (by decide +kernel), wgm 1253 (by decide +kernel) (by decide +kernel), (by decide +kernel), (by decide +kernel), (by decide +kernel), (by decide +kernel), (by decide +kernel)⟩, List.forall_mem_cons.mpr ⟨⟨wgm 1255 (by decide +kernel) (by decide +kernel), wgm 1257 (by decide +kernel) (by decide +kernel), wgp 60 (by decide +kernel) (by decide +kernel), (by decide +kernel), (by decide +kernel), (by decide +kernel), (by decide +kernel), (by decide +kernel)⟩, List.forall_mem_cons.mpr ⟨⟨wgm 1259 (by decide +kernel) (by decide +kernel), wgm 1261 (by decide +kernel) (by decide +kernel), wgp 61 (by decide +kernel) (by decide +kernel), (by decide +kernel), (by decide +kernel), (by decide +kernel), (by decide +kernel), (by decide +kernel)⟩, List.forall_mem_cons.mpr ⟨⟨wgm 1263 (by decide +kernel) (by decide +kernel), wgm 1265 (by decide +kernel) (by decide +kernel), wgp 62 (by decide +kernel) (by decide +kernel), (by decide +kernel), (by decide +kernel), (by decide +kernel), (by decide +kernel), (by decide +kernel)⟩, List.forall_mem_cons.mpr ⟨⟨wgm 1267 (by decide +kernel) (by decide +kernel), wgm 1269 (by decide +kernel) (by decide +kernel), wgp 63 (by decide +kernel) (by decide +kernel), (by decide +kernel), (by decide +kernel), (by decide +kernel), (by decide +kernel), (by decide +kernel)⟩, List.forall_mem_cons.mpr ⟨⟨wgm 1271 (by decide +kernel) (by decide +kernel), wgm 1273 (by decide +kernel) (by decide +kernel), wgp 64 (by decide +kernel) (by decide +kernel), (by decide +kernel), (by decide +kernel), (by decide +kernel), (by decide +kernel), (by decide +kernel)⟩, List.forall_mem_cons.mpr ⟨⟨wgm 1275 (by decide +kernel) (by decide +kernel), wgm 1277 (by decide +kernel) (by decide +kernel), wgp 65 (by decide +kernel) (by decide +kernel), (by decide +kernel), (by decide +kernel), (by decide +kernel), (by decide +kernel), (by decide +kernel)⟩, List.forall_mem_cons.mpr ⟨⟨wgm 1279 (by decide +kernel) (by decide +kernel), wgm 1281 (by decide +kernel) (by decide +kernel), wgp 66 (by decide +kernel) (by decide +kernel), (by decide +kernel), (by decide +kernel), (by decide +kernel), (by decide +kernel), (by decide +kernel)⟩, List.forall_mem_cons.mpr ⟨⟨wgm 1283 (by decide +kernel) (by decide +kernel), wgm 1284 (by decide +kernel) (by decide +kernel), wgm 1285 (by decide +kernel) (by decide +kernel), (by decide +kernel), (by decide +kernel), (by decide +kernel), (by decide +kernel), (by decide +kernel)⟩, List.forall_mem_cons.mpr ⟨⟨wgm 1287 (by decide +kernel) (by decide +kernel), wgm 1288 (by decide +kernel) (by decide +kernel), wgm 1289 (by decide +kernel) (by decide +kernel), (by decide +kernel), (by decide +kernel), (by decide +kernel), (by decide +kernel), (by decide +kernel)⟩, List.forall_mem_cons.mpr ⟨⟨wgm 1291 (by decide +kernel) (by decide +kernel), wgm 1292 (by decide +kernel) (by decide +kernel), wgm 1293 (by decide +kernel) (by decide +kernel), (by decide +kernel), (by decide +kernel), (by decide +kernel), (by decide +kernel), (by decide +kernel)⟩, List.forall_mem_cons.mpr ⟨⟨wgm 1295 (by decide +kernel) (by decide +kernel), wgm 1296 (by decide +kernel) (by decide +kernel), wgm 1297 (by decide +kernel) (by decide +kernel), (by decide +kernel), (by decide +kernel), (by decide +kernel), (by decide +kernel), (by decide +kernel)⟩, List.forall_mem_cons.mpr ⟨⟨wgm 1300 (by decide +kernel) (by decide +kernel), wgm 1301 (by decide +kernel) (by decide +kernel), wgm 1302 (by decide +kernel) (by decide +kernel), (by decide +kernel), (by decide +kernel), (by decide +kernel), (by decide +kernel), (by decide +kernel)⟩, List.forall_mem_cons.mpr ⟨⟨wgm 1304 (by decide +kernel) (by decide +kernel), wgm 1305 (by decide +kernel) (by decide +kernel), wgm 1306 (by decide +kernel) (by decide +kernel), (by decide +kernel), (by decide +kernel), (by decide +kernel), (by decide +kernel), (by decide +kernel)⟩, List.forall_mem_cons.mpr ⟨⟨wgm 1308 (by decide +kernel) (by decide +kernel), wgm 1309 (by decide +kernel) (by decide +kernel), wgm 1310 (by decide +kernel) (by decide +kernel), (by decide +kernel), (by decide +kernel), (by decide +kernel), (by decide +kernel), (by decide +kernel)⟩, List.forall_mem_cons.mpr ⟨⟨wgm 1312 (by decide +kernel) (by decide +kernel), wgm 1314 (by decide +kernel) (by decide +kernel), wgp 67 (by decide +kernel) (by decide +kernel), (by decide +kernel), (by decide +kernel), (by decide +kernel), (by decide +kernel), (by decide +kernel)⟩, List.forall_mem_cons.mpr ⟨⟨wgm 1316 (by decide +kernel) (by decide +kernel), wgm 1318 (by decide +kernel) (by decide +kernel), wgp 68 (by decide +kernel) (by decide +kernel), (by decide +kernel), (by decide +kernel), (by decide +kernel), (by decide +kernel), (by decide +kernel)⟩, List.forall_mem_cons.mpr ⟨⟨wgm 1320 (by decide +kernel) (by decide +kernel), wgm 1322 (by decide +kernel) (by decide +kernel), wgp 69 (by decide +kernel) (by decide +kernel), (by decide +kernel), (by decide +kernel), (by decide +kernel), (by decide +kernel), (by decide +kernel)⟩, List.forall_mem_cons.mpr ⟨⟨wgm 1324 (by decide +kernel) (by decide +kernel), wgm 1326 (by decide +kernel) (by decide +kernel), wgp 70 (by decide +kernel) (by decide +kernel), (by decide +kernel), (by decide +kernel), (by decide +kernel), (by decide +kernel), (by decide +kernel)⟩, List.forall_mem_cons.mpr ⟨⟨wgm 1328 (by decide +kernel) (by decide +kernel), wgm 1330 (by decide +kernel) (by decide +kernel), wgp 71 (by decide +kernel) (by decide +kernel), (by decide +kernel), (by decide +kernel), (by decide +kernel), (by decide +kernel), (by decide +kernel)⟩, List.forall_mem_cons.mpr ⟨⟨wgm 1332 (by decide +kernel) (by decide +kernel), wgm 1334 (by decide +kernel) (by decide +kernel), wgp 72 (by decide +kernel) (by decide +kernel), (by decide +kernel), (by decide +kernel), (by decide +kernel), (by decide +kernel), (by decide +kernel)⟩, List.forall_mem_cons.mpr ⟨⟨wgm 1336 (by decide +kernel) (by decide +kernel), wgm 1338 (by decide +kernel) (by decide +kernel), wgp 73 (by decide +kernel) (by decide +kernel), (by decide +kernel), (by decide +kernel), (by decide +kernel), (by decide +kernel), (by decide +kernel)⟩, List.forall_mem_cons.mpr ⟨⟨wgm 1340 (by decide +kernel) (by decide +kernel), wgm 1341 (by decide +kernel) (by decide +kernel), wgm 1342 (by decide +kernel) (by decide +kernel), (by decide +kernel), (by decide +kernel), (by decide +kernel), (by decide +kernel), (by decide +kernel)⟩, List.forall_mem_cons.mpr ⟨⟨wgm 1344 (by decide +kernel) (by decide +kernel), wgm 1345 (by decide +kernel) (by decide +kernel), wgm 1346 (by decide +kernel) (by decide +kernel), (by decide +kernel), (by decide +kernel), (by decide +kernel), (by decide +kernel), (by decide +kernel)⟩, List.forall_mem_cons.mpr ⟨⟨wgm 1349 (by decide +kernel) (by decide +kernel), wgm 1351 (by decide +kernel) (by decide +kernel), wgp 74 (by decide +kernel) (by decide +kernel), (by decide +kernel), (by decide +kernel), (by decide +kernel), (by decide +kernel), (by decide +kernel)⟩, fun _ h => absurd h List.not_mem_nil⟩⟩⟩⟩⟩⟩⟩⟩⟩⟩⟩⟩⟩⟩⟩⟩⟩⟩⟩⟩⟩⟩⟩⟩⟩⟩⟩⟩⟩⟩⟩⟩⟩⟩⟩⟩⟩⟩⟩⟩⟩⟩⟩⟩⟩⟩⟩⟩⟩⟩⟩⟩⟩⟩⟩⟩⟩⟩⟩⟩⟩⟩⟩⟩⟩⟩⟩⟩⟩⟩⟩⟩⟩⟩⟩⟩⟩⟩⟩⟩⟩⟩⟩⟩⟩⟩⟩⟩⟩⟩⟩⟩⟩⟩⟩⟩⟩⟩⟩⟩⟩⟩⟩⟩⟩⟩⟩⟩⟩⟩⟩⟩⟩⟩⟩⟩⟩⟩⟩⟩⟩⟩⟩⟩⟩⟩⟩⟩⟩⟩⟩⟩⟩⟩⟩⟩⟩⟩⟩⟩⟩⟩⟩⟩⟩⟩⟩⟩⟩⟩⟩⟩⟩⟩⟩⟩⟩⟩⟩⟩⟩⟩⟩⟩⟩⟩⟩⟩⟩⟩⟩⟩⟩⟩⟩⟩⟩⟩⟩⟩⟩⟩⟩⟩⟩⟩⟩⟩⟩⟩⟩⟩⟩⟩⟩⟩⟩⟩⟩⟩⟩⟩⟩⟩⟩⟩⟩⟩⟩⟩⟩⟩⟩⟩⟩⟩⟩⟩⟩⟩⟩⟩⟩⟩⟩⟩⟩⟩⟩⟩⟩⟩⟩⟩⟩⟩⟩⟩⟩⟩⟩⟩⟩⟩⟩⟩⟩⟩⟩⟩⟩⟩⟩⟩⟩⟩⟩⟩⟩⟩⟩⟩⟩⟩⟩⟩⟩⟩⟩⟩⟩⟩⟩⟩⟩⟩⟩⟩⟩⟩⟩⟩⟩⟩⟩⟩⟩⟩⟩⟩⟩⟩⟩⟩⟩
def mthP (m : Nat) : Prop := mW m ∈ Wg ∧ Cond.initialized (mY m).cls ∈ Wg ∧ (mY m).cls = ownN (mOwn m) ∧ plainFor (mY m) = true ∧ ((mY m).cls ≠ "java/lang/invoke/MethodHandle" ∧ (mY m).cls ≠ "java/lang/invoke/VarHandle")
set_option maxRecDepth 100000 in
theorem mth_0 : mthP 0 := ⟨wgm 221 rfl (by decide +kernel), wgm 9 (by decide +kernel) (by decide +kernel), (by decide +kernel), (by decide +kernel), (by decide +kernel)⟩
set_option maxRecDepth 100000 in
theorem mth_1 : mthP 1 := ⟨wgm 481 rfl (by decide +kernel), wgm 9 (by decide +kernel) (by decide +kernel), (by decide +kernel), (by decide +kernel), (by decide +kernel)⟩
set_option maxRecDepth 100000 in
theorem mth_2 : mthP 2 := ⟨wgm 885 rfl (by decide +kernel), wgm 9 (by decide +kernel) (by decide +kernel), (by decide +kernel), (by decide +kernel), (by decide +kernel)⟩
set_option maxRecDepth 100000 in
theorem mth_3 : mthP 3 := ⟨wgm 485 rfl (by decide +kernel), wgm 9 (by decide +kernel) (by decide +kernel), (by decide +kernel), (by decide +kernel), (by decide +kernel)⟩
set_option maxRecDepth 100000 in
theorem mth_4 : mthP 4 := ⟨wgm 497 rfl (by decide +kernel), wgm 9 (by decide +kernel) (by decide +kernel), (by decide +kernel), (by decide +kernel), (by decide +kernel)⟩
set_option maxRecDepth 100000 in
theorem mth_5 : mthP 5 := ⟨wgm 491 rfl (by decide +kernel), wgm 9 (by decide +kernel) (by decide +kernel), (by decide +kernel), (by decide +kernel), (by decide +kernel)⟩
set_option maxRecDepth 100000 in
theorem mth_6 : mthP 6 := ⟨wgm 211 rfl (by decide +kernel), wgm 8 (by decide +kernel) (by decide +kernel), (by decide +kernel), (by decide +kernel), (by decide +kernel)⟩
set_option maxRecDepth 100000 in
theorem mth_7 : mthP 7 := ⟨wgm 830 rfl (by decide +kernel), wgm 8 (by decide +kernel) (by decide +kernel), (by decide +kernel), (by decide +kernel), (by decide +kernel)⟩
set_option maxRecDepth 100000 in
theorem mth_8 : mthP 8 := ⟨wgm 860 rfl (by decide +kernel), wgm 8 (by decide +kernel) (by decide +kernel), (by decide +kernel), (by decide +kernel), (by decide +kernel)⟩
set_option maxRecDepth 100000 in
theorem mth_9 : mthP 9 := ⟨wgm 865 rfl (by decide +kernel), wgm 8 (by decide +kernel) (by decide +kernel), (by decide +kernel), (by decide +kernel), (by decide +kernel)⟩
set_option maxRecDepth 100000 in
theorem mth_10 : mthP 10 := ⟨wgm 201 rfl (by decide +kernel), wgm 7 (by decide +kernel) (by decide +kernel), (by decide +kernel), (by decide +kernel), (by decide +kernel)⟩
set_option maxRecDepth 100000 in
theorem mth_11 : mthP 11 := ⟨wgm 767 rfl (by decide +kernel), wgm 7 (by decide +kernel) (by decide +kernel), (by decide +kernel), (by decide +kernel), (by decide +kernel)⟩
set_option maxRecDepth 100000 in
theorem mth_12 : mthP 12 := ⟨wgm 772 rfl (by decide +kernel), wgm 7 (by decide +kernel) (by decide +kernel), (by decide +kernel), (by decide +kernel), (by decide +kernel)⟩
set_option maxRecDepth 100000 in
theorem mth_13 : mthP 13 := ⟨wgm 782 rfl (by decide +kernel), wgm 7 (by decide +kernel) (by decide +kernel), (by decide +kernel), (by decide +kernel), (by decide +kernel)⟩
set_option maxRecDepth 100000 in
theorem mth_14 : mthP 14 := ⟨wgm 761 rfl (by decide +kernel), wgm 7 (by decide +kernel) (by decide +kernel), (by decide +kernel), (by decide +kernel), (by decide +kernel)⟩
set_option maxRecDepth 100000 in
theorem mth_15 : mthP 15 := ⟨wgm 794 rfl (by decide +kernel), wgm 7 (by decide +kernel) (by decide +kernel), (by decide +kernel), (by decide +kernel), (by decide +kernel)⟩
set_option maxRecDepth 100000 in
theorem mth_16 : mthP 16 := ⟨wgm 804 rfl (by decide +kernel), wgm 7 (by decide +kernel) (by decide +kernel), (by decide +kernel), (by decide +kernel), (by decide +kernel)⟩
set_option maxRecDepth 100000 in
theorem mth_17 : mthP 17 := ⟨wgm 812 rfl (by decide +kernel), wgm 7 (by decide +kernel) (by decide +kernel), (by decide +kernel), (by decide +kernel), (by decide +kernel)⟩
set_option maxRecDepth 100000 in
theorem mth_18 : mthP 18 := ⟨wgm 896 rfl (by decide +kernel), wgm 7 (by decide +kernel) (by decide +kernel), (by decide +kernel), (by decide +kernel), (by decide +kernel)⟩
set_option maxRecDepth 100000 in
theorem mth_19 : mthP 19 := ⟨wgm 191 rfl (by decide +kernel), wgm 6 (by decide +kernel) (by decide +kernel), (by decide +kernel), (by decide +kernel), (by decide +kernel)⟩
set_option maxRecDepth 100000 in
theorem mth_20 : mthP 20 := ⟨wgm 413 rfl (by decide +kernel), wgm 6 (by decide +kernel) (by decide +kernel), (by decide +kernel), (by decide +kernel), (by decide +kernel)⟩
set_option maxRecDepth 100000 in
theorem mth_21 : mthP 21 := ⟨wgm 427 rfl (by decide +kernel), wgm 6 (by decide +kernel) (by decide +kernel), (by decide +kernel), (by decide +kernel), (by decide +kernel)⟩
set_option maxRecDepth 100000 in
theorem mth_22 : mthP 22 := ⟨wgm 435 rfl (by decide +kernel), wgm 6 (by decide +kernel) (by decide +kernel), (by decide +kernel), (by decide +kernel), (by decide +kernel)⟩
set_option maxRecDepth 100000 in
theorem mth_23 : mthP 23 := ⟨wgm 359 rfl (by decide +kernel), wgm 6 (by decide +kernel) (by decide +kernel), (by decide +kernel), (by decide +kernel), (by decide +kernel)⟩
set_option maxRecDepth 100000 in
theorem mth_24 : mthP 24 := ⟨wgm 304 rfl (by decide +kernel), wgm 6 (by decide +kernel) (by decide +kernel), (by decide +kernel), (by decide +kernel), (by decide +kernel)⟩
set_option maxRecDepth 100000 in
theorem mth_25 : mthP 25 := ⟨wgm 308 rfl (by decide +kernel), wgm 6 (by decide +kernel) (by decide +kernel), (by decide +kernel), (by decide +kernel), (by decide +kernel)⟩
set_option maxRecDepth 100000 in
theorem mth_26 : mthP 26 := ⟨wgm 400 rfl (by decide +kernel), wgm 6 (by decide +kernel) (by decide +kernel), (by decide +kernel), (by decide +kernel), (by decide +kernel)⟩
set_option maxRecDepth 100000 in
theorem mth_27 : mthP 27 := ⟨wgm 409 rfl (by decide +kernel), wgm 6 (by decide +kernel) (by decide +kernel), (by decide +kernel), (by decide +kernel), (by decide +kernel)⟩
set_option maxRecDepth 100000 in
theorem mth_28 : mthP 28 := ⟨wgm 431 rfl (by decide +kernel), wgm 6 (by decide +kernel) (by decide +kernel), (by decide +kernel), (by decide +kernel), (by decide +kernel)⟩
set_option maxRecDepth 100000 in
theorem mth_29 : mthP 29 := ⟨wgm 174 rfl (by decide +kernel), wgm 5 (by decide +kernel) (by decide +kernel), (by decide +kernel), (by decide +kernel), (by decide +kernel)⟩
set_option maxRecDepth 100000 in
theorem mth_30 : mthP 30 := ⟨wgm 285 rfl (by decide +kernel), wgm 5 (by decide +kernel) (by decide +kernel), (by decide +kernel), (by decide +kernel), (by decide +kernel)⟩
set_option maxRecDepth 100000 in
theorem mth_31 : mthP 31 := ⟨wgm 289 rfl (by decide +kernel), wgm 5 (by decide +kernel) (by decide +kernel), (by decide +kernel), (by decide +kernel), (by decide +kernel)⟩
set_option maxRecDepth 100000 in
theorem mth_32 : mthP 32 := ⟨wgm 949 rfl (by decide +kernel), wgm 5 (by decide +kernel) (by decide +kernel), (by decide +kernel), (by decide +kernel), (by decide +kernel)⟩
set_option maxRecDepth 100000 in
theorem mth_33 : mthP 33 := ⟨wgm 246 rfl (by decide +kernel), wgm 10 (by decide +kernel) (by decide +kernel), (by decide +kernel), (by decide +kernel), (by decide +kernel)⟩
set_option maxRecDepth 100000 in
theorem mth_34 : mthP 34 := ⟨wgm 932 rfl (by decide +kernel), wgm 10 (by decide +kernel) (by decide +kernel), (by decide +kernel), (by decide +kernel), (by decide +kernel)⟩
set_option maxRecDepth 100000 in
theorem mth_35 : mthP 35 := ⟨wgm 937 rfl (by decide +kernel), wgm 10 (by decide +kernel) (by decide +kernel), (by decide +kernel), (by decide +kernel), (by decide +kernel)⟩
set_option maxRecDepth 100000 in
theorem mth_36 : mthP 36 := ⟨wgm 389 rfl (by decide +kernel), wgm 10 (by decide +kernel) (by decide +kernel), (by decide +kernel), (by decide +kernel), (by decide +kernel)⟩
set_option maxRecDepth 100000 in
theorem mth_37 : mthP 37 := ⟨wgm 385 rfl (by decide +kernel), wgm 10 (by decide +kernel) (by decide +kernel), (by decide +kernel), (by decide +kernel), (by decide +kernel)⟩
set_option maxRecDepth 100000 in
theorem mth_38 : mthP 38 := ⟨wgm 392 rfl (by decide +kernel), wgm 10 (by decide +kernel) (by decide +kernel), (by decide +kernel), (by decide +kernel), (by decide +kernel)⟩
set_option maxRecDepth 100000 in
theorem mth_39 : mthP 39 := ⟨wgm 395 rfl (by decide +kernel), wgm 10 (by decide +kernel) (by decide +kernel), (by decide +kernel), (by decide +kernel), (by decide +kernel)⟩
set_option maxRecDepth 100000 in
theorem mth_40 : mthP 40 := ⟨wgm 32 rfl (by decide +kernel), wgm 2 (by decide +kernel) (by decide +kernel), (by decide +kernel), (by decide +kernel), (by decide +kernel)⟩
set_option maxRecDepth 100000 in
theorem mth_41 : mthP 41 := ⟨wgm 130 rfl (by decide +kernel), wgm 2 (by decide +kernel) (by decide +kernel), (by decide +kernel), (by decide +kernel), (by decide +kernel)⟩
set_option maxRecDepth 100000 in
theorem mth_42 : mthP 42 := ⟨wgm 293 rfl (by decide +kernel), wgm 2 (by decide +kernel) (by decide +kernel), (by decide +kernel), (by decide +kernel), (by decide +kernel)⟩
set_option maxRecDepth 100000 in
theorem mth_43 : mthP 43 := ⟨wgm 504 rfl (by decide +kernel), wgm 2 (by decide +kernel) (by decide +kernel), (by decide +kernel), (by decide +kernel), (by decide +kernel)⟩
set_option maxRecDepth 100000 in
theorem mth_44 : mthP 44 := ⟨wgm 324 rfl (by decide +kernel), wgm 2 (by decide +kernel) (by decide +kernel), (by decide +kernel), (by decide +kernel), (by decide +kernel)⟩
set_option maxRecDepth 100000 in
theorem mth_45 : mthP 45 := ⟨wgm 405 rfl (by decide +kernel), wgm 2 (by decide +kernel) (by decide +kernel), (by decide +kernel), (by decide +kernel), (by decide +kernel)⟩
set_option maxRecDepth 100000 in
theorem mth_46 : mthP 46 := ⟨wgm 331 rfl (by decide +kernel), wgm 2 (by decide +kernel) (by decide +kernel), (by decide +kernel), (by decide +kernel), (by decide +kernel)⟩
set_option maxRecDepth 100000 in
theorem mth_47 : mthP 47 := ⟨wgm 337 rfl (by decide +kernel), wgm 2 (by decide +kernel) (by decide +kernel), (by decide +kernel), (by decide +kernel), (by decide +kernel)⟩
set_option maxRecDepth 100000 in
theorem mth_48 : mthP 48 := ⟨wgm 467 rfl (by decide +kernel), wgm 2 (by decide +kernel) (by decide +kernel), (by decide +kernel), (by decide +kernel), (by decide +kernel)⟩
set_option maxRecDepth 100000 in
theorem mth_49 : mthP 49 := ⟨wgm 637 rfl (by decide +kernel), wgm 2 (by decide +kernel) (by decide +kernel), (by decide +kernel), (by decide +kernel), (by decide +kernel)⟩
set_option maxRecDepth 100000 in
theorem mth_50 : mthP 50 := ⟨wgm 347 rfl (by decide +kernel), wgm 2 (by decide +kernel) (by decide +kernel), (by decide +kernel), (by decide +kernel), (by decide +kernel)⟩
set_option maxRecDepth 100000 in
theorem mth_51 : mthP 51 := ⟨wgm 343 rfl (by decide +kernel), wgm 2 (by decide +kernel) (by decide +kernel), (by decide +kernel), (by decide +kernel), (by decide +kernel)⟩
set_option maxRecDepth 100000 in
theorem mth_52 : mthP 52 := ⟨wgm 508 rfl (by decide +kernel), wgm 2 (by decide +kernel) (by decide +kernel), (by decide +kernel), (by decide +kernel), (by decide +kernel)⟩
set_option maxRecDepth 100000 in
theorem mth_53 : mthP 53 := ⟨wgm 320 rfl (by decide +kernel), wgm 2 (by decide +kernel) (by decide +kernel), (by decide +kernel), (by decide +kernel), (by decide +kernel)⟩
set_option maxRecDepth 100000 in
theorem mth_54 : mthP 54 := ⟨wgm 707 rfl (by decide +kernel), wgm 2 (by decide +kernel) (by decide +kernel), (by decide +kernel), (by decide +kernel), (by decide +kernel)⟩
set_option maxRecDepth 100000 in
theorem mth_55 : mthP 55 := ⟨wgm 722 rfl (by decide +kernel), wgm 2 (by decide +kernel) (by decide +kernel), (by decide +kernel), (by decide +kernel), (by decide +kernel)⟩
set_option maxRecDepth 100000 in
theorem mth_56 : mthP 56 := ⟨wgm 725 rfl (by decide +kernel), wgm 2 (by decide +kernel) (by decide +kernel), (by decide +kernel), (by decide +kernel), (by decide +kernel)⟩
set_option maxRecDepth 100000 in
theorem mth_57 : mthP 57 := ⟨wgm 423 rfl (by decide +kernel), wgm 2 (by decide +kernel) (by decide +kernel), (by decide +kernel), (by decide +kernel), (by decide +kernel)⟩
set_option maxRecDepth 100000 in
theorem mth_58 : mthP 58 := ⟨wgm 366 rfl (by decide +kernel), wgm 2 (by decide +kernel) (by decide +kernel), (by decide +kernel), (by decide +kernel), (by decide +kernel)⟩
set_option maxRecDepth 100000 in
theorem mth_59 : mthP 59 := ⟨wgm 372 rfl (by decide +kernel), wgm 2 (by decide +kernel) (by decide +kernel), (by decide +kernel), (by decide +kernel), (by decide +kernel)⟩
set_option maxRecDepth 100000 in
theorem mth_60 : mthP 60 := ⟨wgm 363 rfl (by decide +kernel), wgm 2 (by decide +kernel) (by decide +kernel), (by decide +kernel), (by decide +kernel), (by decide +kernel)⟩
set_option maxRecDepth 100000 in
theorem mth_61 : mthP 61 := ⟨wgm 907 rfl (by decide +kernel), wgm 2 (by decide +kernel) (by decide +kernel), (by decide +kernel), (by decide +kernel), (by decide +kernel)⟩
set_option maxRecDepth 100000 in
theorem mth_62 : mthP 62 := ⟨wgm 818 rfl (by decide +kernel), wgm 2 (by decide +kernel) (by decide +kernel), (by decide +kernel), (by decide +kernel), (by decide +kernel)⟩
set_option maxRecDepth 100000 in
theorem mth_63 : mthP 63 := ⟨wgm 838 rfl (by decide +kernel), wgm 2 (by decide +kernel) (by decide +kernel), (by decide +kernel), (by decide +kernel), (by decide +kernel)⟩
set_option maxRecDepth 100000 in
theorem mth_64 : mthP 64 := ⟨wgm 459 rfl (by decide +kernel), wgm 2 (by decide +kernel) (by decide +kernel), (by decide +kernel), (by decide +kernel), (by decide +kernel)⟩
set_option maxRecDepth 100000 in
theorem mth_65 : mthP 65 := ⟨wgm 919 rfl (by decide +kernel), wgm 2 (by decide +kernel) (by decide +kernel), (by decide +kernel), (by decide +kernel), (by decide +kernel)⟩
set_option maxRecDepth 100000 in
theorem mth_66 : mthP 66 := ⟨wgm 463 rfl (by decide +kernel), wgm 2 (by decide +kernel) (by decide +kernel), (by decide +kernel), (by decide +kernel), (by decide +kernel)⟩
set_option maxRecDepth 100000 in
theorem mth_67 : mthP 67 := ⟨wgm 471 rfl (by decide +kernel), wgm 2 (by decide +kernel) (by decide +kernel), (by decide +kernel), (by decide +kernel), (by decide +kernel)⟩
set_option maxRecDepth 100000 in
theorem mth_68 : mthP 68 := ⟨wgm 455 rfl (by decide +kernel), wgm 2 (by decide +kernel) (by decide +kernel), (by decide +kernel), (by decide +kernel), (by decide +kernel)⟩
set_option maxRecDepth 100000 in
theorem mth_69 : mthP 69 := ⟨wgm 475 rfl (by decide +kernel), wgm 2 (by decide +kernel) (by decide +kernel), (by decide +kernel), (by decide +kernel), (by decide +kernel)⟩
set_option maxRecDepth 100000 in
theorem mth_70 : mthP 70 := ⟨wgm 39 rfl (by decide +kernel), wgm 3 (by decide +kernel) (by decide +kernel), (by decide +kernel), (by decide +kernel), (by decide +kernel)⟩
set_option maxRecDepth 100000 in
theorem mth_71 : mthP 71 := ⟨wgm 666 rfl (by decide +kernel), wgm 3 (by decide +kernel) (by decide +kernel), (by decide +kernel), (by decide +kernel), (by decide +kernel)⟩
set_option maxRecDepth 100000 in
theorem mth_72 : mthP 72 := ⟨wgm 300 rfl (by decide +kernel), wgm 3 (by decide +kernel) (by decide +kernel), (by decide +kernel), (by decide +kernel), (by decide +kernel)⟩
set_option maxRecDepth 100000 in
theorem mth_73 : mthP 73 := ⟨wgm 312 rfl (by decide +kernel), wgm 3 (by decide +kernel) (by decide +kernel), (by decide +kernel), (by decide +kernel), (by decide +kernel)⟩
set_option maxRecDepth 100000 in
theorem mth_74 : mthP 74 := ⟨wgm 316 rfl (by decide +kernel), wgm 3 (by decide +kernel) (by decide +kernel), (by decide +kernel), (by decide +kernel), (by decide +kernel)⟩
set_option maxRecDepth 100000 in
theorem mth_75 : mthP 75 := ⟨wgm 417 rfl (by decide +kernel), wgm 3 (by decide +kernel) (by decide +kernel), (by decide +kernel), (by decide +kernel), (by decide +kernel)⟩
set_option maxRecDepth 100000 in
theorem mth_76 : mthP 76 := ⟨wgm 439 rfl (by decide +kernel), wgm 3 (by decide +kernel) (by decide +kernel), (by decide +kernel), (by decide +kernel), (by decide +kernel)⟩
set_option maxRecDepth 100000 in
theorem mth_77 : mthP 77 := ⟨wgm 444 rfl (by decide +kernel), wgm 3 (by decide +kernel) (by decide +kernel), (by decide +kernel), (by decide +kernel), (by decide +kernel)⟩
set_option maxRecDepth 100000 in
theorem mth_78 : mthP 78 := ⟨wgm 778 rfl (by decide +kernel), wgm 3 (by decide +kernel) (by decide +kernel), (by decide +kernel), (by decide +kernel), (by decide +kernel)⟩
set_option maxRecDepth 100000 in
theorem mth_79 : mthP 79 := ⟨wgm 798 rfl (by decide +kernel), wgm 3 (by decide +kernel) (by decide +kernel), (by decide +kernel), (by decide +kernel), (by decide +kernel)⟩
set_option maxRecDepth 100000 in
theorem mth_80 : mthP 80 := ⟨wgm 808 rfl (by decide +kernel), wgm 3 (by decide +kernel) (by decide +kernel), (by decide +kernel), (by decide +kernel), (by decide +kernel)⟩
set_option maxRecDepth 100000 in
theorem mth_81 : mthP 81 := ⟨wgm 352 rfl (by decide +kernel), wgm 3 (by decide +kernel) (by decide +kernel), (by decide +kernel), (by decide +kernel), (by decide +kernel)⟩
set_option maxRecDepth 100000 in
theorem mth_82 : mthP 82 := ⟨wgm 24 rfl (by decide +kernel), wgm 1 (by decide +kernel) (by decide +kernel), (by decide +kernel), (by decide +kernel), (by decide +kernel)⟩
set_option maxRecDepth 100000 in
theorem mth_83 : mthP 83 := ⟨wgm 516 rfl (by decide +kernel), wgm 1 (by decide +kernel) (by decide +kernel), (by decide +kernel), (by decide +kernel), (by decide +kernel)⟩
set_option maxRecDepth 100000 in
theorem mth_84 : mthP 84 := ⟨wgm 594 rfl (by decide +kernel), wgm 1 (by decide +kernel) (by decide +kernel), (by decide +kernel), (by decide +kernel), (by decide +kernel)⟩
set_option maxRecDepth 100000 in
theorem mth_85 : mthP 85 := ⟨wgm 644 rfl (by decide +kernel), wgm 1 (by decide +kernel) (by decide +kernel), (by decide +kernel), (by decide +kernel), (by decide +kernel)⟩
set_option maxRecDepth 100000 in
theorem mth_86 : mthP 86 := ⟨wgm 655 rfl (by decide +kernel), wgm 1 (by decide +kernel) (by decide +kernel), (by decide +kernel), (by decide +kernel), (by decide +kernel)⟩
set_option maxRecDepth 100000 in
theorem mth_87 : mthP 87 := ⟨wgm 674 rfl (by decide +kernel), wgm 1 (by decide +kernel) (by decide +kernel), (by decide +kernel), (by decide +kernel), (by decide +kernel)⟩
set_option maxRecDepth 100000 in
theorem mth_88 : mthP 88 := ⟨wgm 682 rfl (by decide +kernel), wgm 1 (by decide +kernel) (by decide +kernel), (by decide +kernel), (by decide +kernel), (by decide +kernel)⟩
set_option maxRecDepth 100000 in
theorem mth_89 : mthP 89 := ⟨wgm 696 rfl (by decide +kernel), wgm 1 (by decide +kernel) (by decide +kernel), (by decide +kernel), (by decide +kernel), (by decide +kernel)⟩
set_option maxRecDepth 100000 in
theorem mth_90 : mthP 90 := ⟨wgm 703 rfl (by decide +kernel), wgm 1 (by decide +kernel) (by decide +kernel), (by decide +kernel), (by decide +kernel), (by decide +kernel)⟩
set_option maxRecDepth 100000 in
theorem mth_91 : mthP 91 := ⟨wgm 718 rfl (by decide +kernel), wgm 1 (by decide +kernel) (by decide +kernel), (by decide +kernel), (by decide +kernel), (by decide +kernel)⟩
set_option maxRecDepth 100000 in
theorem mth_92 : mthP 92 := ⟨wgm 732 rfl (by decide +kernel), wgm 1 (by decide +kernel) (by decide +kernel), (by decide +kernel), (by decide +kernel), (by decide +kernel)⟩
set_option maxRecDepth 100000 in
theorem mth_93 : mthP 93 := ⟨wgm 742 rfl (by decide +kernel), wgm 1 (by decide +kernel) (by decide +kernel), (by decide +kernel), (by decide +kernel), (by decide +kernel)⟩
set_option maxRecDepth 100000 in
theorem mth_94 : mthP 94 := ⟨wgm 281 rfl (by decide +kernel), wgm 1 (by decide +kernel) (by decide +kernel), (by decide +kernel), (by decide +kernel), (by decide +kernel)⟩
set_option maxRecDepth 100000 in
theorem mth_95 : mthP 95 := ⟨wgm 752 rfl (by decide +kernel), wgm 1 (by decide +kernel) (by decide +kernel), (by decide +kernel), (by decide +kernel), (by decide +kernel)⟩
set_option maxRecDepth 100000 in
theorem mth_96 : mthP 96 := ⟨wgm 789 rfl (by decide +kernel), wgm 1 (by decide +kernel) (by decide +kernel), (by decide +kernel), (by decide +kernel), (by decide +kernel)⟩
set_option maxRecDepth 100000 in
theorem mth_97 : mthP 97 := ⟨wgm 826 rfl (by decide +kernel), wgm 1 (by decide +kernel) (by decide +kernel), (by decide +kernel), (by decide +kernel), (by decide +kernel)⟩
set_option maxRecDepth 100000 in
theorem mth_98 : mthP 98 := ⟨wgm 846 rfl (by decide +kernel), wgm 1 (by decide +kernel) (by decide +kernel), (by decide +kernel), (by decide +kernel), (by decide +kernel)⟩
set_option maxRecDepth 100000 in
theorem mth_99 : mthP 99 := ⟨wgm 855 rfl (by decide +kernel), wgm 1 (by decide +kernel) (by decide +kernel), (by decide +kernel), (by decide +kernel), (by decide +kernel)⟩
set_option maxRecDepth 100000 in
theorem mth_100 : mthP 100 := ⟨wgm 874 rfl (by decide +kernel), wgm 1 (by decide +kernel) (by decide +kernel), (by decide +kernel), (by decide +kernel), (by decide +kernel)⟩
set_option maxRecDepth 100000 in
theorem mth_101 : mthP 101 := ⟨wgm 881 rfl (by decide +kernel), wgm 1 (by decide +kernel) (by decide +kernel), (by decide +kernel), (by decide +kernel), (by decide +kernel)⟩
set_option maxRecDepth 100000 in
theorem mth_102 : mthP 102 := ⟨wgm 892 rfl (by decide +kernel), wgm 1 (by decide +kernel) (by decide +kernel), (by decide +kernel), (by decide +kernel), (by decide +kernel)⟩
set_option maxRecDepth 100000 in
theorem mth_103 : mthP 103 := ⟨wgm 903 rfl (by decide +kernel), wgm 1 (by decide +kernel) (by decide +kernel), (by decide +kernel), (by decide +kernel), (by decide +kernel)⟩
set_option maxRecDepth 100000 in
theorem mth_104 : mthP 104 := ⟨wgm 914 rfl (by decide +kernel), wgm 1 (by decide +kernel) (by decide +kernel), (by decide +kernel), (by decide +kernel), (by decide +kernel)⟩
set_option maxRecDepth 100000 in
theorem mth_105 : mthP 105 := ⟨wgm 927 rfl (by decide +kernel), wgm 1 (by decide +kernel) (by decide +kernel), (by decide +kernel), (by decide +kernel), (by decide +kernel)⟩
set_option maxRecDepth 100000 in
theorem mth_106 : mthP 106 := ⟨wgm 377 rfl (by decide +kernel), wgm 1 (by decide +kernel) (by decide +kernel), (by decide +kernel), (by decide +kernel), (by decide +kernel)⟩
set_option maxRecDepth 100000 in
theorem mth_107 : mthP 107 := ⟨wgm 381 rfl (by decide +kernel), wgm 1 (by decide +kernel) (by decide +kernel), (by decide +kernel), (by decide +kernel), (by decide +kernel)⟩
set_option maxRecDepth 100000 in
theorem mth_108 : mthP 108 := ⟨wgm 944 rfl (by decide +kernel), wgm 1 (by decide +kernel) (by decide +kernel), (by decide +kernel), (by decide +kernel), (by decide +kernel)⟩
set_option maxRecDepth 100000 in
theorem mth_109 : mthP 109 := ⟨wgm 449 rfl (by decide +kernel), wgm 1 (by decide +kernel) (by decide +kernel), (by decide +kernel), (by decide +kernel), (by decide +kernel)⟩
set_option maxRecDepth 100000 in
theorem mth_110 : mthP 110 := ⟨wgm 598 rfl (by decide +kernel), wgm 1 (by decide +kernel) (by decide +kernel), (by decide +kernel), (by decide +kernel), (by decide +kernel)⟩
set_option maxRecDepth 100000 in
theorem mth_111 : mthP 111 := ⟨wgm 686 rfl (by decide +kernel), wgm 1 (by decide +kernel) (by decide +kernel), (by decide +kernel), (by decide +kernel), (by decide +kernel)⟩
set_option maxRecDepth 100000 in
theorem mth_112 : mthP 112 := ⟨wgm 756 rfl (by decide +kernel), wgm 1 (by decide +kernel) (by decide +kernel), (by decide +kernel), (by decide +kernel), (by decide +kernel)⟩
set_option maxRecDepth 100000 in
theorem mth_113 : mthP 113 := ⟨wgm 658 rfl (by decide +kernel), wgm 1 (by decide +kernel) (by decide +kernel), (by decide +kernel), (by decide +kernel), (by decide +kernel)⟩
set_option maxRecDepth 100000 in
theorem mth_114 : mthP 114 := ⟨wgm 647 rfl (by decide +kernel), wgm 1 (by decide +kernel) (by decide +kernel), (by decide +kernel), (by decide +kernel), (by decide +kernel)⟩
set_option maxRecDepth 100000 in
theorem mth_115 : mthP 115 := ⟨wgm 954 rfl (by decide +kernel), wgm 11 (by decide +kernel) (by decide +kernel), (by decide +kernel), (by decide +kernel), (by decide +kernel)⟩
set_option maxRecDepth 100000 in
theorem mth_116 : mthP 116 := ⟨wgm 959 rfl (by decide +kernel), wgm 11 (by decide +kernel) (by decide +kernel), (by decide +kernel), (by decide +kernel), (by decide +kernel)⟩
set_option maxRecDepth 100000 in
theorem mth_117 : mthP 117 := ⟨wgm 997 rfl (by decide +kernel), wgm 11 (by decide +kernel) (by decide +kernel), (by decide +kernel), (by decide +kernel), (by decide +kernel)⟩
set_option maxRecDepth 100000 in
theorem mth_118 : mthP 118 := ⟨wgm 1004 rfl (by decide +kernel), wgm 11 (by decide +kernel) (by decide +kernel), (by decide +kernel), (by decide +kernel), (by decide +kernel)⟩
set_option maxRecDepth 100000 in
theorem mth_119 : mthP 119 := ⟨wgm 1118 rfl (by decide +kernel), wgm 11 (by decide +kernel) (by decide +kernel), (by decide +kernel), (by decide +kernel), (by decide +kernel)⟩
set_option maxRecDepth 100000 in
theorem mth_120 : mthP 120 := ⟨wgm 1222 rfl (by decide +kernel), wgm 11 (by decide +kernel) (by decide +kernel), (by decide +kernel), (by decide +kernel), (by decide +kernel)⟩
set_option maxRecDepth 100000 in
theorem mth_121 : mthP 121 := ⟨wgm 1008 rfl (by decide +kernel), wgm 11 (by decide +kernel) (by decide +kernel), (by decide +kernel), (by decide +kernel), (by decide +kernel)⟩
set_option maxRecDepth 100000 in
theorem mth_122 : mthP 122 := ⟨wgm 1020 rfl (by decide +kernel), wgm 11 (by decide +kernel) (by decide +kernel), (by decide +kernel), (by decide +kernel), (by decide +kernel)⟩
set_option maxRecDepth 100000 in
theorem mth_123 : mthP 123 := ⟨wgm 1016 rfl (by decide +kernel), wgm 11 (by decide +kernel) (by decide +kernel), (by decide +kernel), (by decide +kernel), (by decide +kernel)⟩
set_option maxRecDepth 100000 in
theorem mth_124 : mthP 124 := ⟨wgm 1095 rfl (by decide +kernel), wgm 11 (by decide +kernel) (by decide +kernel), (by decide +kernel), (by decide +kernel), (by decide +kernel)⟩
set_option maxRecDepth 100000 in
theorem mth_125 : mthP 125 := ⟨wgm 1032 rfl (by decide +kernel), wgm 11 (by decide +kernel) (by decide +kernel), (by decide +kernel), (by decide +kernel), (by decide +kernel)⟩
set_option maxRecDepth 100000 in
theorem mth_126 : mthP 126 := ⟨wgm 1056 rfl (by decide +kernel), wgm 11 (by decide +kernel) (by decide +kernel), (by decide +kernel), (by decide +kernel), (by decide +kernel)⟩
set_option maxRecDepth 100000 in
theorem mth_127 : mthP 127 := ⟨wgm 1028 rfl (by decide +kernel), wgm 11 (by decide +kernel) (by decide +kernel), (by decide +kernel), (by decide +kernel), (by decide +kernel)⟩
set_option maxRecDepth 100000 in
theorem mth_128 : mthP 128 := ⟨wgm 1133 rfl (by decide +kernel), wgm 11 (by decide +kernel) (by decide +kernel), (by decide +kernel), (by decide +kernel), (by decide +kernel)⟩
set_option maxRecDepth 100000 in
theorem mth_129 : mthP 129 := ⟨wgm 1136 rfl (by decide +kernel), wgm 11 (by decide +kernel) (by decide +kernel), (by decide +kernel), (by decide +kernel), (by decide +kernel)⟩
set_option maxRecDepth 100000 in
theorem mth_130 : mthP 130 := ⟨wgm 1152 rfl (by decide +kernel), wgm 11 (by decide +kernel) (by decide +kernel), (by decide +kernel), (by decide +kernel), (by decide +kernel)⟩
set_option maxRecDepth 100000 in
theorem mth_131 : mthP 131 := ⟨wgm 1024 rfl (by decide +kernel), wgm 11 (by decide +kernel) (by decide +kernel), (by decide +kernel), (by decide +kernel), (by decide +kernel)⟩
set_option maxRecDepth 100000 in
theorem mth_132 : mthP 132 := ⟨wgm 1052 rfl (by decide +kernel), wgm 11 (by decide +kernel) (by decide +kernel), (by decide +kernel), (by decide +kernel), (by decide +kernel)⟩
set_option maxRecDepth 100000 in
theorem mth_133 : mthP 133 := ⟨wgm 1048 rfl (by decide +kernel), wgm 11 (by decide +kernel) (by decide +kernel), (by decide +kernel), (by decide +kernel), (by decide +kernel)⟩
set_option maxRecDepth 100000 in
theorem mth_134 : mthP 134 := ⟨wgm 1115 rfl (by decide +kernel), wgm 11 (by decide +kernel) (by decide +kernel), (by decide +kernel), (by decide +kernel), (by decide +kernel)⟩
set_option maxRecDepth 100000 in
theorem mth_135 : mthP 135 := ⟨wgm 1122 rfl (by decide +kernel), wgm 11 (by decide +kernel) (by decide +kernel), (by decide +kernel), (by decide +kernel), (by decide +kernel)⟩
set_option maxRecDepth 100000 in
theorem mth_136 : mthP 136 := ⟨wgm 1111 rfl (by decide +kernel), wgm 11 (by decide +kernel) (by decide +kernel), (by decide +kernel), (by decide +kernel), (by decide +kernel)⟩
set_option maxRecDepth 100000 in
theorem mth_137 : mthP 137 := ⟨wgm 1130 rfl (by decide +kernel), wgm 11 (by decide +kernel) (by decide +kernel), (by decide +kernel), (by decide +kernel), (by decide +kernel)⟩
set_option maxRecDepth 100000 in
theorem mth_138 : mthP 138 := ⟨wgm 1195 rfl (by decide +kernel), wgm 11 (by decide +kernel) (by decide +kernel), (by decide +kernel), (by decide +kernel), (by decide +kernel)⟩
set_option maxRecDepth 100000 in
theorem mth_139 : mthP 139 := ⟨wgm 1199 rfl (by decide +kernel), wgm 11 (by decide +kernel) (by decide +kernel), (by decide +kernel), (by decide +kernel), (by decide +kernel)⟩
set_option maxRecDepth 100000 in
theorem mth_140 : mthP 140 := ⟨wgm 1001 rfl (by decide +kernel), wgm 11 (by decide +kernel) (by decide +kernel), (by decide +kernel), (by decide +kernel), (by decide +kernel)⟩
set_option maxRecDepth 100000 in
theorem mth_141 : mthP 141 := ⟨wgm 1012 rfl (by decide +kernel), wgm 11 (by decide +kernel) (by decide +kernel), (by decide +kernel), (by decide +kernel), (by decide +kernel)⟩
set_option maxRecDepth 100000 in
theorem mth_142 : mthP 142 := ⟨wgm 1036 rfl (by decide +kernel), wgm 11 (by decide +kernel) (by decide +kernel), (by decide +kernel), (by decide +kernel), (by decide +kernel)⟩
set_option maxRecDepth 100000 in
theorem mth_143 : mthP 143 := ⟨wgm 1071 rfl (by decide +kernel), wgm 11 (by decide +kernel) (by decide +kernel), (by decide +kernel), (by decide +kernel), (by decide +kernel)⟩
set_option maxRecDepth 100000 in
theorem mth_144 : mthP 144 := ⟨wgm 1068 rfl (by decide +kernel), wgm 11 (by decide +kernel) (by decide +kernel), (by decide +kernel), (by decide +kernel), (by decide +kernel)⟩
set_option maxRecDepth 100000 in
theorem mth_145 : mthP 145 := ⟨wgm 1064 rfl (by decide +kernel), wgm 11 (by decide +kernel) (by decide +kernel), (by decide +kernel), (by decide +kernel), (by decide +kernel)⟩
set_option maxRecDepth 100000 in
theorem mth_146 : mthP 146 := ⟨wgm 1060 rfl (by decide +kernel), wgm 11 (by decide +kernel) (by decide +kernel), (by decide +kernel), (by decide +kernel), (by decide +kernel)⟩
set_option maxRecDepth 100000 in
theorem mth_147 : mthP 147 := ⟨wgm 1044 rfl (by decide +kernel), wgm 11 (by decide +kernel) (by decide +kernel), (by decide +kernel), (by decide +kernel), (by decide +kernel)⟩
set_option maxRecDepth 100000 in
theorem mth_148 : mthP 148 := ⟨wgm 1040 rfl (by decide +kernel), wgm 11 (by decide +kernel) (by decide +kernel), (by decide +kernel), (by decide +kernel), (by decide +kernel)⟩
set_option maxRecDepth 100000 in
theorem mth_149 : mthP 149 := ⟨wgm 1083 rfl (by decide +kernel), wgm 11 (by decide +kernel) (by decide +kernel), (by decide +kernel), (by decide +kernel), (by decide +kernel)⟩
set_option maxRecDepth 100000 in
theorem mth_150 : mthP 150 := ⟨wgm 1087 rfl (by decide +kernel), wgm 11 (by decide +kernel) (by decide +kernel), (by decide +kernel), (by decide +kernel), (by decide +kernel)⟩
set_option maxRecDepth 100000 in
theorem mth_151 : mthP 151 := ⟨wgm 1079 rfl (by decide +kernel), wgm 11 (by decide +kernel) (by decide +kernel), (by decide +kernel), (by decide +kernel), (by decide +kernel)⟩
set_option maxRecDepth 100000 in
theorem mth_152 : mthP 152 := ⟨wgm 1075 rfl (by decide +kernel), wgm 11 (by decide +kernel) (by decide +kernel), (by decide +kernel), (by decide +kernel), (by decide +kernel)⟩
set_option maxRecDepth 100000 in
theorem mth_153 : mthP 153 := ⟨wgm 1099 rfl (by decide +kernel), wgm 11 (by decide +kernel) (by decide +kernel), (by decide +kernel), (by decide +kernel), (by decide +kernel)⟩
set_option maxRecDepth 100000 in
theorem mth_154 : mthP 154 := ⟨wgm 1091 rfl (by decide +kernel), wgm 11 (by decide +kernel) (by decide +kernel), (by decide +kernel), (by decide +kernel), (by decide +kernel)⟩
set_option maxRecDepth 100000 in
theorem mth_155 : mthP 155 := ⟨wgm 1103 rfl (by decide +kernel), wgm 11 (by decide +kernel) (by decide +kernel), (by decide +kernel), (by decide +kernel), (by decide +kernel)⟩
set_option maxRecDepth 100000 in
theorem mth_156 : mthP 156 := ⟨wgm 1107 rfl (by decide +kernel), wgm 11 (by decide +kernel) (by decide +kernel), (by decide +kernel), (by decide +kernel), (by decide +kernel)⟩
set_option maxRecDepth 100000 in
theorem mth_157 : mthP 157 := ⟨wgm 1126 rfl (by decide +kernel), wgm 11 (by decide +kernel) (by decide +kernel), (by decide +kernel), (by decide +kernel), (by decide +kernel)⟩
set_option maxRecDepth 100000 in
theorem mth_158 : mthP 158 := ⟨wgm 1148 rfl (by decide +kernel), wgm 11 (by decide +kernel) (by decide +kernel), (by decide +kernel), (by decide +kernel), (by decide +kernel)⟩
set_option maxRecDepth 100000 in
theorem mth_159 : mthP 159 := ⟨wgm 1144 rfl (by decide +kernel), wgm 11 (by decide +kernel) (by decide +kernel), (by decide +kernel), (by decide +kernel), (by decide +kernel)⟩
set_option maxRecDepth 100000 in
theorem mth_160 : mthP 160 := ⟨wgm 1156 rfl (by decide +kernel), wgm 11 (by decide +kernel) (by decide +kernel), (by decide +kernel), (by decide +kernel), (by decide +kernel)⟩
set_option maxRecDepth 100000 in
theorem mth_161 : mthP 161 := ⟨wgm 1140 rfl (by decide +kernel), wgm 11 (by decide +kernel) (by decide +kernel), (by decide +kernel), (by decide +kernel), (by decide +kernel)⟩
set_option maxRecDepth 100000 in
theorem mth_162 : mthP 162 := ⟨wgm 1167 rfl (by decide +kernel), wgm 11 (by decide +kernel) (by decide +kernel), (by decide +kernel), (by decide +kernel), (by decide +kernel)⟩
set_option maxRecDepth 100000 in
theorem mth_163 : mthP 163 := ⟨wgm 1164 rfl (by decide +kernel), wgm 11 (by decide +kernel) (by decide +kernel), (by decide +kernel), (by decide +kernel), (by decide +kernel)⟩
set_option maxRecDepth 100000 in
theorem mth_164 : mthP 164 := ⟨wgm 1171 rfl (by decide +kernel), wgm 11 (by decide +kernel) (by decide +kernel), (by decide +kernel), (by decide +kernel), (by decide +kernel)⟩
set_option maxRecDepth 100000 in
theorem mth_165 : mthP 165 := ⟨wgm 1160 rfl (by decide +kernel), wgm 11 (by decide +kernel) (by decide +kernel), (by decide +kernel), (by decide +kernel), (by decide +kernel)⟩
set_option maxRecDepth 100000 in
theorem mth_166 : mthP 166 := ⟨wgm 1179 rfl (by decide +kernel), wgm 11 (by decide +kernel) (by decide +kernel), (by decide +kernel), (by decide +kernel), (by decide +kernel)⟩
set_option maxRecDepth 100000 in
theorem mth_167 : mthP 167 := ⟨wgm 1175 rfl (by decide +kernel), wgm 11 (by decide +kernel) (by decide +kernel), (by decide +kernel), (by decide +kernel), (by decide +kernel)⟩
set_option maxRecDepth 100000 in
theorem mth_168 : mthP 168 := ⟨wgm 1203 rfl (by decide +kernel), wgm 11 (by decide +kernel) (by decide +kernel), (by decide +kernel), (by decide +kernel), (by decide +kernel)⟩
set_option maxRecDepth 100000 in
theorem mth_169 : mthP 169 := ⟨wgm 1191 rfl (by decide +kernel), wgm 11 (by decide +kernel) (by decide +kernel), (by decide +kernel), (by decide +kernel), (by decide +kernel)⟩
set_option maxRecDepth 100000 in
theorem mth_170 : mthP 170 := ⟨wgm 1187 rfl (by decide +kernel), wgm 11 (by decide +kernel) (by decide +kernel), (by decide +kernel), (by decide +kernel), (by decide +kernel)⟩
set_option maxRecDepth 100000 in
theorem mth_171 : mthP 171 := ⟨wgm 1183 rfl (by decide +kernel), wgm 11 (by decide +kernel) (by decide +kernel), (by decide +kernel), (by decide +kernel), (by decide +kernel)⟩
set_option maxRecDepth 100000 in
theorem mth_172 : mthP 172 := ⟨wgm 1211 rfl (by decide +kernel), wgm 11 (by decide +kernel) (by decide +kernel), (by decide +kernel), (by decide +kernel), (by decide +kernel)⟩
set_option maxRecDepth 100000 in
theorem mth_173 : mthP 173 := ⟨wgm 1219 rfl (by decide +kernel), wgm 11 (by decide +kernel) (by decide +kernel), (by decide +kernel), (by decide +kernel), (by decide +kernel)⟩
set_option maxRecDepth 100000 in
theorem mth_174 : mthP 174 := ⟨wgm 1226 rfl (by decide +kernel), wgm 11 (by decide +kernel) (by decide +kernel), (by decide +kernel), (by decide +kernel), (by decide +kernel)⟩
set_option maxRecDepth 100000 in
theorem mth_175 : mthP 175 := ⟨wgm 1215 rfl (by decide +kernel), wgm 11 (by decide +kernel) (by decide +kernel), (by decide +kernel), (by decide +kernel), (by decide +kernel)⟩
set_option maxRecDepth 100000 in
theorem mth_176 : mthP 176 := ⟨wgm 1207 rfl (by decide +kernel), wgm 11 (by decide +kernel) (by decide +kernel), (by decide +kernel), (by decide +kernel), (by decide +kernel)⟩
set_option maxRecDepth 100000 in
theorem mth_177 : mthP 177 := ⟨wgm 1238 rfl (by decide +kernel), wgm 11 (by decide +kernel) (by decide +kernel), (by decide +kernel), (by decide +kernel), (by decide +kernel)⟩
set_option maxRecDepth 100000 in
theorem mth_178 : mthP 178 := ⟨wgm 1234 rfl (by decide +kernel), wgm 11 (by decide +kernel) (by decide +kernel), (by decide +kernel), (by decide +kernel), (by decide +kernel)⟩
set_option maxRecDepth 100000 in
theorem mth_179 : mthP 179 := ⟨wgm 1230 rfl (by decide +kernel), wgm 11 (by decide +kernel) (by decide +kernel), (by decide +kernel), (by decide +kernel), (by decide +kernel)⟩
set_option maxRecDepth 100000 in
theorem mth_180 : mthP 180 := ⟨wgm 1242 rfl (by decide +kernel), wgm 11 (by decide +kernel) (by decide +kernel), (by decide +kernel), (by decide +kernel), (by decide +kernel)⟩
set_option maxRecDepth 100000 in
theorem mth_181 : mthP 181 := ⟨wgm 1250 rfl (by decide +kernel), wgm 11 (by decide +kernel) (by decide +kernel), (by decide +kernel), (by decide +kernel), (by decide +kernel)⟩
set_option maxRecDepth 100000 in
theorem mth_182 : mthP 182 := ⟨wgm 1246 rfl (by decide +kernel), wgm 11 (by decide +kernel) (by decide +kernel), (by decide +kernel), (by decide +kernel), (by decide +kernel)⟩
set_option maxRecDepth 100000 in
theorem mth_183 : mthP 183 := ⟨wgm 1266 rfl (by decide +kernel), wgm 11 (by decide +kernel) (by decide +kernel), (by decide +kernel), (by decide +kernel), (by decide +kernel)⟩
set_option maxRecDepth 100000 in
theorem mth_184 : mthP 184 := ⟨wgm 1274 rfl (by decide +kernel), wgm 11 (by decide +kernel) (by decide +kernel), (by decide +kernel), (by decide +kernel), (by decide +kernel)⟩
set_option maxRecDepth 100000 in
theorem mth_185 : mthP 185 := ⟨wgm 1278 rfl (by decide +kernel), wgm 11 (by decide +kernel) (by decide +kernel), (by decide +kernel), (by decide +kernel), (by decide +kernel)⟩
set_option maxRecDepth 100000 in
theorem mth_186 : mthP 186 := ⟨wgm 1270 rfl (by decide +kernel), wgm 11 (by decide +kernel) (by decide +kernel), (by decide +kernel), (by decide +kernel), (by decide +kernel)⟩
set_option maxRecDepth 100000 in
theorem mth_187 : mthP 187 := ⟨wgm 1262 rfl (by decide +kernel), wgm 11 (by decide +kernel) (by decide +kernel), (by decide +kernel), (by decide +kernel), (by decide +kernel)⟩
set_option maxRecDepth 100000 in
theorem mth_188 : mthP 188 := ⟨wgm 1282 rfl (by decide +kernel), wgm 11 (by decide +kernel) (by decide +kernel), (by decide +kernel), (by decide +kernel), (by decide +kernel)⟩
set_option maxRecDepth 100000 in
theorem mth_189 : mthP 189 := ⟨wgm 1258 rfl (by decide +kernel), wgm 11 (by decide +kernel) (by decide +kernel), (by decide +kernel), (by decide +kernel), (by decide +kernel)⟩
set_option maxRecDepth 100000 in
theorem mth_190 : mthP 190 := ⟨wgm 1254 rfl (by decide +kernel), wgm 11 (by decide +kernel) (by decide +kernel), (by decide +kernel), (by decide +kernel), (by decide +kernel)⟩
set_option maxRecDepth 100000 in
theorem mth_191 : mthP 191 := ⟨wgm 1286 rfl (by decide +kernel), wgm 11 (by decide +kernel) (by decide +kernel), (by decide +kernel), (by decide +kernel), (by decide +kernel)⟩
set_option maxRecDepth 100000 in
theorem mth_192 : mthP 192 := ⟨wgm 1290 rfl (by decide +kernel), wgm 11 (by decide +kernel) (by decide +kernel), (by decide +kernel), (by decide +kernel), (by decide +kernel)⟩
set_option maxRecDepth 100000 in
theorem mth_193 : mthP 193 := ⟨wgm 1294 rfl (by decide +kernel), wgm 11 (by decide +kernel) (by decide +kernel), (by decide +kernel), (by decide +kernel), (by decide +kernel)⟩
set_option maxRecDepth 100000 in
theorem mth_194 : mthP 194 := ⟨wgm 1298 rfl (by decide +kernel), wgm 11 (by decide +kernel) (by decide +kernel), (by decide +kernel), (by decide +kernel), (by decide +kernel)⟩
set_option maxRecDepth 100000 in
theorem mth_195 : mthP 195 := ⟨wgm 1303 rfl (by decide +kernel), wgm 11 (by decide +kernel) (by decide +kernel), (by decide +kernel), (by decide +kernel), (by decide +kernel)⟩
set_option maxRecDepth 100000 in
theorem mth_196 : mthP 196 := ⟨wgm 1307 rfl (by decide +kernel), wgm 11 (by decide +kernel) (by decide +kernel), (by decide +kernel), (by decide +kernel), (by decide +kernel)⟩
set_option maxRecDepth 100000 in
theorem mth_197 : mthP 197 := ⟨wgm 1323 rfl (by decide +kernel), wgm 11 (by decide +kernel) (by decide +kernel), (by decide +kernel), (by decide +kernel), (by decide +kernel)⟩
set_option maxRecDepth 100000 in
theorem mth_198 : mthP 198 := ⟨wgm 1331 rfl (by decide +kernel), wgm 11 (by decide +kernel) (by decide +kernel), (by decide +kernel), (by decide +kernel), (by decide +kernel)⟩
set_option maxRecDepth 100000 in
theorem mth_199 : mthP 199 := ⟨wgm 1327 rfl (by decide +kernel), wgm 11 (by decide +kernel) (by decide +kernel), (by decide +kernel), (by decide +kernel), (by decide +kernel)⟩
set_option maxRecDepth 100000 in
theorem mth_200 : mthP 200 := ⟨wgm 1319 rfl (by decide +kernel), wgm 11 (by decide +kernel) (by decide +kernel), (by decide +kernel), (by decide +kernel), (by decide +kernel)⟩
set_option maxRecDepth 100000 in
theorem mth_201 : mthP 201 := ⟨wgm 1315 rfl (by decide +kernel), wgm 11 (by decide +kernel) (by decide +kernel), (by decide +kernel), (by decide +kernel), (by decide +kernel)⟩
set_option maxRecDepth 100000 in
theorem mth_202 : mthP 202 := ⟨wgm 1335 rfl (by decide +kernel), wgm 11 (by decide +kernel) (by decide +kernel), (by decide +kernel), (by decide +kernel), (by decide +kernel)⟩
set_option maxRecDepth 100000 in
theorem mth_203 : mthP 203 := ⟨wgm 1339 rfl (by decide +kernel), wgm 11 (by decide +kernel) (by decide +kernel), (by decide +kernel), (by decide +kernel), (by decide +kernel)⟩
set_option maxRecDepth 100000 in
theorem mth_204 : mthP 204 := ⟨wgm 1311 rfl (by decide +kernel), wgm 11 (by decide +kernel) (by decide +kernel), (by decide +kernel), (by decide +kernel), (by decide +kernel)⟩
set_option maxRecDepth 100000 in
theorem mth_205 : mthP 205 := ⟨wgm 1343 rfl (by decide +kernel), wgm 11 (by decide +kernel) (by decide +kernel), (by decide +kernel), (by decide +kernel), (by decide +kernel)⟩
set_option maxRecDepth 100000 in
theorem mth_206 : mthP 206 := ⟨wgm 1352 rfl (by decide +kernel), wgm 11 (by decide +kernel) (by decide +kernel), (by decide +kernel), (by decide +kernel), (by decide +kernel)⟩
set_option maxRecDepth 100000 in
theorem mth_207 : mthP 207 := ⟨wgm 1347 rfl (by decide +kernel), wgm 11 (by decide +kernel) (by decide +kernel), (by decide +kernel), (by decide +kernel), (by decide +kernel)⟩
set_option maxRecDepth 100000 in
theorem mth_208 : mthP 208 := ⟨wgm 327 rfl (by decide +kernel), wgm 19 (by decide +kernel) (by decide +kernel), (by decide +kernel), (by decide +kernel), (by decide +kernel)⟩
set_option maxRecDepth 100000 in
theorem mth_209 : mthP 209 := ⟨wgm 710 rfl (by decide +kernel), wgm 19 (by decide +kernel) (by decide +kernel), (by decide +kernel), (by decide +kernel), (by decide +kernel)⟩
set_option maxRecDepth 100000 in
theorem mth_210 : mthP 210 := ⟨wgm 355 rfl (by decide +kernel), wgm 19 (by decide +kernel) (by decide +kernel), (by decide +kernel), (by decide +kernel), (by decide +kernel)⟩
set_option maxRecDepth 100000 in
theorem mth_211 : mthP 211 := ⟨wgm 369 rfl (by decide +kernel), wgm 19 (by decide +kernel) (by decide +kernel), (by decide +kernel), (by decide +kernel), (by decide +kernel)⟩
set_option maxRecDepth 100000 in
theorem mth_212 : mthP 212 := ⟨wgm 133 rfl (by decide +kernel), wgm 4 (by decide +kernel) (by decide +kernel), (by decide +kernel), (by decide +kernel), (by decide +kernel)⟩
set_option maxRecDepth 100000 in
theorem mth_213 : mthP 213 := ⟨wgm 511 rfl (by decide +kernel), wgm 0 (by decide +kernel) (by decide +kernel), (by decide +kernel), (by decide +kernel), (by decide +kernel)⟩
set_option maxRecDepth 100000 in
theorem mth_214 : mthP 214 := ⟨wgm 588 rfl (by decide +kernel), wgm 0 (by decide +kernel) (by decide +kernel), (by decide +kernel), (by decide +kernel), (by decide +kernel)⟩
set_option maxRecDepth 100000 in
theorem mth_215 : mthP 215 := ⟨wgm 640 rfl (by decide +kernel), wgm 0 (by decide +kernel) (by decide +kernel), (by decide +kernel), (by decide +kernel), (by decide +kernel)⟩
set_option maxRecDepth 100000 in
theorem mth_216 : mthP 216 := ⟨wgm 651 rfl (by decide +kernel), wgm 0 (by decide +kernel) (by decide +kernel), (by decide +kernel), (by decide +kernel), (by decide +kernel)⟩
set_option maxRecDepth 100000 in
theorem mth_217 : mthP 217 := ⟨wgm 670 rfl (by decide +kernel), wgm 0 (by decide +kernel) (by decide +kernel), (by decide +kernel), (by decide +kernel), (by decide +kernel)⟩
set_option maxRecDepth 100000 in
theorem mth_218 : mthP 218 := ⟨wgm 678 rfl (by decide +kernel), wgm 0 (by decide +kernel) (by decide +kernel), (by decide +kernel), (by decide +kernel), (by decide +kernel)⟩
set_option maxRecDepth 100000 in
theorem mth_219 : mthP 219 := ⟨wgm 692 rfl (by decide +kernel), wgm 0 (by decide +kernel) (by decide +kernel), (by decide +kernel), (by decide +kernel), (by decide +kernel)⟩
set_option maxRecDepth 100000 in
theorem mth_220 : mthP 220 := ⟨wgm 699 rfl (by decide +kernel), wgm 0 (by decide +kernel) (by decide +kernel), (by decide +kernel), (by decide +kernel), (by decide +kernel)⟩
set_option maxRecDepth 100000 in
theorem mth_221 : mthP 221 := ⟨wgm 714 rfl (by decide +kernel), wgm 0 (by decide +kernel) (by decide +kernel), (by decide +kernel), (by decide +kernel), (by decide +kernel)⟩
set_option maxRecDepth 100000 in
theorem mth_222 : mthP 222 := ⟨wgm 728 rfl (by decide +kernel), wgm 0 (by decide +kernel) (by decide +kernel), (by decide +kernel), (by decide +kernel), (by decide +kernel)⟩
set_option maxRecDepth 100000 in
theorem mth_223 : mthP 223 := ⟨wgm 738 rfl (by decide +kernel), wgm 0 (by decide +kernel) (by decide +kernel), (by decide +kernel), (by decide +kernel), (by decide +kernel)⟩
set_option maxRecDepth 100000 in
theorem mth_224 : mthP 224 := ⟨wgm 748 rfl (by decide +kernel), wgm 0 (by decide +kernel) (by decide +kernel), (by decide +kernel), (by decide +kernel), (by decide +kernel)⟩
set_option maxRecDepth 100000 in
theorem mth_225 : mthP 225 := ⟨wgm 785 rfl (by decide +kernel), wgm 0 (by decide +kernel) (by decide +kernel), (by decide +kernel), (by decide +kernel), (by decide +kernel)⟩
set_option maxRecDepth 100000 in
theorem mth_226 : mthP 226 := ⟨wgm 822 rfl (by decide +kernel), wgm 0 (by decide +kernel) (by decide +kernel), (by decide +kernel), (by decide +kernel), (by decide +kernel)⟩
set_option maxRecDepth 100000 in
theorem mth_227 : mthP 227 := ⟨wgm 842 rfl (by decide +kernel), wgm 0 (by decide +kernel) (by decide +kernel), (by decide +kernel), (by decide +kernel), (by decide +kernel)⟩
set_option maxRecDepth 100000 in
theorem mth_228 : mthP 228 := ⟨wgm 851 rfl (by decide +kernel), wgm 0 (by decide +kernel) (by decide +kernel), (by decide +kernel), (by decide +kernel), (by decide +kernel)⟩
set_option maxRecDepth 100000 in
theorem mth_229 : mthP 229 := ⟨wgm 870 rfl (by decide +kernel), wgm 0 (by decide +kernel) (by decide +kernel), (by decide +kernel), (by decide +kernel), (by decide +kernel)⟩
set_option maxRecDepth 100000 in
theorem mth_230 : mthP 230 := ⟨wgm 877 rfl (by decide +kernel), wgm 0 (by decide +kernel) (by decide +kernel), (by decide +kernel), (by decide +kernel), (by decide +kernel)⟩
set_option maxRecDepth 100000 in
theorem mth_231 : mthP 231 := ⟨wgm 888 rfl (by decide +kernel), wgm 0 (by decide +kernel) (by decide +kernel), (by decide +kernel), (by decide +kernel), (by decide +kernel)⟩
set_option maxRecDepth 100000 in
theorem mth_232 : mthP 232 := ⟨wgm 899 rfl (by decide +kernel), wgm 0 (by decide +kernel) (by decide +kernel), (by decide +kernel), (by decide +kernel), (by decide +kernel)⟩
set_option maxRecDepth 100000 in
theorem mth_233 : mthP 233 := ⟨wgm 910 rfl (by decide +kernel), wgm 0 (by decide +kernel) (by decide +kernel), (by decide +kernel), (by decide +kernel), (by decide +kernel)⟩
set_option maxRecDepth 100000 in
theorem mth_234 : mthP 234 := ⟨wgm 923 rfl (by decide +kernel), wgm 0 (by decide +kernel) (by decide +kernel), (by decide +kernel), (by decide +kernel), (by decide +kernel)⟩
set_option maxRecDepth 100000 in
theorem mth_235 : mthP 235 := ⟨wgm 940 rfl (by decide +kernel), wgm 0 (by decide +kernel) (by decide +kernel), (by decide +kernel), (by decide +kernel), (by decide +kernel)⟩
theorem mth_ok (m : Nat) (h : m < 237) (h2 : m ≠ 236) : mthP m := by
  match m, h with
  | 0, _ => exact mth_0
  | 1, _ => exact mth_1
  | 2, _ => exact mth_2
  | 3, _ => exact mth_3
  | 4, _ => exact mth_4
  | 5, _ => exact mth_5
  | 6, _ => exact mth_6
  | 7, _ => exact mth_7
  | 8, _ => exact mth_8
  | 9, _ => exact mth_9
  | 10, _ => exact mth_10
  | 11, _ => exact mth_11
  | 12, _ => exact mth_12
  | 13, _ => exact mth_13
  | 14, _ => exact mth_14
  | 15, _ => exact mth_15
  | 16, _ => exact mth_16
  | 17, _ => exact mth_17
  | 18, _ => exact mth_18
  | 19, _ => exact mth_19
  | 20, _ => exact mth_20
  | 21, _ => exact mth_21
  | 22, _ => exact mth_22
  | 23, _ => exact mth_23
  | 24, _ => exact mth_24
  | 25, _ => exact mth_25
  | 26, _ => exact mth_26
  | 27, _ => exact mth_27
  | 28, _ => exact mth_28
  | 29, _ => exact mth_29
  | 30, _ => exact mth_30
  | 31, _ => exact mth_31
  | 32, _ => exact mth_32
  | 33, _ => exact mth_33
  | 34, _ => exact mth_34
  | 35, _ => exact mth_35
  | 36, _ => exact mth_36
  | 37, _ => exact mth_37
  | 38, _ => exact mth_38
  | 39, _ => exact mth_39
  | 40, _ => exact mth_40
  | 41, _ => exact mth_41
  | 42, _ => exact mth_42
  | 43, _ => exact mth_43
  | 44, _ => exact mth_44
  | 45, _ => exact mth_45
  | 46, _ => exact mth_46
  | 47, _ => exact mth_47
  | 48, _ => exact mth_48
  | 49, _ => exact mth_49
  | 50, _ => exact mth_50
  | 51, _ => exact mth_51
  | 52, _ => exact mth_52
  | 53, _ => exact mth_53
  | 54, _ => exact mth_54
  | 55, _ => exact mth_55
  | 56, _ => exact mth_56
  | 57, _ => exact mth_57
  | 58, _ => exact mth_58
  | 59, _ => exact mth_59
  | 60, _ => exact mth_60
  | 61, _ => exact mth_61
  | 62, _ => exact mth_62
  | 63, _ => exact mth_63
  | 64, _ => exact mth_64
  | 65, _ => exact mth_65
  | 66, _ => exact mth_66
  | 67, _ => exact mth_67
  | 68, _ => exact mth_68
  | 69, _ => exact mth_69
  | 70, _ => exact mth_70
  | 71, _ => exact mth_71
  | 72, _ => exact mth_72
  | 73, _ => exact mth_73
  | 74, _ => exact mth_74
  | 75, _ => exact mth_75
  | 76, _ => exact mth_76
  | 77, _ => exact mth_77
  | 78, _ => exact mth_78
  | 79, _ => exact mth_79
  | 80, _ => exact mth_80
  | 81, _ => exact mth_81
  | 82, _ => exact mth_82
  | 83, _ => exact mth_83
  | 84, _ => exact mth_84
  | 85, _ => exact mth_85
  | 86, _ => exact mth_86
  | 87, _ => exact mth_87
  | 88, _ => exact mth_88
  | 89, _ => exact mth_89
  | 90, _ => exact mth_90
  | 91, _ => exact mth_91
  | 92, _ => exact mth_92
  | 93, _ => exact mth_93
  | 94, _ => exact mth_94
  | 95, _ => exact mth_95
  | 96, _ => exact mth_96
  | 97, _ => exact mth_97
  | 98, _ => exact mth_98
  | 99, _ => exact mth_99
  | 100, _ => exact mth_100
  | 101, _ => exact mth_101
  | 102, _ => exact mth_102
  | 103, _ => exact mth_103
  | 104, _ => exact mth_104
  | 105, _ => exact mth_105
  | 106, _ => exact mth_106
  | 107, _ => exact mth_107
  | 108, _ => exact mth_108
  | 109, _ => exact mth_109
  | 110, _ => exact mth_110
  | 111, _ => exact mth_111
  | 112, _ => exact mth_112
  | 113, _ => exact mth_113
  | 114, _ => exact mth_114
  | 115, _ => exact mth_115
  | 116, _ => exact mth_116
  | 117, _ => exact mth_117
  | 118, _ => exact mth_118
  | 119, _ => exact mth_119
  | 120, _ => exact mth_120
  | 121, _ => exact mth_121
  | 122, _ => exact mth_122
  | 123, _ => exact mth_123
  | 124, _ => exact mth_124
  | 125, _ => exact mth_125
  | 126, _ => exact mth_126
  | 127, _ => exact mth_127
  | 128, _ => exact mth_128
  | 129, _ => exact mth_129
  | 130, _ => exact mth_130
  | 131, _ => exact mth_131
  | 132, _ => exact mth_132
  | 133, _ => exact mth_133
  | 134, _ => exact mth_134
  | 135, _ => exact mth_135
  | 136, _ => exact mth_136
  | 137, _ => exact mth_137
  | 138, _ => exact mth_138
  | 139, _ => exact mth_139
  | 140, _ => exact mth_140
  | 141, _ => exact mth_141
  | 142, _ => exact mth_142
  | 143, _ => exact mth_143
  | 144, _ => exact mth_144
  | 145, _ => exact mth_145
  | 146, _ => exact mth_146
  | 147, _ => exact mth_147
  | 148, _ => exact mth_148
  | 149, _ => exact mth_149
  | 150, _ => exact mth_150
  | 151, _ => exact mth_151
  | 152, _ => exact mth_152
  | 153, _ => exact mth_153
  | 154, _ => exact mth_154
  | 155, _ => exact mth_155
  | 156, _ => exact mth_156
  | 157, _ => exact mth_157
  | 158, _ => exact mth_158
  | 159, _ => exact mth_159
  | 160, _ => exact mth_160
  | 161, _ => exact mth_161
  | 162, _ => exact mth_162
  | 163, _ => exact mth_163
  | 164, _ => exact mth_164
  | 165, _ => exact mth_165
  | 166, _ => exact mth_166
  | 167, _ => exact mth_167
  | 168, _ => exact mth_168
  | 169, _ => exact mth_169
  | 170, _ => exact mth_170
  | 171, _ => exact mth_171
  | 172, _ => exact mth_172
  | 173, _ => exact mth_173
  | 174, _ => exact mth_174
  | 175, _ => exact mth_175
  | 176, _ => exact mth_176
  | 177, _ => exact mth_177
  | 178, _ => exact mth_178
  | 179, _ => exact mth_179
  | 180, _ => exact mth_180
  | 181, _ => exact mth_181
  | 182, _ => exact mth_182
  | 183, _ => exact mth_183
  | 184, _ => exact mth_184
  | 185, _ => exact mth_185
  | 186, _ => exact mth_186
  | 187, _ => exact mth_187
  | 188, _ => exact mth_188
  | 189, _ => exact mth_189
  | 190, _ => exact mth_190
  | 191, _ => exact mth_191
  | 192, _ => exact mth_192
  | 193, _ => exact mth_193
  | 194, _ => exact mth_194
  | 195, _ => exact mth_195
  | 196, _ => exact mth_196
  | 197, _ => exact mth_197
  | 198, _ => exact mth_198
  | 199, _ => exact mth_199
  | 200, _ => exact mth_200
  | 201, _ => exact mth_201
  | 202, _ => exact mth_202
  | 203, _ => exact mth_203
  | 204, _ => exact mth_204
  | 205, _ => exact mth_205
  | 206, _ => exact mth_206
  | 207, _ => exact mth_207
  | 208, _ => exact mth_208
  | 209, _ => exact mth_209
  | 210, _ => exact mth_210
  | 211, _ => exact mth_211
  | 212, _ => exact mth_212
  | 213, _ => exact mth_213
  | 214, _ => exact mth_214
  | 215, _ => exact mth_215
  | 216, _ => exact mth_216
  | 217, _ => exact mth_217
  | 218, _ => exact mth_218
  | 219, _ => exact mth_219
  | 220, _ => exact mth_220
  | 221, _ => exact mth_221
  | 222, _ => exact mth_222
  | 223, _ => exact mth_223
  | 224, _ => exact mth_224
  | 225, _ => exact mth_225
  | 226, _ => exact mth_226
  | 227, _ => exact mth_227
  | 228, _ => exact mth_228
  | 229, _ => exact mth_229
  | 230, _ => exact mth_230
  | 231, _ => exact mth_231
  | 232, _ => exact mth_232
  | 233, _ => exact mth_233
  | 234, _ => exact mth_234
  | 235, _ => exact mth_235
  | 236, _ => exact absurd rfl h2
  | n + 237, h => exact absurd h (by omega)
/-- own class of the thrower is HexBroadsides: E, ik, is, ic, wide, text -/
def thrT : List (Nat × Nat × String × Nat × Nat × Nat × Bool × String) := [(83, 22, "java/lang/IllegalArgumentException", 60, 62, 64, false, "columns or rows out of range"), (84, 17, "java/lang/IllegalStateException", 86, 88, 90, false, "a ship is on the cell"), (85, 16, "java/lang/IllegalArgumentException", 60, 102, 64, false, "direction or strength out of range"), (86, 19, "java/lang/IllegalArgumentException", 60, 113, 64, false, "side or heading out of range"), (86, 67, "java/lang/IllegalArgumentException", 60, 115, 64, false, "hull, guns or crew out of range"), (86, 100, "java/lang/IllegalStateException", 86, 120, 90, false, "no room for the ship"), (87, 10, "java/lang/IllegalArgumentException", 60, 136, 64, false, "no such value"), (88, 15, "java/lang/IllegalArgumentException", 60, 144, 64, false, "no such value of a ship"), (92, 26, "java/lang/IllegalStateException", 86, 164, 90, false, "the ship cannot move ahead"), (93, 27, "java/lang/IllegalStateException", 86, 176, 90, false, "the ship cannot turn so"), (96, 17, "java/lang/IllegalArgumentException", 60, 196, 64, false, "no such aim"), (96, 66, "java/lang/IllegalStateException", 86, 202, 90, false, "the ship cannot fire so"), (97, 34, "java/lang/IllegalStateException", 86, 212, 90, false, "the ships cannot be grappled"), (98, 23, "java/lang/IllegalStateException", 86, 220, 90, false, "the ship is not grappled"), (99, 36, "java/lang/IllegalStateException", 86, 232, 90, false, "the ship cannot board now"), (104, 7, "java/lang/IllegalArgumentException", 60, 250, 64, false, "no such side"), (105, 10, "java/lang/IllegalArgumentException", 60, 257, 64, true, "no such byte"), (105, 31, "java/lang/IllegalStateException", 86, 263, 90, true, "the text is full"), (108, 10, "java/lang/IllegalStateException", 86, 284, 90, true, "no saved state"), (110, 11, "java/lang/IndexOutOfBoundsException", 299, 301, 303, true, "no such cell"), (111, 11, "java/lang/IndexOutOfBoundsException", 299, 304, 303, true, "no such ship"), (112, 15, "java/lang/IllegalArgumentException", 60, 306, 64, true, "both ships are the same")]
def exN : List String := ["java/lang/RuntimeException", "java/lang/Exception"]
def thrP (e : Nat × Nat × String × Nat × Nat × Nat × Bool × String) : Prop := match e with
  | (m, pc, E, ik, is, ic, wide, tx) => ownN (mOwn m) = RX8 ∧ Bundle.fit E = true ∧ Cond.classLink RX8 ik E ∈ Wg ∧ Cond.initialized E ∈ Wg ∧ Cond.stringRef RX8 is tx ∈ lw_tbl ∧ (∀ w ∈ vx_atS RX8 ic E exN, w ∈ lw_tbl ∧ vx_ot w = true) ∧ lk (cdOf m) pc = some (.new ik, 3) ∧ lk (cdOf m) (pc + 3) = some (.dup, 1) ∧ (match wide with
    | false => lk (cdOf m) (pc + 4) = some (.ldc is, 2) ∧ lk (cdOf m) (pc + 6) = some (.invokespecial ic, 3) ∧ lk (cdOf m) (pc + 9) = some (.athrow, 1)
    | true => lk (cdOf m) (pc + 4) = some (.ldc_w is, 3) ∧ lk (cdOf m) (pc + 7) = some (.invokespecial ic, 3) ∧ lk (cdOf m) (pc + 10) = some (.athrow, 1)) ∧ (mHh m) = []
theorem exN_ok : ∀ n ∈ exN, Bundle.fit n = true := by decide +kernel
theorem exw_0 : ∀ w ∈ vx_atS RX8 64 "java/lang/IllegalArgumentException" exN, w ∈ lw_tbl ∧ vx_ot w = true := by
  have h : (vx_atS RX8 64 "java/lang/IllegalArgumentException" exN).all (fun w => decide (w ∈ lw_tbl) && vx_ot w) = true := by decide +kernel
  intro w hw
  have h1 := List.all_eq_true.mp h w hw
  simp only [Bool.and_eq_true, decide_eq_true_eq] at h1
  exact h1
theorem exw_1 : ∀ w ∈ vx_atS RX8 90 "java/lang/IllegalStateException" exN, w ∈ lw_tbl ∧ vx_ot w = true := by
  have h : (vx_atS RX8 90 "java/lang/IllegalStateException" exN).all (fun w => decide (w ∈ lw_tbl) && vx_ot w) = true := by decide +kernel
  intro w hw
  have h1 := List.all_eq_true.mp h w hw
  simp only [Bool.and_eq_true, decide_eq_true_eq] at h1
  exact h1
theorem exw_2 : ∀ w ∈ vx_atS RX8 303 "java/lang/IndexOutOfBoundsException" exN, w ∈ lw_tbl ∧ vx_ot w = true := by
  have h : (vx_atS RX8 303 "java/lang/IndexOutOfBoundsException" exN).all (fun w => decide (w ∈ lw_tbl) && vx_ot w) = true := by decide +kernel
  intro w hw
  have h1 := List.all_eq_true.mp h w hw
  simp only [Bool.and_eq_true, decide_eq_true_eq] at h1
  exact h1
set_option maxRecDepth 100000 in
theorem thr_ok : ∀ e ∈ thrT, thrP e := by
  unfold thrT
  exact List.forall_mem_cons.mpr ⟨⟨(by decide +kernel), (by decide +kernel), wgm 517 (by decide +kernel) (by decide +kernel), wgm 15 (by decide +kernel) (by decide +kernel), List.mem_append_right _ (List.mem_of_getElem? (i := 558) (by decide +kernel)), exw_0, rfl, rfl, ⟨rfl, rfl, rfl⟩, rfl⟩, List.forall_mem_cons.mpr ⟨⟨(by decide +kernel), (by decide +kernel), wgm 617 (by decide +kernel) (by decide +kernel), wgm 18 (by decide +kernel) (by decide +kernel), List.mem_append_right _ (List.mem_of_getElem? (i := 626) (by decide +kernel)), exw_1, rfl, rfl, ⟨rfl, rfl, rfl⟩, rfl⟩, List.forall_mem_cons.mpr ⟨⟨(by decide +kernel), (by decide +kernel), wgm 517 (by decide +kernel) (by decide +kernel), wgm 15 (by decide +kernel) (by decide +kernel), List.mem_append_right _ (List.mem_of_getElem? (i := 648) (by decide +kernel)), exw_0, rfl, rfl, ⟨rfl, rfl, rfl⟩, rfl⟩, List.forall_mem_cons.mpr ⟨⟨(by decide +kernel), (by decide +kernel), wgm 517 (by decide +kernel) (by decide +kernel), wgm 15 (by decide +kernel) (by decide +kernel), List.mem_append_right _ (List.mem_of_getElem? (i := 659) (by decide +kernel)), exw_0, rfl, rfl, ⟨rfl, rfl, rfl⟩, rfl⟩, List.forall_mem_cons.mpr ⟨⟨(by decide +kernel), (by decide +kernel), wgm 517 (by decide +kernel) (by decide +kernel), wgm 15 (by decide +kernel) (by decide +kernel), List.mem_append_right _ (List.mem_of_getElem? (i := 660) (by decide +kernel)), exw_0, rfl, rfl, ⟨rfl, rfl, rfl⟩, rfl⟩, List.forall_mem_cons.mpr ⟨⟨(by decide +kernel), (by decide +kernel), wgm 617 (by decide +kernel) (by decide +kernel), wgm 18 (by decide +kernel) (by decide +kernel), List.mem_append_right _ (List.mem_of_getElem? (i := 662) (by decide +kernel)), exw_1, rfl, rfl, ⟨rfl, rfl, rfl⟩, rfl⟩, List.forall_mem_cons.mpr ⟨⟨(by decide +kernel), (by decide +kernel), wgm 517 (by decide +kernel) (by decide +kernel), wgm 15 (by decide +kernel) (by decide +kernel), List.mem_append_right _ (List.mem_of_getElem? (i := 675) (by decide +kernel)), exw_0, rfl, rfl, ⟨rfl, rfl, rfl⟩, rfl⟩, List.forall_mem_cons.mpr ⟨⟨(by decide +kernel), (by decide +kernel), wgm 517 (by decide +kernel) (by decide +kernel), wgm 15 (by decide +kernel) (by decide +kernel), List.mem_append_right _ (List.mem_of_getElem? (i := 689) (by decide +kernel)), exw_0, rfl, rfl, ⟨rfl, rfl, rfl⟩, rfl⟩, List.forall_mem_cons.mpr ⟨⟨(by decide +kernel), (by decide +kernel), wgm 617 (by decide +kernel) (by decide +kernel), wgm 18 (by decide +kernel) (by decide +kernel), List.mem_append_right _ (List.mem_of_getElem? (i := 734) (by decide +kernel)), exw_1, rfl, rfl, ⟨rfl, rfl, rfl⟩, rfl⟩, List.forall_mem_cons.mpr ⟨⟨(by decide +kernel), (by decide +kernel), wgm 617 (by decide +kernel) (by decide +kernel), wgm 18 (by decide +kernel) (by decide +kernel), List.mem_append_right _ (List.mem_of_getElem? (i := 744) (by decide +kernel)), exw_1, rfl, rfl, ⟨rfl, rfl, rfl⟩, rfl⟩, List.forall_mem_cons.mpr ⟨⟨(by decide +kernel), (by decide +kernel), wgm 517 (by decide +kernel) (by decide +kernel), wgm 15 (by decide +kernel) (by decide +kernel), List.mem_append_right _ (List.mem_of_getElem? (i := 790) (by decide +kernel)), exw_0, rfl, rfl, ⟨rfl, rfl, rfl⟩, rfl⟩, List.forall_mem_cons.mpr ⟨⟨(by decide +kernel), (by decide +kernel), wgm 617 (by decide +kernel) (by decide +kernel), wgm 18 (by decide +kernel) (by decide +kernel), List.mem_append_right _ (List.mem_of_getElem? (i := 800) (by decide +kernel)), exw_1, rfl, rfl, ⟨rfl, rfl, rfl⟩, rfl⟩, List.forall_mem_cons.mpr ⟨⟨(by decide +kernel), (by decide +kernel), wgm 617 (by decide +kernel) (by decide +kernel), wgm 18 (by decide +kernel) (by decide +kernel), List.mem_append_right _ (List.mem_of_getElem? (i := 834) (by decide +kernel)), exw_1, rfl, rfl, ⟨rfl, rfl, rfl⟩, rfl⟩, List.forall_mem_cons.mpr ⟨⟨(by decide +kernel), (by decide +kernel), wgm 617 (by decide +kernel) (by decide +kernel), wgm 18 (by decide +kernel) (by decide +kernel), List.mem_append_right _ (List.mem_of_getElem? (i := 847) (by decide +kernel)), exw_1, rfl, rfl, ⟨rfl, rfl, rfl⟩, rfl⟩, List.forall_mem_cons.mpr ⟨⟨(by decide +kernel), (by decide +kernel), wgm 617 (by decide +kernel) (by decide +kernel), wgm 18 (by decide +kernel) (by decide +kernel), List.mem_append_right _ (List.mem_of_getElem? (i := 856) (by decide +kernel)), exw_1, rfl, rfl, ⟨rfl, rfl, rfl⟩, rfl⟩, List.forall_mem_cons.mpr ⟨⟨(by decide +kernel), (by decide +kernel), wgm 517 (by decide +kernel) (by decide +kernel), wgm 15 (by decide +kernel) (by decide +kernel), List.mem_append_right _ (List.mem_of_getElem? (i := 915) (by decide +kernel)), exw_0, rfl, rfl, ⟨rfl, rfl, rfl⟩, rfl⟩, List.forall_mem_cons.mpr ⟨⟨(by decide +kernel), (by decide +kernel), wgm 517 (by decide +kernel) (by decide +kernel), wgm 15 (by decide +kernel) (by decide +kernel), List.mem_append_right _ (List.mem_of_getElem? (i := 928) (by decide +kernel)), exw_0, rfl, rfl, ⟨rfl, rfl, rfl⟩, rfl⟩, List.forall_mem_cons.mpr ⟨⟨(by decide +kernel), (by decide +kernel), wgm 617 (by decide +kernel) (by decide +kernel), wgm 18 (by decide +kernel) (by decide +kernel), List.mem_append_right _ (List.mem_of_getElem? (i := 933) (by decide +kernel)), exw_1, rfl, rfl, ⟨rfl, rfl, rfl⟩, rfl⟩, List.forall_mem_cons.mpr ⟨⟨(by decide +kernel), (by decide +kernel), wgm 617 (by decide +kernel) (by decide +kernel), wgm 18 (by decide +kernel) (by decide +kernel), List.mem_append_right _ (List.mem_of_getElem? (i := 945) (by decide +kernel)), exw_1, rfl, rfl, ⟨rfl, rfl, rfl⟩, rfl⟩, List.forall_mem_cons.mpr ⟨⟨(by decide +kernel), (by decide +kernel), wgm 600 (by decide +kernel) (by decide +kernel), wgm 17 (by decide +kernel) (by decide +kernel), List.mem_append_right _ (List.mem_of_getElem? (i := 609) (by decide +kernel)), exw_2, rfl, rfl, ⟨rfl, rfl, rfl⟩, rfl⟩, List.forall_mem_cons.mpr ⟨⟨(by decide +kernel), (by decide +kernel), wgm 600 (by decide +kernel) (by decide +kernel), wgm 17 (by decide +kernel) (by decide +kernel), List.mem_append_right _ (List.mem_of_getElem? (i := 688) (by decide +kernel)), exw_2, rfl, rfl, ⟨rfl, rfl, rfl⟩, rfl⟩, List.forall_mem_cons.mpr ⟨⟨(by decide +kernel), (by decide +kernel), wgm 517 (by decide +kernel) (by decide +kernel), wgm 15 (by decide +kernel) (by decide +kernel), List.mem_append_right _ (List.mem_of_getElem? (i := 757) (by decide +kernel)), exw_0, rfl, rfl, ⟨rfl, rfl, rfl⟩, rfl⟩, fun _ h => absurd h List.not_mem_nil⟩⟩⟩⟩⟩⟩⟩⟩⟩⟩⟩⟩⟩⟩⟩⟩⟩⟩⟩⟩⟩⟩
def staT : List (Nat × Nat × Nat) := [(6, 91, 1), (6, 97, 2)]
def staN (a : Nat) : String := if a = 1 then "ROW_STEP" else "COLUMN_STEP"
def staP (e : Nat × Nat × Nat) : Prop := Cond.fieldLink (ownN e.1) e.2.1 RX6 (staN e.2.2) "[I" ∈ Wg ∧ (e.2.2 = 1 ∨ e.2.2 = 2)
set_option maxRecDepth 100000 in
theorem sta_ok : ∀ e ∈ staT, staP e := by
  unfold staT
  exact List.forall_mem_cons.mpr ⟨⟨wgm 332 (by decide +kernel) (by decide +kernel), (by decide +kernel)⟩, List.forall_mem_cons.mpr ⟨⟨wgm 338 (by decide +kernel) (by decide +kernel), (by decide +kernel)⟩, fun _ h => absurd h List.not_mem_nil⟩⟩
def tyO (t : Nat) : FieldType := match t with | 0 => .int | 1 => .object RX7 | 2 => .object RX6 | 3 => .long | _ => .double
def arrT : List (Nat × Nat × Nat) := [(4, 9, 2), (6, 15, 1)]
def arN (t : Nat) : String := if t = 1 then RX7 else RX6
def arrP (e : Nat × Nat × Nat) : Prop := Cond.classLink (ownN e.1) e.2.1 (arN e.2.2) ∈ Wg ∧ Cond.arrayOver (.object (arN e.2.2)) ∈ lw_tbl ∧ (e.2.2 = 1 ∨ e.2.2 = 2)
set_option maxRecDepth 100000 in
theorem arr_ok : ∀ e ∈ arrT, arrP e := by
  unfold arrT
  exact List.forall_mem_cons.mpr ⟨⟨wgm 176 (by decide +kernel) (by decide +kernel), List.mem_append_right _ (List.mem_of_getElem? (i := 177) (by decide +kernel)), (by decide +kernel)⟩, List.forall_mem_cons.mpr ⟨⟨wgm 34 (by decide +kernel) (by decide +kernel), List.mem_append_right _ (List.mem_of_getElem? (i := 35) (by decide +kernel)), (by decide +kernel)⟩, fun _ h => absurd h List.not_mem_nil⟩⟩
set_option maxRecDepth 100000 in
theorem w_init : Cond.instanceMethod Lib.objectInit ∈ Wg ∧ Cond.code Lib.objectInit ⟨#[0xb1]⟩ 1 none ∈ Wg := ⟨wgm 26 (by decide +kernel) (by decide +kernel), wgm 27 rfl (by decide +kernel)⟩
theorem w_copy : Cond.native arraycopyName ∈ Wg ∧ Cond.static arraycopyName ∈ Wg ∧ Cond.initialized "java/lang/System" ∈ Wg := ⟨wgm 296 (by decide +kernel) (by decide +kernel), wgm 295 (by decide +kernel) (by decide +kernel), wgm 16 (by decide +kernel) (by decide +kernel)⟩
theorem w_arr : Cond.arrayClass .int ∈ lw_tbl ∧ Cond.arrayClass .long ∈ lw_tbl ∧ Cond.arrayClass .double ∈ lw_tbl := ⟨List.mem_append_right _ (List.mem_of_getElem? (i := 126) (by decide +kernel)), List.mem_append_right _ (List.mem_of_getElem? (i := 1354) (by decide +kernel)), List.mem_append_right _ (List.mem_of_getElem? (i := 1355) (by decide +kernel))⟩
end
section
/-! THE INTERPRETER: a small machine over ids in place of addresses; its runs are tied to the Statement's machine once, in part 07 -/
abbrev Lo := List (Option Value)
/-- next id, cells made, slots made, what each id holds -/
abbrev Hp := Nat × Nat × Nat × (Nat → va_E)
abbrev Ot := (Option Value ⊕ String) × Hp
abbrev Ac := (Nat × Lo × List Value × Hp) ⊕ (Ot ⊕ (Nat × List Value × Nat × Lo × List Value × Hp))
def lget (L : Lo) (k : Nat) : Option Value := match L[k]? with | some (some v) => some v | _ => none
def ck : Option Value → Option Value
  | some (.long _) => none
  | some (.double _) => none
  | x => x
def lst1 : Nat → Lo → Value → Lo
  | _, [], _ => []
  | 0, _ :: L, v => some v :: L
  | k + 1, x :: L, v => (match k with | 0 => ck x | _ => x) :: lst1 k L v
def lst2 : Nat → Lo → Value → Lo
  | _, [], _ => []
  | _, [x], _ => [none]
  | 0, _ :: _ :: L, v => some v :: none :: L
  | k + 1, x :: y :: L, v => (match k with | 0 => ck x | _ => x) :: lst2 k (y :: L) v
def argL : List Value → Lo
  | [] => []
  | v :: vs => if v.category = 2 then some v :: none :: argL vs else some v :: argL vs
def entL (m : Nat) (vs : List Value) : Lo := argL vs ++ List.replicate (mMax m - (argL vs).length) none
def hset (h : Hp) (a : Nat) (e : va_E) : Hp := (h.1, h.2.1, h.2.2.1, fun j => if j = a then e else h.2.2.2 j)
def hnew (h : Hp) (e : va_E) (k : Nat) : Hp := (h.1 + 1, h.2.1 + 1, h.2.2.1 + k, fun j => if j = h.1 then e else h.2.2.2 j)
def hbump (h : Hp) : Hp := (h.1, h.2.1 + 1, h.2.2.1 + 6, h.2.2.2)
/-- a field of an object of class ci -/
def gf (h : Hp) (ci k a : Nat) : Option Value := match h.2.2.2 a with
  | .inr (c, fs) => if c = ci then fs[k]? else none
  | .inl _ => none
def fitV (ty : FieldType) (v : Value) : Bool := decide (narrow ty v = v) && fits ty v
def pf (h : Hp) (ci k a : Nat) (v : Value) : Option Hp := match h.2.2.2 a with
  | .inr (c, fs) => if c = ci ∧ k < fs.length ∧ fitV (yC ci k) v = true then some (hset h a (.inr (c, fs.set k v))) else none
  | .inl _ => none
def isO (h : Hp) (a ci : Nat) : Bool := match h.2.2.2 a with
  | .inr (c, _) => decide (c = ci)
  | .inl _ => false
def inB (i : Int32) (n : Nat) : Bool := !(decide (i < 0) || decide (n ≤ i.toNatClampNeg))
def gaI (h : Hp) (a : Nat) (i : Int32) : Option Int32 := match h.2.2.2 a with
  | .inl (t, n, .inl f) => if t = 0 ∧ inB i n = true then some (f i.toNatClampNeg) else none
  | _ => none
def paI (h : Hp) (a : Nat) (i : Int32) (x : Int32) : Option Hp := match h.2.2.2 a with
  | .inl (t, n, .inl f) => if t = 0 ∧ inB i n = true ∧ 3 ≤ a then some (hset h a (.inl (t, n, .inl (upd f i.toNatClampNeg x)))) else none
  | _ => none
def gaJ (h : Hp) (a : Nat) (i : Int32) : Option Int64 := match h.2.2.2 a with
  | .inl (t, n, .inr (.inl f)) => if t = 3 ∧ inB i n = true then some (f i.toNatClampNeg) else none
  | _ => none
def paJ (h : Hp) (a : Nat) (i : Int32) (x : Int64) : Option Hp := match h.2.2.2 a with
  | .inl (t, n, .inr (.inl f)) => if t = 3 ∧ inB i n = true then some (hset h a (.inl (t, n, .inr (.inl (vp_updL f i.toNatClampNeg x))))) else none
  | _ => none
def gaD (h : Hp) (a : Nat) (i : Int32) : Option UInt64 := match h.2.2.2 a with
  | .inl (t, n, .inr (.inr (.inr (.inl f)))) => if t = 4 ∧ inB i n = true then some (f i.toNatClampNeg) else none
  | _ => none
def paD (h : Hp) (a : Nat) (i : Int32) (x : UInt64) : Option Hp := match h.2.2.2 a with
  | .inl (t, n, .inr (.inr (.inr (.inl f)))) => if t = 4 ∧ inB i n = true then some (hset h a (.inl (t, n, .inr (.inr (.inr (.inl (vf_upd f i.toNatClampNeg x))))))) else none
  | _ => none
def gaR (h : Hp) (a : Nat) (i : Int32) : Option (Option Nat) := match h.2.2.2 a with
  | .inl (t, n, .inr (.inr (.inr (.inr f)))) => if (t = 1 ∨ t = 2) ∧ inB i n = true then some (f i.toNatClampNeg) else none
  | _ => none
/-- the class of the elements of an array of references -/
def elC (t : Nat) : Nat := if t = 1 then 7 else 6
def paR (h : Hp) (a : Nat) (i : Int32) (v : Nat) : Option Hp := match h.2.2.2 a with
  | .inl (t, n, .inr (.inr (.inr (.inr f)))) => if (t = 1 ∨ t = 2) ∧ inB i n = true ∧ isO h v (elC t) = true then some (hset h a (.inl (t, n, .inr (.inr (.inr (.inr (va_up f i.toNatClampNeg (some v)))))))) else none
  | _ => none
def alen (h : Hp) (a : Nat) : Option Nat := match h.2.2.2 a with
  | .inl (_, n, _) => some n
  | _ => none
def blank0 (t N : Nat) : va_E := match t with
  | 0 => .inl (0, N, .inl (fun _ => 0))
  | 3 => .inl (3, N, .inr (.inl (fun _ => 0)))
  | 4 => .inl (4, N, .inr (.inr (.inr (.inl (fun _ => 0)))))
  | t => .inl (t, N, .inr (.inr (.inr (.inr (fun _ => none)))))
def tyA : ArrayType → Option Nat
  | .int => some 0
  | .long => some 3
  | .double => some 4
  | _ => none
def blankO (ci : Nat) : va_E := .inr (ci, (List.range (NC ci)).map (fun k => defaultValue (yC ci k)))
/-- System.arraycopy of rows of ints, whole places -/
def cpI (h : Hp) (a0 : Nat) (sp : Int32) (a1 : Nat) (dp n : Int32) : Option Hp := match h.2.2.2 a0, h.2.2.2 a1 with
  | .inl (t0, n0, .inl f), .inl (t1, n1, .inl g) => if (t0 = 0 ∧ t1 = 0 ∧ 3 ≤ a0 ∧ 3 ≤ a1) ∧ (¬ sp < 0 ∧ ¬ dp < 0 ∧ ¬ n < 0) ∧ sp.toNatClampNeg + n.toNatClampNeg ≤ n0 ∧ dp.toNatClampNeg + n.toNatClampNeg ≤ n1 then some (hset h a1 (.inl (t1, n1, .inl (va_cpy f g sp.toNatClampNeg dp.toNatClampNeg n.toNatClampNeg)))) else none
  | _, _ => none
def go (pc : Nat) (L : Lo) (S : List Value) (h : Hp) : Option Ac := some (.inl (pc, L, S, h))
def tg (pc : Nat) (off : Int) : Option Nat := match (pc : Int) + off with
  | .ofNat t => some t
  | .negSucc _ => none
def br (c : Prop) [Decidable c] (pc : Nat) (off : Int) (L : Lo) (S : List Value) (h : Hp) : Option Ac := (tg pc off).bind fun t => if c then go t L S h else go (pc + 3) L S h
def cnd (op : ClassFile.Cond) (x y : Int32) : Bool := match op with
  | .eq => decide (x = y)
  | .ne => !decide (x = y)
  | .lt => decide (x < y)
  | .ge => decide (y ≤ x)
  | .gt => decide (y < x)
  | .le => decide (x ≤ y)
def csum (S : List Value) : Nat := (S.map fun v => v.category).sum
def isInit (m : Nat) : Bool := decide ((mY m).name = "<init>")
def finF (ci k : Nat) : Bool := (TC ci k).2.2.2
def call (m pc : Nat) (kind c : Nat) (L : Lo) (S : List Value) (h : Hp) : Option Ac :=
  if mF c + 1 ≤ mF m ∧ 19 + mMax c + mL c ≤ mL m ∧ mNa c ≤ S.length ∧ csum (S.drop (mNa c)) ≤ 8 ∧ (argL (S.take (mNa c)).reverse).length ≤ mMax c then
    match kind, (S.take (mNa c)).reverse with
    | 0, .ref b :: As => if isO h b (mOwn c) = true then some (.inr (.inr (c, .ref b :: As, pc + 3, L, S.drop (mNa c), h))) else none
    | 1, As => some (.inr (.inr (c, As, pc + 3, L, S.drop (mNa c), h)))
    | 2, .ref b :: As => some (.inr (.inr (c, .ref b :: As, pc + 3, L, S.drop (mNa c), h)))
    | 3, .ref b :: As => some (.inr (.inr (c, .ref b :: As, pc + 3, L, S.drop (mNa c), h)))
    | _, _ => none
  else none
def thrL : List (Nat × Nat × String × Nat × Nat × Nat × Bool × String) → Nat → Nat → Option (String × Nat × Nat × Nat × Bool × String)
  | [], _, _ => none
  | e :: l, m, pc => if e.1 = m ∧ e.2.1 = pc then some e.2.2 else thrL l m pc
def swi (m pc : Nat) (i : Instr) (x : Int32) (L : Lo) (S : List Value) (h : Hp) : Option Ac := match i with
  | .tableswitch d lo hi offs => if x.toInt < lo ∨ hi < x.toInt then (tg pc d).bind fun t => go t L S h else (offs[(x.toInt - lo).toNat]?).bind fun o => (tg pc o).bind fun t => go t L S h
  | .lookupswitch d ps => if (ps.toList.zip (ps.toList.drop 1)).all (fun (a, next) => a.1 < next.1) = true then (tg pc (Op.lookupswitch.offset ps.toList d x.toInt)).bind fun t => go t L S h else none
  | _ => none
/-- what one instruction does -/
def ins (m pc n : Nat) (i : Instr) (L : Lo) (S : List Value) (h : Hp) : Option Ac := match i with
  | .aload k => match lget L k with | some (.ref a) => go (pc + 2) L (.ref a :: S) h | _ => none
  | .aload_n k => match lget L k.val with | some (.ref a) => go (pc + 1) L (.ref a :: S) h | _ => none
  | .iload k => match lget L k with | some (.int a) => go (pc + 2) L (.int a :: S) h | _ => none
  | .iload_n k => match lget L k.val with | some (.int a) => go (pc + 1) L (.int a :: S) h | _ => none
  | .lload_n k => match lget L k.val with | some (.long a) => go (pc + 1) L (.long a :: S) h | _ => none
  | .dload k => match lget L k with | some (.double a) => go (pc + 2) L (.double a :: S) h | _ => none
  | .istore k => match S with | .int x :: S => if k < L.length then go (pc + 2) (lst1 k L (.int x)) S h else none | _ => none
  | .istore_n k => match S with | .int x :: S => if k.val < L.length then go (pc + 1) (lst1 k.val L (.int x)) S h else none | _ => none
  | .astore k => match S with | .ref x :: S => if k < L.length then go (pc + 2) (lst1 k L (.ref x)) S h else none | _ => none
  | .astore_n k => match S with | .ref x :: S => if k.val < L.length then go (pc + 1) (lst1 k.val L (.ref x)) S h else none | _ => none
  | .lstore_n k => match S with | .long x :: S => if k.val + 1 < L.length then go (pc + 1) (lst2 k.val L (.long x)) S h else none | _ => none
  | .dstore k => match S with | .double x :: S => if k + 1 < L.length then go (pc + 2) (lst2 k L (.double x)) S h else none | _ => none
  | .iinc k d => match lget L k with | some (.int x) => go (pc + 3) (L.set k (some (.int (x + Int32.ofInt d)))) S h | _ => none
  | .iconst d => go (pc + 1) L (.int (Int32.ofInt d) :: S) h
  | .bipush d => go (pc + 2) L (.int (Int8.ofInt d).toInt32 :: S) h
  | .sipush d => go (pc + 3) L (.int (Int16.ofInt d).toInt32 :: S) h
  | .dconst d => if d = 0 then go (pc + 1) L (.double FP.dconst0 :: S) h else none
  | .ldc2_w k => match lk2 conT (mOwn m) k with | some (.long v) => go (pc + 3) L (.long v :: S) h | some (.double v) => go (pc + 3) L (.double v :: S) h | _ => none
  | .dup => match S with | v :: S => if v.category = 1 then go (pc + 1) L (v :: v :: S) h else none | _ => none
  | .dup2 => match S with | v :: w :: S => if v.category = 1 ∧ w.category = 1 then go (pc + 1) L (v :: w :: v :: w :: S) h else none | _ => none
  | .pop => match S with | v :: S => if v.category = 1 then go (pc + 1) L S h else none | _ => none
  | .iadd => match S with | .int y :: .int x :: S => go (pc + 1) L (.int (x + y) :: S) h | _ => none
  | .isub => match S with | .int y :: .int x :: S => go (pc + 1) L (.int (x - y) :: S) h | _ => none
  | .imul => match S with | .int y :: .int x :: S => go (pc + 1) L (.int (x * y) :: S) h | _ => none
  | .idiv => match S with | .int y :: .int x :: S => if y = 0 then none else go (pc + 1) L (.int (x / y) :: S) h | _ => none
  | .irem => match S with | .int y :: .int x :: S => if y = 0 then none else go (pc + 1) L (.int (x - x / y * y) :: S) h | _ => none
  | .ineg => match S with | .int x :: S => go (pc + 1) L (.int (-x) :: S) h | _ => none
  | .iand => match S with | .int y :: .int x :: S => go (pc + 1) L (.int (x &&& y) :: S) h | _ => none
  | .ior => match S with | .int y :: .int x :: S => go (pc + 1) L (.int (x ||| y) :: S) h | _ => none
  | .ixor => match S with | .int y :: .int x :: S => go (pc + 1) L (.int (x ^^^ y) :: S) h | _ => none
  | .ishl => match S with | .int y :: .int x :: S => go (pc + 1) L (.int (x <<< (y &&& 31)) :: S) h | _ => none
  | .ladd => match S with | .long y :: .long x :: S => go (pc + 1) L (.long (x + y) :: S) h | _ => none
  | .lmul => match S with | .long y :: .long x :: S => go (pc + 1) L (.long (x * y) :: S) h | _ => none
  | .i2l => match S with | .int x :: S => go (pc + 1) L (.long x.toInt64 :: S) h | _ => none
  | .i2d => match S with | .int x :: S => go (pc + 1) L (.double (FP.i2d x) :: S) h | _ => none
  | .ddiv => match S with | .double y :: .double x :: S => if (FP.ddiv x y) &&& 0x7fffffffffffffff ≤ 0x7ff0000000000000 then go (pc + 1) L (.double (FP.ddiv x y) :: S) h else none | _ => none
  | .lcmp => match S with | .long y :: .long x :: S => go (pc + 1) L (.int (lg_cmp x y) :: S) h | _ => none
  | .dcmp op => match S with | .double y :: .double x :: S => go (pc + 1) L (.int (Op.cmpValue (FP.dcmp x y) op) :: S) h | _ => none
  | .ifCond op off => match S with | .int x :: S => br (cnd op x 0 = true) pc off L S h | _ => none
  | .if_icmp op off => match S with | .int y :: .int x :: S => br (cnd op x y = true) pc off L S h | _ => none
  | .goto off => (tg pc off).bind fun t => go t L S h
  | .tableswitch _ _ _ _ => match S with | .int x :: S => swi m pc i x L S h | _ => none
  | .lookupswitch _ _ => match S with | .int x :: S => swi m pc i x L S h | _ => none
  | .getfield k => match S with | .ref a :: S => (lk2 fldT (mOwn m) k).bind fun r => (gf h r.1 r.2 a).bind fun v => go (pc + 3) L (v :: S) h | _ => none
  | .putfield k => match S with | v :: .ref a :: S => (lk2 fldT (mOwn m) k).bind fun r => if finF r.1 r.2 = false ∨ (isInit m = true ∧ (TC r.1 r.2).1 = ownN (mOwn m)) then (pf h r.1 r.2 a v).bind fun h1 => go (pc + 3) L S h1 else none | _ => none
  | .getstatic k => (lk2 staT (mOwn m) k).bind fun a => go (pc + 3) L (.ref a :: S) h
  | .iaload => match S with | .int j :: .ref a :: S => (gaI h a j).bind fun v => go (pc + 1) L (.int v :: S) h | _ => none
  | .iastore => match S with | .int x :: .int j :: .ref a :: S => (paI h a j x).bind fun h1 => go (pc + 1) L S h1 | _ => none
  | .laload => match S with | .int j :: .ref a :: S => (gaJ h a j).bind fun v => go (pc + 1) L (.long v :: S) h | _ => none
  | .lastore => match S with | .long x :: .int j :: .ref a :: S => (paJ h a j x).bind fun h1 => go (pc + 1) L S h1 | _ => none
  | .daload => match S with | .int j :: .ref a :: S => (gaD h a j).bind fun v => go (pc + 1) L (.double v :: S) h | _ => none
  | .dastore => match S with | .double x :: .int j :: .ref a :: S => (paD h a j x).bind fun h1 => go (pc + 1) L S h1 | _ => none
  | .aaload => match S with | .int j :: .ref a :: S => (gaR h a j).bind fun v => go (pc + 1) L (va_rf v :: S) h | _ => none
  | .aastore => match S with | .ref x :: .int j :: .ref a :: S => (paR h a j x).bind fun h1 => go (pc + 1) L S h1 | _ => none
  | .arraylength => match S with | .ref a :: S => (alen h a).bind fun N => go (pc + 1) L (.int (Int32.ofNat N) :: S) h | _ => none
  | .newarray t => match S with | .int N :: S => (tyA t).bind fun k => if ¬ N < 0 ∧ N.toNatClampNeg ≤ 60000 then go (pc + 2) L (.ref h.1 :: S) (hnew h (blank0 k N.toNatClampNeg) N.toNatClampNeg) else none | _ => none
  | .anewarray k => match S with | .int N :: S => (lk2 arrT (mOwn m) k).bind fun t => if ¬ N < 0 ∧ N.toNatClampNeg ≤ 60000 then go (pc + 3) L (.ref h.1 :: S) (hnew h (blank0 t N.toNatClampNeg) N.toNatClampNeg) else none | _ => none
  | .new k => match lk2 clnT (mOwn m) k with
    | some ci => go (pc + 3) L (.ref h.1 :: S) (hnew h (blankO ci) (NC ci))
    | none => match thrL thrT m pc with
      | some r => if csum S = 0 ∧ 6 ≤ mF m ∧ 82 ≤ mL m then some (.inr (.inl (.inr r.1, hbump h))) else none
      | none => none
  | .invokevirtual k => (lk2 calT (mOwn m) k).bind fun r => if r.1 = 0 then call m pc 0 r.2 L S h else none
  | .invokestatic k => (lk2 calT (mOwn m) k).bind fun r => if r.1 = 1 then call m pc 1 r.2 L S h else if r.1 = 8 then (match S with
      | .int z :: .int dp :: .ref a1 :: .int sp :: .ref a0 :: S => if 1 ≤ mF m ∧ csum S + 18 ≤ mL m then (cpI h a0 sp a1 dp z).bind fun h1 => go (pc + 3) L S h1 else none
      | _ => none) else none
  | .invokespecial k => (lk2 calT (mOwn m) k).bind fun r => if r.1 = 2 ∨ r.1 = 3 then call m pc r.1 r.2 L S h else if r.1 = 9 then (match S with
      | .ref _ :: S => if 1 ≤ mF m ∧ csum S + 12 ≤ mL m then go (pc + 3) L S h else none
      | _ => none) else none
  | .ireturn => match S with | [.int x] => (mRet m).bind fun ty => if narrow ty (.int x) = .int x then some (.inr (.inl (.inl (some (.int x)), h))) else none | _ => none
  | .lreturn => match S with | [.long x] => if mRet m = some .long then some (.inr (.inl (.inl (some (.long x)), h))) else none | _ => none
  | .dreturn => match S with | [.double x] => if mRet m = some .double then some (.inr (.inl (.inl (some (.double x)), h))) else none | _ => none
  | .return_ => match S with | [] => if mRet m = none then some (.inr (.inl (.inl none, h))) else none | _ => none
  | _ => none
def stp (m pc : Nat) (L : Lo) (S : List Value) (h : Hp) : Option Ac := (lk (cdOf m) pc).bind fun r => ins m pc r.2 r.1 L S h
/-- where an exception thrown by a call at pc is caught: the row of the table, the handler's place behind its astore -/
def catN (k : Nat) : String := if k = 13 then "java/lang/IllegalArgumentException" else if k = 19 then "java/lang/IndexOutOfBoundsException" else if k = 21 then "java/lang/IllegalStateException" else ""
def hnd : List (Nat × Nat × Nat × Nat) → Nat → String → Option Nat
  | [], _, _ => none
  | e :: l, pc, E => if e.1 ≤ pc ∧ pc < e.2.1 ∧ catN e.2.2.2 = E then some e.2.2.1 else hnd l pc E
def afterH (m hp : Nat) (L : Lo) : Option (Nat × Lo) := match lk (cdOf m) hp with
  | some (.astore k, _) => if k < L.length then some (hp + 2, (lst1 k L (.int 0)).set k none) else none
  | some (.astore_n k, _) => if k.val < L.length then some (hp + 1, (lst1 k.val L (.int 0)).set k.val none) else none
  | _ => none
def run : Nat → Nat → Nat → Lo → List Value → Hp → Option Ot
  | 0, _, _, _, _, _ => none
  | n + 1, m, pc, L, S, h => (stp m pc L S h).bind fun a => match a with
    | .inl (pc', L', S', h') => run n m pc' L' S' h'
    | .inr (.inl o) => some o
    | .inr (.inr (c, As, pc', L', S', h')) => (run n c 0 (entL c As) [] h').bind fun o => match o with
      | (.inl v, h1) => run n m pc' L' (v.toList ++ S') h1
      | (.inr E, h1) => match hnd (mHh m) pc E with
        | none => some (.inr E, h1)
        | some hp => (afterH m hp L').bind fun q => run n m q.1 q.2 [] h1
theorem run_mono : ∀ (n m pc : Nat) (L : Lo) (S : List Value) (h : Hp) (o : Ot), run n m pc L S h = some o → run (n + 1) m pc L S h = some o := by
  intro n
  induction n with
  | zero => intro m pc L S h o hr; cases hr
  | succ n ih =>
    intro m pc L S h o hr
    unfold run at hr ⊢
    cases hs : stp m pc L S h with
    | none => rw [hs] at hr; cases hr
    | some a =>
      rw [hs] at hr
      simp only [Option.bind_some] at hr ⊢
      rcases a with ⟨pc', L', S', h'⟩ | o1 | ⟨c, As, pc', L', S', h'⟩
      · exact ih _ _ _ _ _ _ hr
      · exact hr
      · simp only at hr ⊢
        cases h1 : run n c 0 (entL c As) [] h' with
        | none => rw [h1] at hr; cases hr
        | some o1 =>
          rw [ih _ _ _ _ _ _ h1]
          rw [h1] at hr
          simp only [Option.bind_some] at hr ⊢
          rcases o1 with ⟨v | E, h1⟩
          · exact ih _ _ _ _ _ _ hr
          · simp only at hr ⊢
            cases h2 : hnd (mHh m) pc E with
            | none => rw [h2] at hr; exact hr
            | some hp =>
              rw [h2] at hr
              simp only at hr ⊢
              cases h3 : afterH m hp L' with
              | none => rw [h3] at hr; cases hr
              | some q =>
                rw [h3] at hr
                exact ih _ _ _ _ _ _ hr
theorem run_le {n k m pc : Nat} {L : Lo} {S : List Value} {h : Hp} {o : Ot} (hk : n ≤ k) (hr : run n m pc L S h = some o) : run k m pc L S h = some o := by
  induction hk with
  | refl => exact hr
  | step _ ih => exact run_mono _ _ _ _ _ _ _ ih
/-- the run, whatever its length -/
noncomputable def Run (m pc : Nat) (L : Lo) (S : List Value) (h : Hp) : Option Ot := by
  classical exact if hx : ∃ n o, run n m pc L S h = some o then some hx.choose_spec.choose else none
theorem Run_of {n m pc : Nat} {L : Lo} {S : List Value} {h : Hp} {o : Ot} (hr : run n m pc L S h = some o) : Run m pc L S h = some o := by
  have hx : ∃ n o, run n m pc L S h = some o := ⟨n, o, hr⟩
  unfold Run
  rw [dif_pos hx]
  have h1 := hx.choose_spec.choose_spec
  have h2 := run_le (Nat.le_max_left hx.choose n) h1
  have h3 := run_le (Nat.le_max_right hx.choose n) hr
  rw [h2] at h3
  exact h3
theorem run_of {m pc : Nat} {L : Lo} {S : List Value} {h : Hp} {o : Ot} (hr : Run m pc L S h = some o) : ∃ n, run n m pc L S h = some o := by
  unfold Run at hr
  split at hr
  · next hx =>
    have h1 := hx.choose_spec.choose_spec
    rw [Option.some.inj hr] at h1
    exact ⟨_, h1⟩
  · cases hr
/-- behind a call -/
noncomputable def aft (m pc pc' : Nat) (L : Lo) (S : List Value) (o : Ot) : Option Ot := match o with
  | (.inl v, h1) => Run m pc' L (v.toList ++ S) h1
  | (.inr E, h1) => match hnd (mHh m) pc E with
    | none => some (.inr E, h1)
    | some hp => (afterH m hp L).bind fun q => Run m q.1 q.2 [] h1
noncomputable def act (m pc : Nat) (a : Ac) : Option Ot := match a with
  | .inl (pc', L', S', h') => Run m pc' L' S' h'
  | .inr (.inl o) => some o
  | .inr (.inr (c, As, pc', L', S', h')) => (Run c 0 (entL c As) [] h').bind fun o => aft m pc pc' L' S' o
theorem opt_ext {α : Type} {a b : Option α} (h : ∀ x, a = some x ↔ b = some x) : a = b := by
  cases a with
  | none =>
    cases b with
    | none => rfl
    | some y => exact absurd ((h y).mpr rfl) (by simp)
  | some x => exact ((h x).mp rfl).symm
theorem Run_eq (m pc : Nat) (L : Lo) (S : List Value) (h : Hp) : Run m pc L S h = (stp m pc L S h).bind (act m pc) := by
  apply opt_ext
  intro o
  constructor
  · intro hr
    obtain ⟨n, hn⟩ := run_of hr
    cases n with
    | zero => cases hn
    | succ n =>
      unfold run at hn
      cases hs : stp m pc L S h with
      | none => rw [hs] at hn; cases hn
      | some a =>
        rw [hs] at hn
        simp only [Option.bind_some] at hn ⊢
        rcases a with ⟨pc', L', S', h'⟩ | o1 | ⟨c, As, pc', L', S', h'⟩
        · exact Run_of hn
        · exact hn
        · simp only [act] at hn ⊢
          cases h1 : run n c 0 (entL c As) [] h' with
          | none => rw [h1] at hn; cases hn
          | some o1 =>
            rw [Run_of h1]
            rw [h1] at hn
            simp only [Option.bind_some] at hn ⊢
            rcases o1 with ⟨v | E, h1⟩
            · exact Run_of hn
            · simp only [aft] at hn ⊢
              cases h2 : hnd (mHh m) pc E with
              | none => rw [h2] at hn; exact hn
              | some hp =>
                rw [h2] at hn
                simp only at hn ⊢
                cases h3 : afterH m hp L' with
                | none => rw [h3] at hn; cases hn
                | some q =>
                  rw [h3] at hn
                  exact Run_of hn
  · intro hr
    cases hs : stp m pc L S h with
    | none => rw [hs] at hr; cases hr
    | some a =>
      rw [hs] at hr
      simp only [Option.bind_some] at hr
      rcases a with ⟨pc', L', S', h'⟩ | o1 | ⟨c, As, pc', L', S', h'⟩
      · simp only [act] at hr
        obtain ⟨n, hn⟩ := run_of hr
        exact Run_of (n := n + 1) (by unfold run; rw [hs]; exact hn)
      · exact Run_of (n := 1) (by unfold run; rw [hs]; exact hr)
      · simp only [act] at hr
        cases h1 : Run c 0 (entL c As) [] h' with
        | none => rw [h1] at hr; cases hr
        | some o1 =>
          rw [h1] at hr
          obtain ⟨n1, hn1⟩ := run_of h1
          simp only [Option.bind_some] at hr
          rcases o1 with ⟨v | E, h1⟩
          · simp only [aft] at hr
            obtain ⟨n2, hn2⟩ := run_of hr
            refine Run_of (n := max n1 n2 + 1) ?_
            unfold run
            rw [hs]
            simp only [Option.bind_some]
            rw [run_le (Nat.le_max_left n1 n2) hn1]
            exact run_le (Nat.le_max_right n1 n2) hn2
          · simp only [aft] at hr
            cases h2 : hnd (mHh m) pc E with
            | none =>
              rw [h2] at hr
              refine Run_of (n := n1 + 1) ?_
              unfold run
              rw [hs]
              simp only [Option.bind_some]
              rw [hn1]
              simp only [Option.bind_some]
              rw [h2]
              exact hr
            | some hp =>
              rw [h2] at hr
              simp only at hr
              cases h3 : afterH m hp L' with
              | none => rw [h3] at hr; cases hr
              | some q =>
                rw [h3] at hr
                simp only [Option.bind_some] at hr
                obtain ⟨n2, hn2⟩ := run_of hr
                refine Run_of (n := max n1 n2 + 1) ?_
                unfold run
                rw [hs]
                simp only [Option.bind_some]
                rw [run_le (Nat.le_max_left n1 n2) hn1]
                simp only [Option.bind_some]
                rw [h2]
                simp only
                rw [h3]
                exact run_le (Nat.le_max_right n1 n2) hn2
end
section
/-! THE TIE, first half: what a state of the interpreter says of the Statement's machine -/
abbrev GG := (Nat → ClassId) × (Nat → Nat → Nat) × (Nat → ClassId) × (Nat → Nat) × (Nat → Nat) × (Nat → Nat → Int32)
def gD (g : GG) : va_G := (g.1, g.2.1)
def gA (g : GG) : Nat → ClassId := g.2.2.1
def gO (g : GG) : Nat → Nat := g.2.2.2.1
def gN (g : GG) : Nat → Nat := g.2.2.2.2.1
def gF (g : GG) : Nat → Nat → Int32 := g.2.2.2.2.2
def gT (g : GG) : List (ClassId × FieldType) := (List.range 5).map fun t => (gA g t, tyO t)
theorem gT_at (g : GG) {t : Nat} (h : t < 5) : (gT g)[t]? = some (gA g t, tyO t) := by simp [gT, h]
def rv (ρ : Nat → Nat) : Value → Value
  | .ref k => .ref (ρ k)
  | v => v
abbrev Dt := (Nat → Int32) ⊕ (Nat → Int64) ⊕ (Nat → UInt32) ⊕ (Nat → UInt64) ⊕ (Nat → Option Nat)
def rD (ρ : Nat → Nat) : Dt → Dt
  | .inr (.inr (.inr (.inr f))) => .inr (.inr (.inr (.inr (fun i => (f i).map ρ))))
  | d => d
def rE (g : GG) (ρ : Nat → Nat) : va_E → va_E
  | .inl (t, n, d) => .inl (gA g t, n, rD ρ d)
  | .inr (c, fs) => .inr (c, fs.map (rv ρ))
def okV (n : Nat) : Value → Prop
  | .ref k => k < n
  | _ => True
def okD (n : Nat) : Dt → Prop
  | .inr (.inr (.inr (.inr f))) => ∀ i k, f i = some k → k < n
  | _ => True
def okE (n : Nat) : va_E → Prop
  | .inl (t, _, d) => t < 5 ∧ okD n d
  | .inr (c, fs) => c < 10 ∧ ∀ v ∈ fs, okV n v
def wl (g : GG) (ρ : Nat → Nat) (h : Hp) : va_W := (List.range (h.1 - 3)).map fun j => (ρ (j + 3), rE g ρ (h.2.2.2 (j + 3)))
theorem wl_at (g : GG) (ρ : Nat → Nat) (h : Hp) {a : Nat} (h3 : 3 ≤ a) (ha : a < h.1) : (wl g ρ h)[a - 3]? = some (ρ a, rE g ρ (h.2.2.2 a)) := by
  have e : a - 3 + 3 = a := by omega
  have hl : a - 3 < h.1 - 3 := by omega
  simp [wl, hl, e]
theorem okV_le {n k : Nat} (h : n ≤ k) {v : Value} (hv : okV n v) : okV k v := by
  cases v <;> first | trivial | exact Nat.lt_of_lt_of_le hv h
theorem okD_le {n k : Nat} (h : n ≤ k) {d : Dt} (hd : okD n d) : okD k d := by
  rcases d with f | f | f | f | f <;> first | trivial | exact fun i j hj => Nat.lt_of_lt_of_le (hd i j hj) h
theorem okE_le {n k : Nat} (h : n ≤ k) {x : va_E} (hx : okE n x) : okE k x := by
  rcases x with ⟨t, N, d⟩ | ⟨c, fs⟩
  · exact ⟨hx.1, okD_le h hx.2⟩
  · exact ⟨hx.1, fun v hv => okV_le h (hx.2 v hv)⟩
theorem rv_ext {ρ σ : Nat → Nat} {n : Nat} (h : ∀ k, k < n → σ k = ρ k) {v : Value} (hv : okV n v) : rv σ v = rv ρ v := by
  cases v <;> first | rfl | (show Value.ref _ = Value.ref _; rw [h _ hv])
theorem rD_ext {ρ σ : Nat → Nat} {n : Nat} (h : ∀ k, k < n → σ k = ρ k) {d : Dt} (hd : okD n d) : rD σ d = rD ρ d := by
  rcases d with f | f | f | f | f <;> first | rfl | skip
  show Sum.inr (Sum.inr (Sum.inr (Sum.inr _))) = Sum.inr (Sum.inr (Sum.inr (Sum.inr _)))
  congr 4
  funext i
  cases hi : f i with
  | none => rfl
  | some k => simp [h k (hd i k hi)]
theorem rE_ext {ρ σ : Nat → Nat} {n : Nat} (g : GG) (h : ∀ k, k < n → σ k = ρ k) {x : va_E} (hx : okE n x) : rE g σ x = rE g ρ x := by
  rcases x with ⟨t, N, d⟩ | ⟨c, fs⟩
  · show Sum.inl (gA g t, N, rD σ d) = Sum.inl (gA g t, N, rD ρ d)
    rw [rD_ext h hx.2]
  · show Sum.inr (c, fs.map (rv σ)) = Sum.inr (c, fs.map (rv ρ))
    rw [List.map_congr_left fun v hv => rv_ext h (hx.2 v hv)]
theorem wl_set (g : GG) (ρ : Nat → Nat) (h : Hp) {a : Nat} (h3 : 3 ≤ a) (x : va_E) : wl g ρ (hset h a x) = (wl g ρ h).set (a - 3) (ρ a, rE g ρ x) := by
  apply List.ext_getElem?
  intro j
  by_cases hj : j < h.1 - 3
  · by_cases hja : j = a - 3
    · subst hja
      have e : a - 3 + 3 = a := by omega
      simp [wl, hset, hj, e]
    · have hne : j + 3 ≠ a := by omega
      rw [List.getElem?_set_ne (fun q => hja q.symm)]
      simp [wl, hset, hj, hne]
  · have h1 : (wl g ρ (hset h a x)).length = h.1 - 3 := by simp [wl, hset]
    have h2 : ((wl g ρ h).set (a - 3) (ρ a, rE g ρ x)).length = h.1 - 3 := by simp [wl]
    rw [List.getElem?_eq_none (by omega), List.getElem?_eq_none (by omega)]
def Pic (base : Nat) (g : GG) (ρ : Nat → Nat) (h : Hp) (H : Heap) : Prop :=
  va_P (gD g) vwCl (wl g ρ h) H ∧ va_D (fun q => base ≤ q) (wl g ρ h) ∧ 3 ≤ h.1 ∧ (∀ j, j < h.1 → okE h.1 (h.2.2.2 j)) ∧ ∀ j, j < 3 → ρ j = gO g j ∧ h.2.2.2 j = .inl (0, gN g j, .inl (gF g j))
theorem Pic.set {base : Nat} {g : GG} {ρ : Nat → Nat} {h : Hp} {H H1 : Heap} {a : Nat} {x : va_E} (P : Pic base g ρ h H) (h3 : 3 ≤ a) (hx : okE h.1 x) (hP : va_P (gD g) vwCl ((wl g ρ h).set (a - 3) (ρ a, rE g ρ x)) H1) (hD : va_D (fun q => base ≤ q) ((wl g ρ h).set (a - 3) (ρ a, rE g ρ x))) : Pic base g ρ (hset h a x) H1 := by
  obtain ⟨-, -, p3, p4, p5⟩ := P
  refine ⟨by rw [wl_set g ρ h h3]; exact hP, by rw [wl_set g ρ h h3]; exact hD, p3, fun j hj => ?_, fun j hj => ⟨(p5 j hj).1, ?_⟩⟩
  · show okE h.1 (if j = a then x else h.2.2.2 j)
    split
    · exact hx
    · exact p4 j hj
  · show (if j = a then x else h.2.2.2 j) = _
    rw [if_neg (by omega)]
    exact (p5 j hj).2
def ext (ρ : Nat → Nat) (n q : Nat) : Nat → Nat := fun j => if j = n then q else ρ j
theorem ext_lt (ρ : Nat → Nat) (n q : Nat) : ∀ k, k < n → ext ρ n q k = ρ k := fun k hk => by unfold ext; rw [if_neg (by omega)]
theorem wl_new (g : GG) (ρ : Nat → Nat) (h : Hp) (q k : Nat) {x : va_E} (h3 : 3 ≤ h.1) (ho : ∀ j, j < h.1 → okE h.1 (h.2.2.2 j)) (hx : okE h.1 x) : wl g (ext ρ h.1 q) (hnew h x k) = wl g ρ h ++ [(q, rE g ρ x)] := by
  have e1 : h.1 + 1 - 3 = (h.1 - 3) + 1 := by omega
  have e2 : h.1 - 3 + 3 = h.1 := by omega
  unfold wl hnew
  show (List.range (h.1 + 1 - 3)).map _ = _
  rw [e1, List.range_succ, List.map_append]
  congr 1
  · apply List.map_congr_left
    intro j hj
    have hj : j < h.1 - 3 := List.mem_range.mp hj
    have hne : j + 3 ≠ h.1 := by omega
    simp only [if_neg hne]
    rw [ext_lt ρ h.1 q _ (by omega), rE_ext g (ext_lt ρ h.1 q) (ho _ (by omega))]
  · simp only [List.map_cons, List.map_nil, e2, if_true]
    rw [rE_ext g (ext_lt ρ h.1 q) hx]
    simp [ext]
theorem Pic.push {base : Nat} {g : GG} {ρ : Nat → Nat} {h : Hp} {H H1 : Heap} {q k : Nat} {x : va_E} (P : Pic base g ρ h H) (hx : okE h.1 x) (hP : va_P (gD g) vwCl (wl g ρ h ++ [(q, rE g ρ x)]) H1) (hD : va_D (fun q => base ≤ q) (wl g ρ h ++ [(q, rE g ρ x)])) : Pic base g (ext ρ h.1 q) (hnew h x k) H1 := by
  obtain ⟨-, -, p3, p4, p5⟩ := P
  refine ⟨by rw [wl_new g ρ h q k p3 p4 hx]; exact hP, by rw [wl_new g ρ h q k p3 p4 hx]; exact hD, Nat.le_succ_of_le p3, fun j hj => ?_, fun j hj => ⟨?_, ?_⟩⟩
  · show okE (h.1 + 1) (if j = h.1 then x else h.2.2.2 j)
    split
    · exact okE_le (Nat.le_succ _) hx
    · next hne => exact okE_le (Nat.le_succ _) (p4 j (by have hj : j < h.1 + 1 := hj; omega))
  · rw [ext_lt ρ h.1 q j (by omega)]; exact (p5 j hj).1
  · show (if j = h.1 then x else h.2.2.2 j) = _
    rw [if_neg (by omega)]
    exact (p5 j hj).2
theorem Pic.kept {base : Nat} {g : GG} {ρ : Nat → Nat} {h : Hp} {H H1 : Heap} (P : Pic base g ρ h H) (hk : ∀ q, q < H.size → H1[q]? = H[q]?) : Pic base g ρ h H1 :=
  ⟨fun k q hq => (P.1 k q hq).kept (hk _ ((P.1 k q hq).lt)), P.2.1, P.2.2.1, P.2.2.2.1, P.2.2.2.2⟩
theorem Pic.bump {base : Nat} {g : GG} {ρ : Nat → Nat} {h : Hp} {H : Heap} (P : Pic base g ρ h H) : Pic base g ρ (hbump h) H := P
/-- words that hold on when the tables get warmer -/
def warmW : Cond → Bool
  | .declares _ => true
  | .castable _ _ => true
  | .methodLinkNest _ _ _ _ => true
  | w => goodWord w
theorem warmW_at {w : Cond} (h : warmW w = true) {A A' : Array Value} {s U : State} (hW : s.WarmedH U.vm) (hb : w.before A s = true) : w.before A' U = true := by
  cases w <;> first
    | exact va_Nw.use rfl (va_Nw.warmD hW (va_Nw.of rfl hb))
    | exact va_Nw.use rfl (va_Nw.warmC hW (va_Nw.of rfl hb))
    | exact va_Nw.use rfl (va_Nw.warmM hW (va_Nw.of rfl hb))
    | exact word_at hW (good_of_word h) hb
theorem good_warm {w : Cond} (h : goodWord w = true) : warmW w = true := by
  cases w <;> first | rfl | exact h
theorem exw_warm : ∀ e ∈ thrT, ∀ w ∈ vx_atS RX8 e.2.2.2.2.2.1 e.2.2.1 exN, warmW w = true := by
  have h : thrT.all (fun e => (vx_atS RX8 e.2.2.2.2.2.1 e.2.2.1 exN).all warmW) = true := by decide +kernel
  intro e he w hw
  exact List.all_eq_true.mp (List.all_eq_true.mp h e he) w hw
/-- what the tables and the old heap give, wherever we stand -/
def CT (base : Nat) (g : GG) (U : State) (H : Heap) : Prop :=
  va_K (gD g) vwCl (gT g) U ∧ base ≤ H.size ∧ (∀ w ∈ lw_tbl, warmW w = true → w.before #[] U = true) ∧
  (∀ j, j < 3 → va_T .int (gO g j) (gN g j) (fun i => .int (gF g j i)) (fun q => base ≤ q) U H) ∧
  (∀ a, a = 1 ∨ a = 2 → va_Z RX6 (staN a) "[I" (.ref (gO g a)) (fun q => base ≤ q) U H) ∧
  vx_Zq Bundle.tN "UNASSIGNED_STACK" Bundle.steD (fun q => base ≤ q) U H ∧ vx_Zq Bundle.tN "SUPPRESSED_SENTINEL" Bundle.listD (fun q => base ≤ q) U H ∧
  (∀ e ∈ thrT, ∃ sa, vk_R RX8 e.2.2.2.2.1 e.2.2.2.2.2.2.2 sa U) ∧ (∀ t, t = 1 ∨ t = 2 → va_AO (arN t) U) ∧
  (∀ i j : Nat, (i = 13 ∨ i = 19 ∨ i = 21) → (j = 13 ∨ j = 19 ∨ j = 21) → i ≠ j → va_Nc (catN i) (catN j) U)
theorem CT.warm {base : Nat} {g : GG} {s U : State} {H : Heap} (hW : s.WarmedH U.vm) (h : CT base g s H) : CT base g U H := by
  obtain ⟨c1, c2, c3, c4, c5, c6, c7, c8, c9, c10⟩ := h
  exact ⟨va_K.moved hW.alike c1, c2, fun w h1 h2 => warmW_at h2 hW (c3 w h1 h2), fun j hj => (c4 j hj).moved hW.alike, fun a ha => (c5 a ha).moved hW.alike, c6.moved hW.alike, c7.moved hW.alike, fun e he => by obtain ⟨sa, h⟩ := c8 e he; exact ⟨sa, h.warm hW⟩, fun t ht => (c9 t ht).moved hW.alike, fun i j hi hj hn => (c10 i j hi hj hn).moved hW.alike⟩
theorem CT.kept {base : Nat} {g : GG} {U : State} {H H1 : Heap} (h : CT base g U H) (hz : H.size ≤ H1.size) (hk : ∀ a : Nat, a < H.size → ¬ base ≤ a → H1[a]? = H[a]?) : CT base g U H1 := by
  obtain ⟨c1, c2, c3, c4, c5, c6, c7, c8, c9, c10⟩ := h
  exact ⟨c1, Nat.le_trans c2 hz, c3, fun j hj => (c4 j hj).kept hk, fun a ha => (c5 a ha).kept hk, c6.kept hk, c7.kept hk, c8, c9, c10⟩
theorem CT.calling {base : Nat} {g : GG} {U : State} {H : Heap} (h : CT base g U H) (gg : JFrame) (mk : MethodId) (a : Array Value) : CT base g (U.calling gg mk a) H := by
  obtain ⟨c1, c2, c3, c4, c5, c6, c7, c8, c9, c10⟩ := h
  have hvm : U.vm.Alike (U.calling gg mk a).vm := Vm.Alike.refl U.vm
  exact ⟨va_K.moved hvm c1, c2, fun w h1 h2 => warmW_at h2 (show U.WarmedH (U.calling gg mk a).vm from State.WarmedH.refl U) (c3 w h1 h2), fun j hj => (c4 j hj).moved hvm, fun q hq => (c5 q hq).moved hvm, c6.moved hvm, c7.moved hvm, fun e he => by obtain ⟨sa, h⟩ := c8 e he; exact ⟨sa, h.same rfl⟩, fun t ht => (c9 t ht).moved hvm, fun i j hi hj hn => (c10 i j hi hj hn).moved hvm⟩
theorem CT.word {base : Nat} {g : GG} {U : State} {H : Heap} (h : CT base g U H) {w : Cond} (hw : w ∈ Wg) (A : Array Value) : w.before A U = true := by
  have h1 := List.mem_filter.mp hw
  exact word_at (State.WarmedH.refl U) (good_of_word h1.2) (h.2.2.1 w h1.1 (good_warm h1.2))
theorem CT.wordW {base : Nat} {g : GG} {U : State} {H : Heap} (h : CT base g U H) {w : Cond} (hw : w ∈ lw_tbl) (hg : warmW w = true) (A : Array Value) : w.before A U = true :=
  warmW_at hg (State.WarmedH.refl U) (h.2.2.1 w hw hg)
def LV (ρ : Nat → Nat) (n : Nat) (L : Lo) (ls : Array Slot) (nL : Nat) : Prop := L.length = nL ∧ ls.size = nL ∧ lv_wf ls ∧ ∀ (k : Nat) (v : Value), L[k]? = some (some v) → okV n v ∧ ls[k]? = some (Slot.val (rv ρ v))
theorem lget_at {L : Lo} {k : Nat} {v : Value} (h : lget L k = some v) : L[k]? = some (some v) := by
  unfold lget at h
  split at h
  · next w e => cases h; exact e
  · cases h
theorem lst1_len : ∀ (k : Nat) (L : Lo) (v : Value), (lst1 k L v).length = L.length := by
  intro k
  induction k with
  | zero => intro L v; cases L <;> rfl
  | succ k ih =>
    intro L v
    cases L with
    | nil => rfl
    | cons x L => show (lst1 k L v).length + 1 = L.length + 1; rw [ih]
theorem lst2_len : ∀ (k : Nat) (L : Lo) (v : Value), (lst2 k L v).length = L.length := by
  intro k
  induction k with
  | zero =>
    intro L v
    match L with
    | [] => rfl
    | [x] => rfl
    | x :: y :: L => rfl
  | succ k ih =>
    intro L v
    match L with
    | [] => rfl
    | [x] => rfl
    | x :: y :: L => show (lst2 k (y :: L) v).length + 1 = L.length + 1 + 1; rw [ih]; rfl
theorem ck_some {x : Option Value} {w : Value} (h : ck x = some w) : x = some w ∧ w.category ≠ 2 := by
  cases x with
  | none => cases h
  | some u => cases u <;> first | (cases h; done) | (cases h; exact ⟨rfl, by simp [Value.category]⟩)
theorem lst1_get : ∀ (k : Nat) (L : Lo) (v : Value) (j : Nat) (w : Value), (lst1 k L v)[j]? = some (some w) → (j = k ∧ w = v) ∨ (j ≠ k ∧ L[j]? = some (some w) ∧ ¬ (j + 1 = k ∧ w.category = 2)) := by
  intro k
  induction k with
  | zero =>
    intro L v j w h
    cases L with
    | nil => simp [lst1] at h
    | cons x L =>
      cases j with
      | zero => simp [lst1] at h; exact Or.inl ⟨rfl, h.symm⟩
      | succ j => exact Or.inr ⟨by omega, by simpa [lst1] using h, by omega⟩
  | succ k ih =>
    intro L v j w h
    cases L with
    | nil => simp [lst1] at h
    | cons x L =>
      cases j with
      | zero =>
        cases k with
        | zero =>
          have h : ck x = some w := by simpa [lst1] using h
          obtain ⟨h1, h2⟩ := ck_some h
          exact Or.inr ⟨by omega, by simp [h1], fun q => h2 q.2⟩
        | succ k => exact Or.inr ⟨by omega, by simpa [lst1] using h, by omega⟩
      | succ j =>
        have h : (lst1 k L v)[j]? = some (some w) := by simpa [lst1] using h
        rcases ih L v j w h with ⟨h1, h2⟩ | ⟨h1, h2, h3⟩
        · exact Or.inl ⟨by omega, h2⟩
        · exact Or.inr ⟨by omega, by simpa using h2, fun q => h3 ⟨by omega, q.2⟩⟩
theorem lst2_get : ∀ (k : Nat) (L : Lo) (v : Value) (j : Nat) (w : Value), (lst2 k L v)[j]? = some (some w) → (j = k ∧ w = v) ∨ (j ≠ k ∧ j ≠ k + 1 ∧ L[j]? = some (some w) ∧ ¬ (j + 1 = k ∧ w.category = 2)) := by
  intro k
  induction k with
  | zero =>
    intro L v j w h
    match L with
    | [] => simp [lst2] at h
    | [x] =>
      cases j with
      | zero => simp [lst2] at h
      | succ j => simp [lst2] at h
    | x :: y :: L =>
      match j with
      | 0 => simp [lst2] at h; exact Or.inl ⟨rfl, h.symm⟩
      | 1 => simp [lst2] at h
      | j + 2 => exact Or.inr ⟨by omega, by omega, by simpa [lst2] using h, by omega⟩
  | succ k ih =>
    intro L v j w h
    match L with
    | [] => simp [lst2] at h
    | [x] =>
      cases j with
      | zero => simp [lst2] at h
      | succ j => simp [lst2] at h
    | x :: y :: L =>
      cases j with
      | zero =>
        cases k with
        | zero =>
          have h : ck x = some w := by simpa [lst2] using h
          obtain ⟨h1, h2⟩ := ck_some h
          exact Or.inr ⟨by omega, by omega, by simp [h1], fun q => h2 q.2⟩
        | succ k => exact Or.inr ⟨by omega, by omega, by simpa [lst2] using h, by omega⟩
      | succ j =>
        have h : (lst2 k (y :: L) v)[j]? = some (some w) := by simpa [lst2] using h
        rcases ih (y :: L) v j w h with ⟨h1, h2⟩ | ⟨h1, h2, h3, h4⟩
        · exact Or.inl ⟨by omega, h2⟩
        · exact Or.inr ⟨by omega, by omega, by simpa using h3, fun q => h4 ⟨by omega, q.2⟩⟩
def lvl (ρ : Nat → Nat) (L : Lo) : List (Nat × Value) := (List.range L.length).filterMap fun j => match L[j]? with
  | some (some v) => some (j, rv ρ v)
  | _ => none
theorem lvl_mem {ρ : Nat → Nat} {L : Lo} {j : Nat} {v : Value} (h : L[j]? = some (some v)) : (j, rv ρ v) ∈ lvl ρ L := by
  refine List.mem_filterMap.mpr ⟨j, List.mem_range.mpr (List.getElem?_eq_some_iff.mp h).1, ?_⟩
  rw [h]
theorem lvl_of {ρ : Nat → Nat} {L : Lo} {q : Nat × Value} (h : q ∈ lvl ρ L) : ∃ v, L[q.1]? = some (some v) ∧ q.2 = rv ρ v := by
  obtain ⟨j, -, h2⟩ := List.mem_filterMap.mp h
  split at h2
  · next v e => cases h2; exact ⟨v, e, rfl⟩
  · cases h2
theorem LV.has {ρ : Nat → Nat} {n : Nat} {L : Lo} {ls : Array Slot} {nL : Nat} (h : LV ρ n L ls nL) : lv_has ls nL (lvl ρ L) := by
  refine ⟨h.2.1, h.2.2.1, fun q hq => ?_⟩
  obtain ⟨v, h1, h2⟩ := lvl_of hq
  rw [h2]
  exact (h.2.2.2 _ _ h1).2
theorem cat_rv (ρ : Nat → Nat) (v : Value) : (rv ρ v).category = v.category := by cases v <;> rfl
theorem LV.put1 {ρ : Nat → Nat} {n : Nat} {L : Lo} {ls ls' : Array Slot} {nL k : Nat} {v : Value} (h : LV ρ n L ls nL) (hv : okV n v) (h' : lv_has ls' nL ((k, rv ρ v) :: (lvl ρ L).filter (fun q => !(q.1 == k) && !(q.1 + 1 == k && q.2.category == 2)))) : LV ρ n (lst1 k L v) ls' nL := by
  refine ⟨by rw [lst1_len]; exact h.1, h'.1, h'.2.1, fun j w hw => ?_⟩
  rcases lst1_get k L v j w hw with ⟨rfl, rfl⟩ | ⟨h1, h2, h3⟩
  · exact ⟨hv, h'.2.2 (j, rv ρ w) List.mem_cons_self⟩
  · refine ⟨(h.2.2.2 j w h2).1, h'.2.2 (j, rv ρ w) (List.mem_cons_of_mem _ (List.mem_filter.mpr ⟨lvl_mem h2, ?_⟩))⟩
    simp only [Bool.and_eq_true, Bool.not_eq_true', beq_eq_false_iff_ne, ne_eq, Bool.and_eq_false_iff, cat_rv]
    refine ⟨h1, ?_⟩
    by_cases q : j + 1 = k
    · exact Or.inr (fun z => h3 ⟨q, z⟩)
    · exact Or.inl q
theorem LV.put2 {ρ : Nat → Nat} {n : Nat} {L : Lo} {ls ls' : Array Slot} {nL k : Nat} {v : Value} (h : LV ρ n L ls nL) (hv : okV n v) (h' : lv_has ls' nL ((k, rv ρ v) :: (lvl ρ L).filter (fun q => !(q.1 == k) && (!(q.1 == k + 1) && !(q.1 + 1 == k && q.2.category == 2))))) : LV ρ n (lst2 k L v) ls' nL := by
  refine ⟨by rw [lst2_len]; exact h.1, h'.1, h'.2.1, fun j w hw => ?_⟩
  rcases lst2_get k L v j w hw with ⟨rfl, rfl⟩ | ⟨h1, h2, h3, h4⟩
  · exact ⟨hv, h'.2.2 (j, rv ρ w) List.mem_cons_self⟩
  · refine ⟨(h.2.2.2 j w h3).1, h'.2.2 (j, rv ρ w) (List.mem_cons_of_mem _ (List.mem_filter.mpr ⟨lvl_mem h3, ?_⟩))⟩
    simp only [Bool.and_eq_true, Bool.not_eq_true', beq_eq_false_iff_ne, ne_eq, Bool.and_eq_false_iff, cat_rv]
    refine ⟨h1, h2, ?_⟩
    by_cases q : j + 1 = k
    · exact Or.inr (fun z => h4 ⟨q, z⟩)
    · exact Or.inl q
theorem LV.inc {ρ : Nat → Nat} {n : Nat} {L : Lo} {ls ls' : Array Slot} {nL k : Nat} {x v : Int32} (h : LV ρ n L ls nL) (hx : L[k]? = some (some (.int x))) (h' : lv_has ls' nL ((k, Value.int v) :: (lvl ρ L).filter (fun q => !(q.1 == k) && !(q.1 + 1 == k && q.2.category == 2)))) : LV ρ n (L.set k (some (.int v))) ls' nL := by
  refine ⟨by rw [List.length_set]; exact h.1, h'.1, h'.2.1, fun j w hw => ?_⟩
  by_cases hj : j = k
  · subst hj
    have hlt := (List.getElem?_eq_some_iff.mp hx).1
    rw [List.getElem?_set_self hlt] at hw
    cases hw
    exact ⟨trivial, h'.2.2 (j, Value.int v) List.mem_cons_self⟩
  · rw [List.getElem?_set_ne (fun q => hj q.symm)] at hw
    refine ⟨(h.2.2.2 j w hw).1, h'.2.2 (j, rv ρ w) (List.mem_cons_of_mem _ (List.mem_filter.mpr ⟨lvl_mem hw, ?_⟩))⟩
    simp only [Bool.and_eq_true, Bool.not_eq_true', beq_eq_false_iff_ne, ne_eq, Bool.and_eq_false_iff, cat_rv]
    refine ⟨hj, ?_⟩
    by_cases q : j + 1 = k
    · refine Or.inr fun z => ?_
      have h1 := h.2.2.1.1 j (rv ρ w) (h.2.2.2 j w hw).2 (by rw [cat_rv]; exact z)
      have h2 := (h.2.2.2 k _ hx).2
      rw [q, h2] at h1
      cases h1
    · exact Or.inl q
theorem LV.ext {ρ σ : Nat → Nat} {n k : Nat} {L : Lo} {ls : Array Slot} {nL : Nat} (h : LV ρ n L ls nL) (hn : n ≤ k) (hs : ∀ j, j < n → σ j = ρ j) : LV σ k L ls nL :=
  ⟨h.1, h.2.1, h.2.2.1, fun j w hw => ⟨okV_le hn (h.2.2.2 j w hw).1, by rw [rv_ext hs (h.2.2.2 j w hw).1]; exact (h.2.2.2 j w hw).2⟩⟩
theorem map_ext {ρ σ : Nat → Nat} {n : Nat} {S : List Value} (hs : ∀ j, j < n → σ j = ρ j) (h : ∀ v ∈ S, okV n v) : S.map (rv σ) = S.map (rv ρ) := List.map_congr_left fun v hv => rv_ext hs (h v hv)
theorem csum_map (ρ : Nat → Nat) (S : List Value) : ((S.map (rv ρ)).map fun v => v.category).sum = csum S := by
  unfold csum
  rw [List.map_map]
  congr 1
  exact List.map_congr_left fun v _ => cat_rv ρ v
/-- where the method y stands -/
def MX (p : Program) (l : Launch) (R : Room) (s : State) (m : MethodId) (meth : Method) (c : Code) (y : Nat) : Prop :=
  p.tables.exec = Jvm.exec ∧ c.code = mCc y ∧ meth.sig.returnType = mRet y ∧ meth.locks = false ∧ c.maxLocals = mMax y ∧ s.vm.findClass (ownN (mOwn y)) = some m.cls ∧ (y = 236 ∨ c.exceptionTable.toList = tableOf (mHh y)) ∧ l.stackTraces = false ∧ (isInit y = true → meth.name = "<init>") ∧ mF y ≤ R.frames ∧ mL y ≤ R.locals ∧ y < 237
def Rl (s : State) (g : GG) (base y : Nat) (ρ0 : Nat → Nat) (n0 c0 s0 : Nat) (L : Lo) (S : List Value) (h : Hp) (H : Heap) (locs : List Loc) (cells slots : Nat) (ls : Array Slot) (ρ : Nat → Nat) : Prop :=
  va_S (fun q => base ≤ q) s.heap H locs ∧ Pic base g ρ h H ∧ (∀ k, k < n0 → ρ k = ρ0 k) ∧ n0 ≤ h.1 ∧ LV ρ h.1 L ls (mMax y) ∧ (∀ v ∈ S, okV h.1 v) ∧ cells + c0 = h.2.1 ∧ slots + s0 = h.2.2.1
def WW (p : Program) (l : Launch) (e : Env) (R : Room) (s : State) (m : MethodId) (args : Array Value) (below : List Frame) (meth : Method) (c : Code) (Q : State → Prop) (g : GG) (base y : Nat) (ρ0 : Nat → Nat) (n0 c0 s0 pc : Nat) (L : Lo) (S : List Value) (h : Hp) : Prop :=
  ∀ H locs cells slots ls ρ, Rl s g base y ρ0 n0 c0 s0 L S h H locs cells slots ls ρ → W p l e R s m args below meth c H locs cells slots Q (F0 m pc ls (S.map (rv ρ)))
end
section
section STEPS
variable {p : Program} {l : Launch} {e : Env} {R : Room} {s : State} {m : MethodId} {args : Array Value} {below : List Frame} {meth : Method} {c : Code} {Q : State → Prop} {g : GG} {base y : Nat} {ρ0 : Nat → Nat} {n0 c0 s0 pc : Nat} {L : Lo} {S : List Value} {h : Hp}
theorem okS_cons {n : Nat} {v : Value} {S : List Value} (hv : okV n v) (h : ∀ w ∈ S, okV n w) : ∀ w ∈ v :: S, okV n w := List.forall_mem_cons.mpr ⟨hv, h⟩
theorem okS_tl {n : Nat} {v : Value} {S : List Value} (h : ∀ w ∈ v :: S, okV n w) : ∀ w ∈ S, okV n w := (List.forall_mem_cons.mp h).2
theorem okS_hd {n : Nat} {v : Value} {S : List Value} (h : ∀ w ∈ v :: S, okV n w) : okV n v := (List.forall_mem_cons.mp h).1
theorem st_aload {k : Nat} {a : Nat} (M : MX p l R s m meth c y) (hd : decode (mCc y) pc = .ok (.aload k, 2)) (hl : lget L k = some (.ref a)) (kk : WW p l e R s m args below meth c Q g base y ρ0 n0 c0 s0 (pc + 2) L (.ref a :: S) h) : WW p l e R s m args below meth c Q g base y ρ0 n0 c0 s0 pc L S h := by
  intro H locs cells slots ls ρ r
  obtain ⟨r1, r2, r3, r4, r5, r6, r7, r8⟩ := r
  have h1 := r5.2.2.2 k _ (lget_at hl)
  exact lv_aload M.1 M.2.1 hd h1.2 (kk H locs cells slots ls ρ ⟨r1, r2, r3, r4, r5, okS_cons h1.1 r6, r7, r8⟩)
theorem st_iload {k : Nat} {a : Int32} (M : MX p l R s m meth c y) (hd : decode (mCc y) pc = .ok (.iload k, 2)) (hl : lget L k = some (.int a)) (kk : WW p l e R s m args below meth c Q g base y ρ0 n0 c0 s0 (pc + 2) L (.int a :: S) h) : WW p l e R s m args below meth c Q g base y ρ0 n0 c0 s0 pc L S h := by
  intro H locs cells slots ls ρ r
  obtain ⟨r1, r2, r3, r4, r5, r6, r7, r8⟩ := r
  have h1 := r5.2.2.2 k _ (lget_at hl)
  exact lv_iload M.1 M.2.1 hd h1.2 (kk H locs cells slots ls ρ ⟨r1, r2, r3, r4, r5, okS_cons h1.1 r6, r7, r8⟩)
theorem st_dload {k : Nat} {a : UInt64} (M : MX p l R s m meth c y) (hd : decode (mCc y) pc = .ok (.dload k, 2)) (hl : lget L k = some (.double a)) (kk : WW p l e R s m args below meth c Q g base y ρ0 n0 c0 s0 (pc + 2) L (.double a :: S) h) : WW p l e R s m args below meth c Q g base y ρ0 n0 c0 s0 pc L S h := by
  intro H locs cells slots ls ρ r
  obtain ⟨r1, r2, r3, r4, r5, r6, r7, r8⟩ := r
  have h1 := r5.2.2.2 k _ (lget_at hl)
  exact lv_dload M.1 M.2.1 hd h1.2 (kk H locs cells slots ls ρ ⟨r1, r2, r3, r4, r5, okS_cons h1.1 r6, r7, r8⟩)
theorem st_aload_n {k : Fin 4} {a : Nat} (M : MX p l R s m meth c y) (hd : decode (mCc y) pc = .ok (.aload_n k, 1)) (hl : lget L k.val = some (.ref a)) (kk : WW p l e R s m args below meth c Q g base y ρ0 n0 c0 s0 (pc + 1) L (.ref a :: S) h) : WW p l e R s m args below meth c Q g base y ρ0 n0 c0 s0 pc L S h := by
  intro H locs cells slots ls ρ r
  obtain ⟨r1, r2, r3, r4, r5, r6, r7, r8⟩ := r
  have h1 := r5.2.2.2 k.val _ (lget_at hl)
  exact lv_aload_n M.1 M.2.1 hd rfl h1.2 (kk H locs cells slots ls ρ ⟨r1, r2, r3, r4, r5, okS_cons h1.1 r6, r7, r8⟩)
theorem st_iload_n {k : Fin 4} {a : Int32} (M : MX p l R s m meth c y) (hd : decode (mCc y) pc = .ok (.iload_n k, 1)) (hl : lget L k.val = some (.int a)) (kk : WW p l e R s m args below meth c Q g base y ρ0 n0 c0 s0 (pc + 1) L (.int a :: S) h) : WW p l e R s m args below meth c Q g base y ρ0 n0 c0 s0 pc L S h := by
  intro H locs cells slots ls ρ r
  obtain ⟨r1, r2, r3, r4, r5, r6, r7, r8⟩ := r
  have h1 := r5.2.2.2 k.val _ (lget_at hl)
  exact lv_iload_n M.1 M.2.1 hd rfl h1.2 (kk H locs cells slots ls ρ ⟨r1, r2, r3, r4, r5, okS_cons h1.1 r6, r7, r8⟩)
theorem st_lload_n {k : Fin 4} {a : Int64} (M : MX p l R s m meth c y) (hd : decode (mCc y) pc = .ok (.lload_n k, 1)) (hl : lget L k.val = some (.long a)) (kk : WW p l e R s m args below meth c Q g base y ρ0 n0 c0 s0 (pc + 1) L (.long a :: S) h) : WW p l e R s m args below meth c Q g base y ρ0 n0 c0 s0 pc L S h := by
  intro H locs cells slots ls ρ r
  obtain ⟨r1, r2, r3, r4, r5, r6, r7, r8⟩ := r
  have h1 := r5.2.2.2 k.val _ (lget_at hl)
  exact lv_lload_n M.1 M.2.1 hd rfl h1.2 (kk H locs cells slots ls ρ ⟨r1, r2, r3, r4, r5, okS_cons h1.1 r6, r7, r8⟩)
theorem st_istore {k : Nat} {a : Int32} (M : MX p l R s m meth c y) (hd : decode (mCc y) pc = .ok (.istore k, 2)) (hk : k < L.length) (kk : WW p l e R s m args below meth c Q g base y ρ0 n0 c0 s0 (pc + 2) (lst1 k L (.int a)) S h) : WW p l e R s m args below meth c Q g base y ρ0 n0 c0 s0 pc L (.int a :: S) h := by
  intro H locs cells slots ls ρ r
  obtain ⟨r1, r2, r3, r4, r5, r6, r7, r8⟩ := r
  rw [r5.1] at hk
  exact lv_istore M.1 M.2.1 hd r5.has hk rfl (fun ls' hl => kk H locs cells slots ls' ρ ⟨r1, r2, r3, r4, r5.put1 (okS_hd r6) hl, okS_tl r6, r7, r8⟩)
theorem st_istore_n {k : Fin 4} {a : Int32} (M : MX p l R s m meth c y) (hd : decode (mCc y) pc = .ok (.istore_n k, 1)) (hk : k.val < L.length) (kk : WW p l e R s m args below meth c Q g base y ρ0 n0 c0 s0 (pc + 1) (lst1 k.val L (.int a)) S h) : WW p l e R s m args below meth c Q g base y ρ0 n0 c0 s0 pc L (.int a :: S) h := by
  intro H locs cells slots ls ρ r
  obtain ⟨r1, r2, r3, r4, r5, r6, r7, r8⟩ := r
  rw [r5.1] at hk
  exact lv_istore_n M.1 M.2.1 hd rfl r5.has hk rfl (fun ls' hl => kk H locs cells slots ls' ρ ⟨r1, r2, r3, r4, r5.put1 (okS_hd r6) hl, okS_tl r6, r7, r8⟩)
theorem st_astore {k : Nat} {a : Nat} (M : MX p l R s m meth c y) (hd : decode (mCc y) pc = .ok (.astore k, 2)) (hk : k < L.length) (kk : WW p l e R s m args below meth c Q g base y ρ0 n0 c0 s0 (pc + 2) (lst1 k L (.ref a)) S h) : WW p l e R s m args below meth c Q g base y ρ0 n0 c0 s0 pc L (.ref a :: S) h := by
  intro H locs cells slots ls ρ r
  obtain ⟨r1, r2, r3, r4, r5, r6, r7, r8⟩ := r
  rw [r5.1] at hk
  exact lv_astore M.1 M.2.1 hd r5.has hk rfl (fun ls' hl => kk H locs cells slots ls' ρ ⟨r1, r2, r3, r4, r5.put1 (okS_hd r6) hl, okS_tl r6, r7, r8⟩)
theorem st_astore_n {k : Fin 4} {a : Nat} (M : MX p l R s m meth c y) (hd : decode (mCc y) pc = .ok (.astore_n k, 1)) (hk : k.val < L.length) (kk : WW p l e R s m args below meth c Q g base y ρ0 n0 c0 s0 (pc + 1) (lst1 k.val L (.ref a)) S h) : WW p l e R s m args below meth c Q g base y ρ0 n0 c0 s0 pc L (.ref a :: S) h := by
  intro H locs cells slots ls ρ r
  obtain ⟨r1, r2, r3, r4, r5, r6, r7, r8⟩ := r
  rw [r5.1] at hk
  exact lv_astore_n M.1 M.2.1 hd rfl r5.has hk rfl (fun ls' hl => kk H locs cells slots ls' ρ ⟨r1, r2, r3, r4, r5.put1 (okS_hd r6) hl, okS_tl r6, r7, r8⟩)
theorem st_lstore_n {k : Fin 4} {a : Int64} (M : MX p l R s m meth c y) (hd : decode (mCc y) pc = .ok (.lstore_n k, 1)) (hk : k.val + 1 < L.length) (kk : WW p l e R s m args below meth c Q g base y ρ0 n0 c0 s0 (pc + 1) (lst2 k.val L (.long a)) S h) : WW p l e R s m args below meth c Q g base y ρ0 n0 c0 s0 pc L (.long a :: S) h := by
  intro H locs cells slots ls ρ r
  obtain ⟨r1, r2, r3, r4, r5, r6, r7, r8⟩ := r
  rw [r5.1] at hk
  exact lv_lstore_n M.1 M.2.1 hd rfl r5.has hk rfl (fun ls' hl => kk H locs cells slots ls' ρ ⟨r1, r2, r3, r4, r5.put2 (okS_hd r6) hl, okS_tl r6, r7, r8⟩)
theorem st_dstore {k : Nat} {a : UInt64} (M : MX p l R s m meth c y) (hd : decode (mCc y) pc = .ok (.dstore k, 2)) (hk : k + 1 < L.length) (kk : WW p l e R s m args below meth c Q g base y ρ0 n0 c0 s0 (pc + 2) (lst2 k L (.double a)) S h) : WW p l e R s m args below meth c Q g base y ρ0 n0 c0 s0 pc L (.double a :: S) h := by
  intro H locs cells slots ls ρ r
  obtain ⟨r1, r2, r3, r4, r5, r6, r7, r8⟩ := r
  rw [r5.1] at hk
  exact lv_dstore M.1 M.2.1 hd r5.has hk rfl (fun ls' hl => kk H locs cells slots ls' ρ ⟨r1, r2, r3, r4, r5.put2 (okS_hd r6) hl, okS_tl r6, r7, r8⟩)
theorem st_iinc {k : Nat} {d : Int} {a : Int32} (M : MX p l R s m meth c y) (hd : decode (mCc y) pc = .ok (.iinc k d, 3)) (hl : lget L k = some (.int a)) (kk : WW p l e R s m args below meth c Q g base y ρ0 n0 c0 s0 (pc + 3) (L.set k (some (.int (a + Int32.ofInt d)))) S h) : WW p l e R s m args below meth c Q g base y ρ0 n0 c0 s0 pc L S h := by
  intro H locs cells slots ls ρ r
  obtain ⟨r1, r2, r3, r4, r5, r6, r7, r8⟩ := r
  have h0 := lget_at hl
  have hk : k < mMax y := by rw [← r5.1]; exact (List.getElem?_eq_some_iff.mp h0).1
  obtain ⟨i, hi⟩ := List.getElem?_of_mem (lvl_mem (ρ := ρ) h0)
  exact lv_iinc M.1 M.2.1 hd r5.has hi rfl hk rfl (fun ls' hl => kk H locs cells slots ls' ρ ⟨r1, r2, r3, r4, r5.inc h0 hl, r6, r7, r8⟩)
theorem st_iconst {d : Int} (M : MX p l R s m meth c y) (hd : decode (mCc y) pc = .ok (.iconst d, 1)) (kk : WW p l e R s m args below meth c Q g base y ρ0 n0 c0 s0 (pc + 1) L (.int (Int32.ofInt d) :: S) h) : WW p l e R s m args below meth c Q g base y ρ0 n0 c0 s0 pc L S h := by
  intro H locs cells slots ls ρ r
  obtain ⟨r1, r2, r3, r4, r5, r6, r7, r8⟩ := r
  exact lv_iconst M.1 M.2.1 hd rfl (kk H locs cells slots ls ρ ⟨r1, r2, r3, r4, r5, okS_cons trivial r6, r7, r8⟩)
theorem st_bipush {d : Int} (M : MX p l R s m meth c y) (hd : decode (mCc y) pc = .ok (.bipush d, 2)) (kk : WW p l e R s m args below meth c Q g base y ρ0 n0 c0 s0 (pc + 2) L (.int ((Int8.ofInt d).toInt32) :: S) h) : WW p l e R s m args below meth c Q g base y ρ0 n0 c0 s0 pc L S h := by
  intro H locs cells slots ls ρ r
  obtain ⟨r1, r2, r3, r4, r5, r6, r7, r8⟩ := r
  exact lv_bipush M.1 M.2.1 hd rfl (kk H locs cells slots ls ρ ⟨r1, r2, r3, r4, r5, okS_cons trivial r6, r7, r8⟩)
theorem st_sipush {d : Int} (M : MX p l R s m meth c y) (hd : decode (mCc y) pc = .ok (.sipush d, 3)) (kk : WW p l e R s m args below meth c Q g base y ρ0 n0 c0 s0 (pc + 3) L (.int ((Int16.ofInt d).toInt32) :: S) h) : WW p l e R s m args below meth c Q g base y ρ0 n0 c0 s0 pc L S h := by
  intro H locs cells slots ls ρ r
  obtain ⟨r1, r2, r3, r4, r5, r6, r7, r8⟩ := r
  exact lv_sipush M.1 M.2.1 hd rfl (kk H locs cells slots ls ρ ⟨r1, r2, r3, r4, r5, okS_cons trivial r6, r7, r8⟩)
theorem st_dconst0  (M : MX p l R s m meth c y) (hd : decode (mCc y) pc = .ok (.dconst 0, 1)) (kk : WW p l e R s m args below meth c Q g base y ρ0 n0 c0 s0 (pc + 1) L (.double FP.dconst0 :: S) h) : WW p l e R s m args below meth c Q g base y ρ0 n0 c0 s0 pc L S h := by
  intro H locs cells slots ls ρ r
  obtain ⟨r1, r2, r3, r4, r5, r6, r7, r8⟩ := r
  exact lv_dconst0 M.1 M.2.1 hd (kk H locs cells slots ls ρ ⟨r1, r2, r3, r4, r5, okS_cons trivial r6, r7, r8⟩)
theorem st_ldc2 {k : Nat} {v : Int64} (M : MX p l R s m meth c y) (C : CT base g s s.heap) (hd : decode (mCc y) pc = .ok (.ldc2_w k, 3)) (hl : lk2 conT (mOwn y) k = some (.long v)) (kk : WW p l e R s m args below meth c Q g base y ρ0 n0 c0 s0 (pc + 3) L (.long v :: S) h) : WW p l e R s m args below meth c Q g base y ρ0 n0 c0 s0 pc L S h := by
  intro H locs cells slots ls ρ r
  obtain ⟨r1, r2, r3, r4, r5, r6, r7, r8⟩ := r
  exact lv_ldc2 M.1 M.2.1 M.2.2.2.2.2.1 (C.word (con_ok _ (lk2_mem hl)) args) hd (kk H locs cells slots ls ρ ⟨r1, r2, r3, r4, r5, okS_cons trivial r6, r7, r8⟩)
theorem st_ldc2d {k : Nat} {v : UInt64} (M : MX p l R s m meth c y) (C : CT base g s s.heap) (hd : decode (mCc y) pc = .ok (.ldc2_w k, 3)) (hl : lk2 conT (mOwn y) k = some (.double v)) (kk : WW p l e R s m args below meth c Q g base y ρ0 n0 c0 s0 (pc + 3) L (.double v :: S) h) : WW p l e R s m args below meth c Q g base y ρ0 n0 c0 s0 pc L S h := by
  intro H locs cells slots ls ρ r
  obtain ⟨r1, r2, r3, r4, r5, r6, r7, r8⟩ := r
  exact lv_ldc2d M.1 M.2.1 M.2.2.2.2.2.1 (C.word (con_ok _ (lk2_mem hl)) args) hd (kk H locs cells slots ls ρ ⟨r1, r2, r3, r4, r5, okS_cons trivial r6, r7, r8⟩)
theorem st_dup {v : Value} (M : MX p l R s m meth c y) (hd : decode (mCc y) pc = .ok (.dup, 1)) (hv : v.category = 1) (kk : WW p l e R s m args below meth c Q g base y ρ0 n0 c0 s0 (pc + 1) L (v :: v :: S) h) : WW p l e R s m args below meth c Q g base y ρ0 n0 c0 s0 pc L (v :: S) h := by
  intro H locs cells slots ls ρ r
  obtain ⟨r1, r2, r3, r4, r5, r6, r7, r8⟩ := r
  exact lv_dup M.1 M.2.1 hd ((cat_rv ρ v).trans hv) (kk H locs cells slots ls ρ ⟨r1, r2, r3, r4, r5, okS_cons (okS_hd r6) r6, r7, r8⟩)
theorem st_dup2 {v w : Value} (M : MX p l R s m meth c y) (hd : decode (mCc y) pc = .ok (.dup2, 1)) (hv : v.category = 1) (hw : w.category = 1) (kk : WW p l e R s m args below meth c Q g base y ρ0 n0 c0 s0 (pc + 1) L (v :: w :: v :: w :: S) h) : WW p l e R s m args below meth c Q g base y ρ0 n0 c0 s0 pc L (v :: w :: S) h := by
  intro H locs cells slots ls ρ r
  obtain ⟨r1, r2, r3, r4, r5, r6, r7, r8⟩ := r
  exact lv_dup2_11 M.1 M.2.1 hd ((cat_rv ρ v).trans hv) ((cat_rv ρ w).trans hw) (kk H locs cells slots ls ρ ⟨r1, r2, r3, r4, r5, okS_cons (okS_hd r6) (okS_cons (okS_hd (okS_tl r6)) r6), r7, r8⟩)
theorem st_pop {v : Value} (M : MX p l R s m meth c y) (hd : decode (mCc y) pc = .ok (.pop, 1)) (hv : v.category = 1) (kk : WW p l e R s m args below meth c Q g base y ρ0 n0 c0 s0 (pc + 1) L S h) : WW p l e R s m args below meth c Q g base y ρ0 n0 c0 s0 pc L (v :: S) h := by
  intro H locs cells slots ls ρ r
  obtain ⟨r1, r2, r3, r4, r5, r6, r7, r8⟩ := r
  exact lv_pop M.1 M.2.1 hd ((cat_rv ρ v).trans hv) (kk H locs cells slots ls ρ ⟨r1, r2, r3, r4, r5, okS_tl r6, r7, r8⟩)
theorem st_iadd {x z : Int32} (M : MX p l R s m meth c y) (hd : decode (mCc y) pc = .ok (.iadd, 1))  (kk : WW p l e R s m args below meth c Q g base y ρ0 n0 c0 s0 (pc + 1) L (.int (x + z) :: S) h) : WW p l e R s m args below meth c Q g base y ρ0 n0 c0 s0 pc L (.int z :: .int x :: S) h := by
  intro H locs cells slots ls ρ r
  obtain ⟨r1, r2, r3, r4, r5, r6, r7, r8⟩ := r
  exact lv_iadd M.1 M.2.1 hd (kk H locs cells slots ls ρ ⟨r1, r2, r3, r4, r5, okS_cons trivial (okS_tl (okS_tl r6)), r7, r8⟩)
theorem st_isub {x z : Int32} (M : MX p l R s m meth c y) (hd : decode (mCc y) pc = .ok (.isub, 1))  (kk : WW p l e R s m args below meth c Q g base y ρ0 n0 c0 s0 (pc + 1) L (.int (x - z) :: S) h) : WW p l e R s m args below meth c Q g base y ρ0 n0 c0 s0 pc L (.int z :: .int x :: S) h := by
  intro H locs cells slots ls ρ r
  obtain ⟨r1, r2, r3, r4, r5, r6, r7, r8⟩ := r
  exact lv_isub M.1 M.2.1 hd (kk H locs cells slots ls ρ ⟨r1, r2, r3, r4, r5, okS_cons trivial (okS_tl (okS_tl r6)), r7, r8⟩)
theorem st_imul {x z : Int32} (M : MX p l R s m meth c y) (hd : decode (mCc y) pc = .ok (.imul, 1))  (kk : WW p l e R s m args below meth c Q g base y ρ0 n0 c0 s0 (pc + 1) L (.int (x * z) :: S) h) : WW p l e R s m args below meth c Q g base y ρ0 n0 c0 s0 pc L (.int z :: .int x :: S) h := by
  intro H locs cells slots ls ρ r
  obtain ⟨r1, r2, r3, r4, r5, r6, r7, r8⟩ := r
  exact lv_imul M.1 M.2.1 hd (kk H locs cells slots ls ρ ⟨r1, r2, r3, r4, r5, okS_cons trivial (okS_tl (okS_tl r6)), r7, r8⟩)
theorem st_idiv {x z : Int32} (M : MX p l R s m meth c y) (hd : decode (mCc y) pc = .ok (.idiv, 1)) (hz : ¬ z = 0) (kk : WW p l e R s m args below meth c Q g base y ρ0 n0 c0 s0 (pc + 1) L (.int (x / z) :: S) h) : WW p l e R s m args below meth c Q g base y ρ0 n0 c0 s0 pc L (.int z :: .int x :: S) h := by
  intro H locs cells slots ls ρ r
  obtain ⟨r1, r2, r3, r4, r5, r6, r7, r8⟩ := r
  exact lv_idiv M.1 M.2.1 hd hz (kk H locs cells slots ls ρ ⟨r1, r2, r3, r4, r5, okS_cons trivial (okS_tl (okS_tl r6)), r7, r8⟩)
theorem st_irem {x z : Int32} (M : MX p l R s m meth c y) (hd : decode (mCc y) pc = .ok (.irem, 1)) (hz : ¬ z = 0) (kk : WW p l e R s m args below meth c Q g base y ρ0 n0 c0 s0 (pc + 1) L (.int (x - x / z * z) :: S) h) : WW p l e R s m args below meth c Q g base y ρ0 n0 c0 s0 pc L (.int z :: .int x :: S) h := by
  intro H locs cells slots ls ρ r
  obtain ⟨r1, r2, r3, r4, r5, r6, r7, r8⟩ := r
  exact lv_irem M.1 M.2.1 hd hz (kk H locs cells slots ls ρ ⟨r1, r2, r3, r4, r5, okS_cons trivial (okS_tl (okS_tl r6)), r7, r8⟩)
theorem st_iand {x z : Int32} (M : MX p l R s m meth c y) (hd : decode (mCc y) pc = .ok (.iand, 1))  (kk : WW p l e R s m args below meth c Q g base y ρ0 n0 c0 s0 (pc + 1) L (.int (x &&& z) :: S) h) : WW p l e R s m args below meth c Q g base y ρ0 n0 c0 s0 pc L (.int z :: .int x :: S) h := by
  intro H locs cells slots ls ρ r
  obtain ⟨r1, r2, r3, r4, r5, r6, r7, r8⟩ := r
  exact lv_iand M.1 M.2.1 hd (kk H locs cells slots ls ρ ⟨r1, r2, r3, r4, r5, okS_cons trivial (okS_tl (okS_tl r6)), r7, r8⟩)
theorem st_ior {x z : Int32} (M : MX p l R s m meth c y) (hd : decode (mCc y) pc = .ok (.ior, 1))  (kk : WW p l e R s m args below meth c Q g base y ρ0 n0 c0 s0 (pc + 1) L (.int (x ||| z) :: S) h) : WW p l e R s m args below meth c Q g base y ρ0 n0 c0 s0 pc L (.int z :: .int x :: S) h := by
  intro H locs cells slots ls ρ r
  obtain ⟨r1, r2, r3, r4, r5, r6, r7, r8⟩ := r
  exact lv_ior M.1 M.2.1 hd (kk H locs cells slots ls ρ ⟨r1, r2, r3, r4, r5, okS_cons trivial (okS_tl (okS_tl r6)), r7, r8⟩)
theorem st_ixor {x z : Int32} (M : MX p l R s m meth c y) (hd : decode (mCc y) pc = .ok (.ixor, 1))  (kk : WW p l e R s m args below meth c Q g base y ρ0 n0 c0 s0 (pc + 1) L (.int (x ^^^ z) :: S) h) : WW p l e R s m args below meth c Q g base y ρ0 n0 c0 s0 pc L (.int z :: .int x :: S) h := by
  intro H locs cells slots ls ρ r
  obtain ⟨r1, r2, r3, r4, r5, r6, r7, r8⟩ := r
  exact lv_ixor M.1 M.2.1 hd (kk H locs cells slots ls ρ ⟨r1, r2, r3, r4, r5, okS_cons trivial (okS_tl (okS_tl r6)), r7, r8⟩)
theorem st_ishl {x z : Int32} (M : MX p l R s m meth c y) (hd : decode (mCc y) pc = .ok (.ishl, 1))  (kk : WW p l e R s m args below meth c Q g base y ρ0 n0 c0 s0 (pc + 1) L (.int (x <<< (z &&& 31)) :: S) h) : WW p l e R s m args below meth c Q g base y ρ0 n0 c0 s0 pc L (.int z :: .int x :: S) h := by
  intro H locs cells slots ls ρ r
  obtain ⟨r1, r2, r3, r4, r5, r6, r7, r8⟩ := r
  exact lv_ishl M.1 M.2.1 hd (kk H locs cells slots ls ρ ⟨r1, r2, r3, r4, r5, okS_cons trivial (okS_tl (okS_tl r6)), r7, r8⟩)
theorem st_ladd {x z : Int64} (M : MX p l R s m meth c y) (hd : decode (mCc y) pc = .ok (.ladd, 1))  (kk : WW p l e R s m args below meth c Q g base y ρ0 n0 c0 s0 (pc + 1) L (.long (x + z) :: S) h) : WW p l e R s m args below meth c Q g base y ρ0 n0 c0 s0 pc L (.long z :: .long x :: S) h := by
  intro H locs cells slots ls ρ r
  obtain ⟨r1, r2, r3, r4, r5, r6, r7, r8⟩ := r
  exact lv_ladd M.1 M.2.1 hd (kk H locs cells slots ls ρ ⟨r1, r2, r3, r4, r5, okS_cons trivial (okS_tl (okS_tl r6)), r7, r8⟩)
theorem st_lmul {x z : Int64} (M : MX p l R s m meth c y) (hd : decode (mCc y) pc = .ok (.lmul, 1))  (kk : WW p l e R s m args below meth c Q g base y ρ0 n0 c0 s0 (pc + 1) L (.long (x * z) :: S) h) : WW p l e R s m args below meth c Q g base y ρ0 n0 c0 s0 pc L (.long z :: .long x :: S) h := by
  intro H locs cells slots ls ρ r
  obtain ⟨r1, r2, r3, r4, r5, r6, r7, r8⟩ := r
  exact lv_lmul M.1 M.2.1 hd (kk H locs cells slots ls ρ ⟨r1, r2, r3, r4, r5, okS_cons trivial (okS_tl (okS_tl r6)), r7, r8⟩)
theorem st_ddiv {x z : UInt64} (M : MX p l R s m meth c y) (hd : decode (mCc y) pc = .ok (.ddiv, 1)) (hz : vf_n64 (FP.ddiv x z)) (kk : WW p l e R s m args below meth c Q g base y ρ0 n0 c0 s0 (pc + 1) L (.double (FP.ddiv x z) :: S) h) : WW p l e R s m args below meth c Q g base y ρ0 n0 c0 s0 pc L (.double z :: .double x :: S) h := by
  intro H locs cells slots ls ρ r
  obtain ⟨r1, r2, r3, r4, r5, r6, r7, r8⟩ := r
  exact lv_ddiv M.1 M.2.1 hd hz (kk H locs cells slots ls ρ ⟨r1, r2, r3, r4, r5, okS_cons trivial (okS_tl (okS_tl r6)), r7, r8⟩)
theorem st_lcmp {x z : Int64} (M : MX p l R s m meth c y) (hd : decode (mCc y) pc = .ok (.lcmp, 1))  (kk : WW p l e R s m args below meth c Q g base y ρ0 n0 c0 s0 (pc + 1) L (.int (lg_cmp x z) :: S) h) : WW p l e R s m args below meth c Q g base y ρ0 n0 c0 s0 pc L (.long z :: .long x :: S) h := by
  intro H locs cells slots ls ρ r
  obtain ⟨r1, r2, r3, r4, r5, r6, r7, r8⟩ := r
  exact W.lcmp M.1 M.2.1 hd (kk H locs cells slots ls ρ ⟨r1, r2, r3, r4, r5, okS_cons trivial (okS_tl (okS_tl r6)), r7, r8⟩)
theorem st_ineg {x : Int32} (M : MX p l R s m meth c y) (hd : decode (mCc y) pc = .ok (.ineg, 1))  (kk : WW p l e R s m args below meth c Q g base y ρ0 n0 c0 s0 (pc + 1) L (.int (-x) :: S) h) : WW p l e R s m args below meth c Q g base y ρ0 n0 c0 s0 pc L (.int x :: S) h := by
  intro H locs cells slots ls ρ r
  obtain ⟨r1, r2, r3, r4, r5, r6, r7, r8⟩ := r
  exact lv_ineg M.1 M.2.1 hd (kk H locs cells slots ls ρ ⟨r1, r2, r3, r4, r5, okS_cons trivial (okS_tl r6), r7, r8⟩)
theorem st_i2l {x : Int32} (M : MX p l R s m meth c y) (hd : decode (mCc y) pc = .ok (.i2l, 1))  (kk : WW p l e R s m args below meth c Q g base y ρ0 n0 c0 s0 (pc + 1) L (.long (x.toInt64) :: S) h) : WW p l e R s m args below meth c Q g base y ρ0 n0 c0 s0 pc L (.int x :: S) h := by
  intro H locs cells slots ls ρ r
  obtain ⟨r1, r2, r3, r4, r5, r6, r7, r8⟩ := r
  exact lv_i2l M.1 M.2.1 hd rfl (kk H locs cells slots ls ρ ⟨r1, r2, r3, r4, r5, okS_cons trivial (okS_tl r6), r7, r8⟩)
theorem st_i2d {x : Int32} (M : MX p l R s m meth c y) (hd : decode (mCc y) pc = .ok (.i2d, 1))  (kk : WW p l e R s m args below meth c Q g base y ρ0 n0 c0 s0 (pc + 1) L (.double (FP.i2d x) :: S) h) : WW p l e R s m args below meth c Q g base y ρ0 n0 c0 s0 pc L (.int x :: S) h := by
  intro H locs cells slots ls ρ r
  obtain ⟨r1, r2, r3, r4, r5, r6, r7, r8⟩ := r
  exact lv_i2d M.1 M.2.1 hd (kk H locs cells slots ls ρ ⟨r1, r2, r3, r4, r5, okS_cons trivial (okS_tl r6), r7, r8⟩)
theorem st_dcmp {x z : UInt64} {op : CmpOp} (M : MX p l R s m meth c y) (hd : decode (mCc y) pc = .ok (.dcmp op, 1)) (kk : WW p l e R s m args below meth c Q g base y ρ0 n0 c0 s0 (pc + 1) L (.int (Op.cmpValue (FP.dcmp x z) op) :: S) h) : WW p l e R s m args below meth c Q g base y ρ0 n0 c0 s0 pc L (.double z :: .double x :: S) h := by
  intro H locs cells slots ls ρ r
  obtain ⟨r1, r2, r3, r4, r5, r6, r7, r8⟩ := r
  exact lv_dcmp M.1 M.2.1 hd (kk H locs cells slots ls ρ ⟨r1, r2, r3, r4, r5, okS_cons trivial (okS_tl (okS_tl r6)), r7, r8⟩)
theorem tg_at {pc t : Nat} {off : Int} (h : tg pc off = some t) : (pc : Int) + off = (t : Int) := by
  unfold tg at h
  split at h
  · next q e => cases h; rw [e]; rfl
  · cases h
theorem st_goto {off : Int} {t : Nat} (M : MX p l R s m meth c y) (hd : decode (mCc y) pc = .ok (.goto off, 3)) (ht : tg pc off = some t) (kk : WW p l e R s m args below meth c Q g base y ρ0 n0 c0 s0 t L S h) : WW p l e R s m args below meth c Q g base y ρ0 n0 c0 s0 pc L S h := by
  intro H locs cells slots ls ρ r
  obtain ⟨r1, r2, r3, r4, r5, r6, r7, r8⟩ := r
  exact lv_goto M.1 M.2.1 hd (tg_at ht) (kk H locs cells slots ls ρ ⟨r1, r2, r3, r4, r5, r6, r7, r8⟩)
theorem st_icmp {op : ClassFile.Cond} {off : Int} {t : Nat} {x z : Int32} (M : MX p l R s m meth c y) (hd : decode (mCc y) pc = .ok (.if_icmp op off, 3)) (ht : tg pc off = some t) (kt : cnd op x z = true → WW p l e R s m args below meth c Q g base y ρ0 n0 c0 s0 t L S h) (kf : ¬ cnd op x z = true → WW p l e R s m args below meth c Q g base y ρ0 n0 c0 s0 (pc + 3) L S h) : WW p l e R s m args below meth c Q g base y ρ0 n0 c0 s0 pc L (.int z :: .int x :: S) h := by
  intro H locs cells slots ls ρ r
  obtain ⟨r1, r2, r3, r4, r5, r6, r7, r8⟩ := r
  have r6 := okS_tl (okS_tl r6)
  cases op
  · exact lv_icmp_eq M.1 M.2.1 hd (tg_at ht) (fun q => kt (by simp [cnd, q]) H locs cells slots ls ρ ⟨r1, r2, r3, r4, r5, r6, r7, r8⟩) (fun q => kf (by simpa [cnd] using q) H locs cells slots ls ρ ⟨r1, r2, r3, r4, r5, r6, r7, r8⟩)
  · exact lv_icmp_ne M.1 M.2.1 hd (tg_at ht) (fun q => kt (by simp [cnd, q]) H locs cells slots ls ρ ⟨r1, r2, r3, r4, r5, r6, r7, r8⟩) (fun q => kf (by simpa [cnd] using q) H locs cells slots ls ρ ⟨r1, r2, r3, r4, r5, r6, r7, r8⟩)
  · exact lv_icmp_lt M.1 M.2.1 hd (tg_at ht) (fun q => kt (by simp [cnd, q]) H locs cells slots ls ρ ⟨r1, r2, r3, r4, r5, r6, r7, r8⟩) (fun q => kf (by simpa [cnd] using q) H locs cells slots ls ρ ⟨r1, r2, r3, r4, r5, r6, r7, r8⟩)
  · exact lv_icmp_ge M.1 M.2.1 hd (tg_at ht) (fun q => kt (by simp [cnd, q]) H locs cells slots ls ρ ⟨r1, r2, r3, r4, r5, r6, r7, r8⟩) (fun q => kf (by simpa [cnd] using q) H locs cells slots ls ρ ⟨r1, r2, r3, r4, r5, r6, r7, r8⟩)
  · exact lv_icmp_gt M.1 M.2.1 hd (tg_at ht) (fun q => kt (by simp [cnd, q]) H locs cells slots ls ρ ⟨r1, r2, r3, r4, r5, r6, r7, r8⟩) (fun q => kf (by simpa [cnd] using q) H locs cells slots ls ρ ⟨r1, r2, r3, r4, r5, r6, r7, r8⟩)
  · exact lv_icmp_le M.1 M.2.1 hd (tg_at ht) (fun q => kt (by simp [cnd, q]) H locs cells slots ls ρ ⟨r1, r2, r3, r4, r5, r6, r7, r8⟩) (fun q => kf (by simpa [cnd] using q) H locs cells slots ls ρ ⟨r1, r2, r3, r4, r5, r6, r7, r8⟩)
theorem st_if {op : ClassFile.Cond} {off : Int} {t : Nat} {x : Int32} (M : MX p l R s m meth c y) (hd : decode (mCc y) pc = .ok (.ifCond op off, 3)) (ht : tg pc off = some t) (kt : cnd op x 0 = true → WW p l e R s m args below meth c Q g base y ρ0 n0 c0 s0 t L S h) (kf : ¬ cnd op x 0 = true → WW p l e R s m args below meth c Q g base y ρ0 n0 c0 s0 (pc + 3) L S h) : WW p l e R s m args below meth c Q g base y ρ0 n0 c0 s0 pc L (.int x :: S) h := by
  intro H locs cells slots ls ρ r
  obtain ⟨r1, r2, r3, r4, r5, r6, r7, r8⟩ := r
  have r6 := okS_tl r6
  cases op
  · exact lv_if_eq M.1 M.2.1 hd (tg_at ht) (fun q => kt (by simp [cnd, q]) H locs cells slots ls ρ ⟨r1, r2, r3, r4, r5, r6, r7, r8⟩) (fun q => kf (by simpa [cnd] using q) H locs cells slots ls ρ ⟨r1, r2, r3, r4, r5, r6, r7, r8⟩)
  · exact lv_if_ne M.1 M.2.1 hd (tg_at ht) (fun q => kt (by simp [cnd, q]) H locs cells slots ls ρ ⟨r1, r2, r3, r4, r5, r6, r7, r8⟩) (fun q => kf (by simpa [cnd] using q) H locs cells slots ls ρ ⟨r1, r2, r3, r4, r5, r6, r7, r8⟩)
  · exact lv_if_lt M.1 M.2.1 hd (tg_at ht) (fun q => kt (by simp [cnd, q]) H locs cells slots ls ρ ⟨r1, r2, r3, r4, r5, r6, r7, r8⟩) (fun q => kf (by simpa [cnd] using q) H locs cells slots ls ρ ⟨r1, r2, r3, r4, r5, r6, r7, r8⟩)
  · exact lv_if_ge M.1 M.2.1 hd (tg_at ht) (fun q => kt (by simp [cnd, q]) H locs cells slots ls ρ ⟨r1, r2, r3, r4, r5, r6, r7, r8⟩) (fun q => kf (by simpa [cnd] using q) H locs cells slots ls ρ ⟨r1, r2, r3, r4, r5, r6, r7, r8⟩)
  · exact lv_if_gt M.1 M.2.1 hd (tg_at ht) (fun q => kt (by simp [cnd, q]) H locs cells slots ls ρ ⟨r1, r2, r3, r4, r5, r6, r7, r8⟩) (fun q => kf (by simpa [cnd] using q) H locs cells slots ls ρ ⟨r1, r2, r3, r4, r5, r6, r7, r8⟩)
  · exact lv_if_le M.1 M.2.1 hd (tg_at ht) (fun q => kt (by simp [cnd, q]) H locs cells slots ls ρ ⟨r1, r2, r3, r4, r5, r6, r7, r8⟩) (fun q => kf (by simpa [cnd] using q) H locs cells slots ls ρ ⟨r1, r2, r3, r4, r5, r6, r7, r8⟩)
theorem st_tblO {d lo hi : Int} {offs : Array Int} {n t : Nat} {x : Int32} (M : MX p l R s m meth c y) (hd : decode (mCc y) pc = .ok (.tableswitch d lo hi offs, n)) (hx : x.toInt < lo ∨ hi < x.toInt) (ht : tg pc d = some t) (kk : WW p l e R s m args below meth c Q g base y ρ0 n0 c0 s0 t L S h) : WW p l e R s m args below meth c Q g base y ρ0 n0 c0 s0 pc L (.int x :: S) h := by
  intro H locs cells slots ls ρ r
  obtain ⟨r1, r2, r3, r4, r5, r6, r7, r8⟩ := r
  exact lv_tableOut M.1 M.2.1 hd hx (tg_at ht) (kk H locs cells slots ls ρ ⟨r1, r2, r3, r4, r5, okS_tl r6, r7, r8⟩)
theorem st_tblI {d lo hi o : Int} {offs : Array Int} {n t : Nat} {x : Int32} (M : MX p l R s m meth c y) (hd : decode (mCc y) pc = .ok (.tableswitch d lo hi offs, n)) (hx : ¬ (x.toInt < lo ∨ hi < x.toInt)) (ho : offs[(x.toInt - lo).toNat]? = some o) (ht : tg pc o = some t) (kk : WW p l e R s m args below meth c Q g base y ρ0 n0 c0 s0 t L S h) : WW p l e R s m args below meth c Q g base y ρ0 n0 c0 s0 pc L (.int x :: S) h := by
  intro H locs cells slots ls ρ r
  obtain ⟨r1, r2, r3, r4, r5, r6, r7, r8⟩ := r
  exact lv_tableIn M.1 M.2.1 hd (fun q => hx (Or.inl q)) (fun q => hx (Or.inr q)) ho (tg_at ht) (kk H locs cells slots ls ρ ⟨r1, r2, r3, r4, r5, okS_tl r6, r7, r8⟩)
theorem st_lkp {d : Int} {ps : Array (Int × Int)} {n t : Nat} {x : Int32} (M : MX p l R s m meth c y) (hd : decode (mCc y) pc = .ok (.lookupswitch d ps, n)) (hp : (ps.toList.zip (ps.toList.drop 1)).all (fun (a, next) => a.1 < next.1) = true) (ht : tg pc (Op.lookupswitch.offset ps.toList d x.toInt) = some t) (kk : WW p l e R s m args below meth c Q g base y ρ0 n0 c0 s0 t L S h) : WW p l e R s m args below meth c Q g base y ρ0 n0 c0 s0 pc L (.int x :: S) h := by
  intro H locs cells slots ls ρ r
  obtain ⟨r1, r2, r3, r4, r5, r6, r7, r8⟩ := r
  exact lv_lookup M.1 M.2.1 hd hp rfl (tg_at ht) (kk H locs cells slots ls ρ ⟨r1, r2, r3, r4, r5, okS_tl r6, r7, r8⟩)
theorem st_get {k a : Nat} {r0 : Nat × Nat} {v : Value} (M : MX p l R s m meth c y) (C : CT base g s s.heap) (hd : decode (mCc y) pc = .ok (.getfield k, 3)) (hf : lk2 fldT (mOwn y) k = some r0) (hg : gf h r0.1 r0.2 a = some v) (kk : WW p l e R s m args below meth c Q g base y ρ0 n0 c0 s0 (pc + 3) L (v :: S) h) : WW p l e R s m args below meth c Q g base y ρ0 n0 c0 s0 pc L (.ref a :: S) h := by
  intro H locs cells slots ls ρ r
  obtain ⟨r1, r2, r3, r4, r5, r6, r7, r8⟩ := r
  obtain ⟨ci, j⟩ := r0
  obtain ⟨w1, w2, w3⟩ := fld_ok _ (lk2_mem hf)
  obtain ⟨k1, k2, k3, k4⟩ := cls_ok ci w2
  have ha : a < h.1 := okS_hd r6
  obtain ⟨fs, hfs, hv⟩ : ∃ fs, h.2.2.2 a = .inr (ci, fs) ∧ fs[j]? = some v := by
    unfold gf at hg
    split at hg
    · next cc fs e =>
      split at hg
      · next q => subst q; exact ⟨fs, e, hg⟩
      · cases hg
    · cases hg
  have h3 : 3 ≤ a := by
    rcases Nat.lt_or_ge a 3 with q | q
    · rw [(r2.2.2.2.2 a q).2] at hfs; cases hfs
    · exact q
  have he : (wl g ρ h)[a - 3]? = some (ρ a, .inr (ci, fs.map (rv ρ))) := by rw [wl_at g ρ h h3 ha, hfs]; rfl
  have hok : okV h.1 v := by
    have := r2.2.2.2.1 a ha
    rw [hfs] at this
    exact this.2 v (List.mem_of_getElem? hv)
  have hv' : (fs.map (rv ρ))[j]? = some (rv ρ v) := by rw [List.getElem?_map, hv]; rfl
  exact va_get M.1 M.2.1 (fun w hw => C.word hw args) k2 M.2.2.2.2.2.1 C.1 r2.1 (a - 3) he k1 j w3 (C.word w1 args) (fun x hx => hx) hv' hd (kk H locs cells slots ls ρ ⟨r1, r2, r3, r4, r5, okS_cons hok (okS_tl r6), r7, r8⟩)
theorem pf_at {h h1 : Hp} {ci j a : Nat} {v : Value} (hg : pf h ci j a v = some h1) : ∃ fs, h.2.2.2 a = .inr (ci, fs) ∧ j < fs.length ∧ narrow (yC ci j) v = v ∧ fits (yC ci j) v = true ∧ h1 = hset h a (.inr (ci, fs.set j v)) := by
  unfold pf at hg
  split at hg
  · next cc fs e =>
    split at hg
    · next q =>
      obtain ⟨q1, q2, q3⟩ := q
      subst q1
      simp only [fitV, Bool.and_eq_true, decide_eq_true_eq] at q3
      exact ⟨fs, e, q2, q3.1, q3.2, (Option.some.inj hg).symm⟩
    · cases hg
  · cases hg
theorem fits_rv (ρ : Nat → Nat) (ty : FieldType) (v : Value) (h : fits ty v = true) : fits ty (rv ρ v) = true := by
  cases v <;> first | exact h | (cases ty <;> first | exact h | rfl)
theorem narrow_rv (ρ : Nat → Nat) (ty : FieldType) (v : Value) (h : narrow ty v = v) : narrow ty (rv ρ v) = rv ρ v := by
  cases v <;> first | exact h | (cases ty <;> rfl)
theorem st_put {k a : Nat} {r0 : Nat × Nat} {v : Value} {h1 : Hp} (M : MX p l R s m meth c y) (C : CT base g s s.heap) (hd : decode (mCc y) pc = .ok (.putfield k, 3)) (hf : lk2 fldT (mOwn y) k = some r0) (hfi : finF r0.1 r0.2 = false ∨ (isInit y = true ∧ (TC r0.1 r0.2).1 = ownN (mOwn y))) (hg : pf h r0.1 r0.2 a v = some h1) (kk : WW p l e R s m args below meth c Q g base y ρ0 n0 c0 s0 (pc + 3) L S h1) : WW p l e R s m args below meth c Q g base y ρ0 n0 c0 s0 pc L (v :: .ref a :: S) h := by
  intro H locs cells slots ls ρ r
  obtain ⟨r1, r2, r3, r4, r5, r6, r7, r8⟩ := r
  obtain ⟨ci, j⟩ := r0
  obtain ⟨w1, w2, w3⟩ := fld_ok _ (lk2_mem hf)
  obtain ⟨k1, k2, k3, k4⟩ := cls_ok ci w2
  have ha : a < h.1 := okS_hd (okS_tl r6)
  obtain ⟨fs, hfs, hj, hn, hft, rfl⟩ := pf_at hg
  have h3 : 3 ≤ a := by
    rcases Nat.lt_or_ge a 3 with q | q
    · rw [(r2.2.2.2.2 a q).2] at hfs; cases hfs
    · exact q
  have he : (wl g ρ h)[a - 3]? = some (ρ a, .inr (ci, fs.map (rv ρ))) := by rw [wl_at g ρ h h3 ha, hfs]; rfl
  have hok : okE h.1 (.inr (ci, fs.set j v)) := by
    have h0 := r2.2.2.2.1 a ha
    rw [hfs] at h0
    refine ⟨h0.1, fun w hw => ?_⟩
    rcases List.mem_or_eq_of_mem_set hw with q | q
    · exact h0.2 w q
    · rw [q]; exact okS_hd r6
  have hset : (fs.map (rv ρ)).set j (rv ρ v) = (fs.set j v).map (rv ρ) := by rw [List.map_set]
  have hlen : j < (fs.map (rv ρ)).length := by rw [List.length_map]; exact hj
  have kk' : ∀ (H1 : Heap) (locs1 : List Loc), va_P (gD g) vwCl ((wl g ρ h).set (a - 3) (ρ a, .inr (ci, (fs.map (rv ρ)).set j (rv ρ v)))) H1 → va_D (fun q => base ≤ q) ((wl g ρ h).set (a - 3) (ρ a, .inr (ci, (fs.map (rv ρ)).set j (rv ρ v)))) → va_S (fun q => base ≤ q) s.heap H1 locs1 → W p l e R s m args below meth c H1 locs1 cells slots Q (F0 m (pc + 3) ls (S.map (rv ρ))) := by
    intro H1 locs1 hP hD hS
    rw [hset] at hP hD
    exact kk H1 locs1 cells slots ls ρ ⟨hS, r2.set h3 hok hP hD, r3, r4, r5, okS_tl (okS_tl r6), r7, r8⟩
  by_cases hfin : (TC ci j).2.2.2 = false
  · exact va_put M.1 M.2.1 (fun w hw => C.word hw args) k2 (yC ci) k4 k3 M.2.2.2.2.2.1 C.1 r2.1 r2.2.1 r1 (a - 3) he k1 j w3 (C.word w1 args) (fun x hx => hx) hfin (k4 j w3) (narrow_rv ρ _ _ hn) (fits_rv ρ _ _ hft) hlen hd kk'
  · rcases hfi with q | ⟨q1, q2⟩
    · exact absurd q hfin
    · have hfin : (TC ci j).2.2.2 = true := by simpa using hfin
      have hin : meth.name = "<init>" := M.2.2.2.2.2.2.2.2.1 q1
      exact va_putF M.1 M.2.1 (fun w hw => C.word hw args) k2 (yC ci) k4 k3 M.2.2.2.2.2.1 C.1 r2.1 r2.2.1 r1 (a - 3) he k1 j w3 (C.word w1 args) (fun x hx => hx) hfin hin q2 (k4 j w3) (narrow_rv ρ _ _ hn) (fits_rv ρ _ _ hft) hlen hd kk'
theorem st_gets {k a : Nat} (M : MX p l R s m meth c y) (C : CT base g s s.heap) (hd : decode (mCc y) pc = .ok (.getstatic k, 3)) (hf : lk2 staT (mOwn y) k = some a) (kk : WW p l e R s m args below meth c Q g base y ρ0 n0 c0 s0 (pc + 3) L (.ref a :: S) h) : WW p l e R s m args below meth c Q g base y ρ0 n0 c0 s0 pc L S h := by
  intro H locs cells slots ls ρ r
  obtain ⟨r1, r2, r3, r4, r5, r6, r7, r8⟩ := r
  obtain ⟨w1, w2⟩ := sta_ok _ (lk2_mem hf)
  have w2 : a = 1 ∨ a = 2 := w2
  have h3 := r2.2.2.1
  have ha : a < h.1 := by omega
  have hZ := C.2.2.2.2.1 a w2
  rw [← (r2.2.2.2.2 a (by omega)).1] at hZ
  exact va_gets M.1 M.2.1 hZ r1 M.2.2.2.2.2.1 (C.word w1 args) (fun x hx => hx) hd (kk H locs cells slots ls ρ ⟨r1, r2, r3, r4, r5, okS_cons ha r6, r7, r8⟩)
theorem inB_at {i : Int32} {n : Nat} (h : inB i n = true) : vp_in i n := by
  simp only [inB, Bool.not_eq_true', Bool.or_eq_false_iff, decide_eq_false_iff_not] at h
  exact fun q => q.elim h.1 h.2
theorem gaI_at {h : Hp} {a : Nat} {i v : Int32} (hg : gaI h a i = some v) : ∃ n f, h.2.2.2 a = .inl (0, n, .inl f) ∧ vp_in i n ∧ v = f i.toNatClampNeg := by
  unfold gaI at hg
  split at hg
  · next t n f e =>
    split at hg
    · next q => obtain ⟨rfl, q⟩ := q; exact ⟨n, f, e, inB_at q, (Option.some.inj hg).symm⟩
    · cases hg
  · cases hg
theorem paI_at {h h1 : Hp} {a : Nat} {i x : Int32} (hg : paI h a i x = some h1) : ∃ n f, h.2.2.2 a = .inl (0, n, .inl f) ∧ vp_in i n ∧ 3 ≤ a ∧ h1 = hset h a (.inl (0, n, .inl (upd f i.toNatClampNeg x))) := by
  unfold paI at hg
  split at hg
  · next t n f e =>
    split at hg
    · next q => obtain ⟨rfl, q, q3⟩ := q; exact ⟨n, f, e, inB_at q, q3, (Option.some.inj hg).symm⟩
    · cases hg
  · cases hg
theorem st_iald {a : Nat} {i v : Int32} (M : MX p l R s m meth c y) (C : CT base g s s.heap) (hd : decode (mCc y) pc = .ok (.iaload, 1)) (hg : gaI h a i = some v) (kk : WW p l e R s m args below meth c Q g base y ρ0 n0 c0 s0 (pc + 1) L (.int v :: S) h) : WW p l e R s m args below meth c Q g base y ρ0 n0 c0 s0 pc L (.int i :: .ref a :: S) h := by
  intro H locs cells slots ls ρ r
  obtain ⟨r1, r2, r3, r4, r5, r6, r7, r8⟩ := r
  obtain ⟨n, f, e, hi, rfl⟩ := gaI_at hg
  have ha : a < h.1 := okS_hd (okS_tl r6)
  have kk' := kk H locs cells slots ls ρ ⟨r1, r2, r3, r4, r5, okS_cons trivial (okS_tl (okS_tl r6)), r7, r8⟩
  rcases Nat.lt_or_ge a 3 with q | q
  · have h1 := r2.2.2.2.2 a q
    rw [h1.2] at e
    cases e
    have hT := C.2.2.2.1 a q
    rw [← h1.1] at hT
    exact va_ti M.1 M.2.1 hT r1 hi rfl hd kk'
  · have he : (wl g ρ h)[a - 3]? = some (ρ a, .inl (gA g 0, n, .inl f)) := by rw [wl_at g ρ h q ha, e]; rfl
    exact va_iald M.1 M.2.1 C.1 r2.1 (a - 3) 0 he (gT_at g (by omega)) hi hd kk'
theorem st_iast {a : Nat} {i x : Int32} {h1 : Hp} (M : MX p l R s m meth c y) (C : CT base g s s.heap) (hd : decode (mCc y) pc = .ok (.iastore, 1)) (hg : paI h a i x = some h1) (kk : WW p l e R s m args below meth c Q g base y ρ0 n0 c0 s0 (pc + 1) L S h1) : WW p l e R s m args below meth c Q g base y ρ0 n0 c0 s0 pc L (.int x :: .int i :: .ref a :: S) h := by
  intro H locs cells slots ls ρ r
  obtain ⟨r1, r2, r3, r4, r5, r6, r7, r8⟩ := r
  obtain ⟨n, f, e, hi, h3, rfl⟩ := paI_at hg
  have ha : a < h.1 := okS_hd (okS_tl (okS_tl r6))
  have he : (wl g ρ h)[a - 3]? = some (ρ a, .inl (gA g 0, n, .inl f)) := by rw [wl_at g ρ h h3 ha, e]; rfl
  exact va_iast M.1 M.2.1 C.1 r2.1 r2.2.1 r1 (a - 3) 0 he (gT_at g (by omega)) hi hd (fun H1 locs1 hP hD hS => kk H1 locs1 cells slots ls ρ ⟨hS, r2.set h3 ⟨Nat.le_of_ble_eq_true rfl, trivial⟩ hP hD, r3, r4, r5, okS_tl (okS_tl (okS_tl r6)), r7, r8⟩)
theorem old3 {base : Nat} {g : GG} {ρ : Nat → Nat} {h : Hp} {H : Heap} {a n t : Nat} {d : Dt} (r2 : Pic base g ρ h H) (e : h.2.2.2 a = .inl (t, n, d)) (ht : t ≠ 0) : 3 ≤ a := by
  rcases Nat.lt_or_ge a 3 with q | q
  · rw [(r2.2.2.2.2 a q).2] at e; cases e; exact absurd rfl ht
  · exact q
theorem gaJ_at {h : Hp} {a : Nat} {i : Int32} {v : Int64} (hg : gaJ h a i = some v) : ∃ n f, h.2.2.2 a = .inl (3, n, .inr (.inl f)) ∧ vp_in i n ∧ v = f i.toNatClampNeg := by
  unfold gaJ at hg
  split at hg
  · next t n f e =>
    split at hg
    · next q => obtain ⟨rfl, q⟩ := q; exact ⟨n, f, e, inB_at q, (Option.some.inj hg).symm⟩
    · cases hg
  · cases hg
theorem paJ_at {h h1 : Hp} {a : Nat} {i : Int32} {x : Int64} (hg : paJ h a i x = some h1) : ∃ n f, h.2.2.2 a = .inl (3, n, .inr (.inl f)) ∧ vp_in i n ∧ h1 = hset h a (.inl (3, n, .inr (.inl (vp_updL f i.toNatClampNeg x)))) := by
  unfold paJ at hg
  split at hg
  · next t n f e =>
    split at hg
    · next q => obtain ⟨rfl, q⟩ := q; exact ⟨n, f, e, inB_at q, (Option.some.inj hg).symm⟩
    · cases hg
  · cases hg
theorem gaD_at {h : Hp} {a : Nat} {i : Int32} {v : UInt64} (hg : gaD h a i = some v) : ∃ n f, h.2.2.2 a = .inl (4, n, .inr (.inr (.inr (.inl f)))) ∧ vp_in i n ∧ v = f i.toNatClampNeg := by
  unfold gaD at hg
  split at hg
  · next t n f e =>
    split at hg
    · next q => obtain ⟨rfl, q⟩ := q; exact ⟨n, f, e, inB_at q, (Option.some.inj hg).symm⟩
    · cases hg
  · cases hg
theorem paD_at {h h1 : Hp} {a : Nat} {i : Int32} {x : UInt64} (hg : paD h a i x = some h1) : ∃ n f, h.2.2.2 a = .inl (4, n, .inr (.inr (.inr (.inl f)))) ∧ vp_in i n ∧ h1 = hset h a (.inl (4, n, .inr (.inr (.inr (.inl (vf_upd f i.toNatClampNeg x)))))) := by
  unfold paD at hg
  split at hg
  · next t n f e =>
    split at hg
    · next q => obtain ⟨rfl, q⟩ := q; exact ⟨n, f, e, inB_at q, (Option.some.inj hg).symm⟩
    · cases hg
  · cases hg
theorem st_lald {a : Nat} {i : Int32} {v : Int64} (M : MX p l R s m meth c y) (C : CT base g s s.heap) (hd : decode (mCc y) pc = .ok (.laload, 1)) (hg : gaJ h a i = some v) (kk : WW p l e R s m args below meth c Q g base y ρ0 n0 c0 s0 (pc + 1) L (.long v :: S) h) : WW p l e R s m args below meth c Q g base y ρ0 n0 c0 s0 pc L (.int i :: .ref a :: S) h := by
  intro H locs cells slots ls ρ r
  obtain ⟨r1, r2, r3, r4, r5, r6, r7, r8⟩ := r
  obtain ⟨n, f, e, hi, rfl⟩ := gaJ_at hg
  have ha : a < h.1 := okS_hd (okS_tl r6)
  have h3 := old3 r2 e (by omega)
  have he : (wl g ρ h)[a - 3]? = some (ρ a, .inl (gA g 3, n, .inr (.inl f))) := by rw [wl_at g ρ h h3 ha, e]; rfl
  exact va_lald M.1 M.2.1 C.1 r2.1 (a - 3) 3 he (gT_at g (by omega)) hi hd (kk H locs cells slots ls ρ ⟨r1, r2, r3, r4, r5, okS_cons trivial (okS_tl (okS_tl r6)), r7, r8⟩)
theorem st_dald {a : Nat} {i : Int32} {v : UInt64} (M : MX p l R s m meth c y) (C : CT base g s s.heap) (hd : decode (mCc y) pc = .ok (.daload, 1)) (hg : gaD h a i = some v) (kk : WW p l e R s m args below meth c Q g base y ρ0 n0 c0 s0 (pc + 1) L (.double v :: S) h) : WW p l e R s m args below meth c Q g base y ρ0 n0 c0 s0 pc L (.int i :: .ref a :: S) h := by
  intro H locs cells slots ls ρ r
  obtain ⟨r1, r2, r3, r4, r5, r6, r7, r8⟩ := r
  obtain ⟨n, f, e, hi, rfl⟩ := gaD_at hg
  have ha : a < h.1 := okS_hd (okS_tl r6)
  have h3 := old3 r2 e (by omega)
  have he : (wl g ρ h)[a - 3]? = some (ρ a, .inl (gA g 4, n, .inr (.inr (.inr (.inl f))))) := by rw [wl_at g ρ h h3 ha, e]; rfl
  exact va_dald M.1 M.2.1 C.1 r2.1 (a - 3) 4 he (gT_at g (by omega)) hi hd (kk H locs cells slots ls ρ ⟨r1, r2, r3, r4, r5, okS_cons trivial (okS_tl (okS_tl r6)), r7, r8⟩)
theorem st_last {a : Nat} {i : Int32} {x : Int64} {h1 : Hp} (M : MX p l R s m meth c y) (C : CT base g s s.heap) (hd : decode (mCc y) pc = .ok (.lastore, 1)) (hg : paJ h a i x = some h1) (kk : WW p l e R s m args below meth c Q g base y ρ0 n0 c0 s0 (pc + 1) L S h1) : WW p l e R s m args below meth c Q g base y ρ0 n0 c0 s0 pc L (.long x :: .int i :: .ref a :: S) h := by
  intro H locs cells slots ls ρ r
  obtain ⟨r1, r2, r3, r4, r5, r6, r7, r8⟩ := r
  obtain ⟨n, f, e, hi, rfl⟩ := paJ_at hg
  have ha : a < h.1 := okS_hd (okS_tl (okS_tl r6))
  have h3 := old3 r2 e (by omega)
  have he : (wl g ρ h)[a - 3]? = some (ρ a, .inl (gA g 3, n, .inr (.inl f))) := by rw [wl_at g ρ h h3 ha, e]; rfl
  exact va_last M.1 M.2.1 C.1 r2.1 r2.2.1 r1 (a - 3) 3 he (gT_at g (by omega)) hi hd (fun H1 locs1 hP hD hS => kk H1 locs1 cells slots ls ρ ⟨hS, r2.set h3 ⟨Nat.le_of_ble_eq_true rfl, trivial⟩ hP hD, r3, r4, r5, okS_tl (okS_tl (okS_tl r6)), r7, r8⟩)
theorem st_dast {a : Nat} {i : Int32} {x : UInt64} {h1 : Hp} (M : MX p l R s m meth c y) (C : CT base g s s.heap) (hd : decode (mCc y) pc = .ok (.dastore, 1)) (hg : paD h a i x = some h1) (kk : WW p l e R s m args below meth c Q g base y ρ0 n0 c0 s0 (pc + 1) L S h1) : WW p l e R s m args below meth c Q g base y ρ0 n0 c0 s0 pc L (.double x :: .int i :: .ref a :: S) h := by
  intro H locs cells slots ls ρ r
  obtain ⟨r1, r2, r3, r4, r5, r6, r7, r8⟩ := r
  obtain ⟨n, f, e, hi, rfl⟩ := paD_at hg
  have ha : a < h.1 := okS_hd (okS_tl (okS_tl r6))
  have h3 := old3 r2 e (by omega)
  have he : (wl g ρ h)[a - 3]? = some (ρ a, .inl (gA g 4, n, .inr (.inr (.inr (.inl f))))) := by rw [wl_at g ρ h h3 ha, e]; rfl
  exact va_dast M.1 M.2.1 C.1 r2.1 r2.2.1 r1 (a - 3) 4 he (gT_at g (by omega)) hi hd (fun H1 locs1 hP hD hS => kk H1 locs1 cells slots ls ρ ⟨hS, r2.set h3 ⟨Nat.le_of_ble_eq_true rfl, trivial⟩ hP hD, r3, r4, r5, okS_tl (okS_tl (okS_tl r6)), r7, r8⟩)
theorem gaR_at {h : Hp} {a : Nat} {i : Int32} {v : Option Nat} (hg : gaR h a i = some v) : ∃ (t : Nat) (n : Nat) (f : Nat → Option Nat), (t = 1 ∨ t = 2) ∧ h.2.2.2 a = .inl (t, n, .inr (.inr (.inr (.inr f)))) ∧ vp_in i n ∧ v = f i.toNatClampNeg := by
  unfold gaR at hg
  split at hg
  · next t n f e =>
    split at hg
    · next q => exact ⟨t, n, f, q.1, e, inB_at q.2, (Option.some.inj hg).symm⟩
    · cases hg
  · cases hg
theorem isO_at {h : Hp} {a ci : Nat} (hg : isO h a ci = true) : ∃ fs, h.2.2.2 a = .inr (ci, fs) := by
  unfold isO at hg
  split at hg
  · next cc fs e => have q := of_decide_eq_true hg; subst q; exact ⟨fs, e⟩
  · cases hg
theorem paR_at {h h1 : Hp} {a v : Nat} {i : Int32} (hg : paR h a i v = some h1) : ∃ (t : Nat) (n : Nat) (f : Nat → Option Nat) (fs : List Value), (t = 1 ∨ t = 2) ∧ h.2.2.2 a = .inl (t, n, .inr (.inr (.inr (.inr f)))) ∧ vp_in i n ∧ h.2.2.2 v = .inr (elC t, fs) ∧ h1 = hset h a (.inl (t, n, .inr (.inr (.inr (.inr (va_up f i.toNatClampNeg (some v))))))) := by
  unfold paR at hg
  split at hg
  · next t n f e =>
    split at hg
    · next q => obtain ⟨fs, hfs⟩ := isO_at q.2.2; exact ⟨t, n, f, fs, q.1, e, inB_at q.2.1, hfs, (Option.some.inj hg).symm⟩
    · cases hg
  · cases hg
theorem rv_rf (ρ : Nat → Nat) (v : Option Nat) : rv ρ (va_rf v) = va_rf (v.map ρ) := by cases v <;> rfl
theorem st_aald {a : Nat} {i : Int32} {v : Option Nat} (M : MX p l R s m meth c y) (C : CT base g s s.heap) (hd : decode (mCc y) pc = .ok (.aaload, 1)) (hg : gaR h a i = some v) (kk : WW p l e R s m args below meth c Q g base y ρ0 n0 c0 s0 (pc + 1) L (va_rf v :: S) h) : WW p l e R s m args below meth c Q g base y ρ0 n0 c0 s0 pc L (.int i :: .ref a :: S) h := by
  intro H locs cells slots ls ρ r
  obtain ⟨r1, r2, r3, r4, r5, r6, r7, r8⟩ := r
  obtain ⟨t, n, f, ht, e, hi, rfl⟩ := gaR_at hg
  have ha : a < h.1 := okS_hd (okS_tl r6)
  have h3 := old3 r2 e (by omega)
  have he : (wl g ρ h)[a - 3]? = some (ρ a, .inl (gA g t, n, .inr (.inr (.inr (.inr (fun i => (f i).map ρ)))))) := by rw [wl_at g ρ h h3 ha, e]; rfl
  have hty : ∃ C0, tyO t = .object C0 := by rcases ht with rfl | rfl <;> exact ⟨_, rfl⟩
  obtain ⟨C0, hC0⟩ := hty
  have hT := gT_at g (t := t) (by omega)
  rw [hC0] at hT
  have hok : okV h.1 (va_rf (f i.toNatClampNeg)) := by
    have h0 := r2.2.2.2.1 a ha
    rw [e] at h0
    cases hv : f i.toNatClampNeg with
    | none => trivial
    | some k => exact h0.2 _ _ hv
  have kk' := kk H locs cells slots ls ρ ⟨r1, r2, r3, r4, r5, okS_cons hok (okS_tl (okS_tl r6)), r7, r8⟩
  rw [List.map_cons, rv_rf] at kk'
  exact va_aldq M.1 M.2.1 C.1 r2.1 (a - 3) t he hT hi hd kk'
theorem st_aast {a v : Nat} {i : Int32} {h1 : Hp} (M : MX p l R s m meth c y) (C : CT base g s s.heap) (hd : decode (mCc y) pc = .ok (.aastore, 1)) (hg : paR h a i v = some h1) (kk : WW p l e R s m args below meth c Q g base y ρ0 n0 c0 s0 (pc + 1) L S h1) : WW p l e R s m args below meth c Q g base y ρ0 n0 c0 s0 pc L (.ref v :: .int i :: .ref a :: S) h := by
  intro H locs cells slots ls ρ r
  obtain ⟨r1, r2, r3, r4, r5, r6, r7, r8⟩ := r
  obtain ⟨t, n, f, fs, ht, e, hi, hv, rfl⟩ := paR_at hg
  have ha : a < h.1 := okS_hd (okS_tl (okS_tl r6))
  have hvl : v < h.1 := okS_hd r6
  have h3 := old3 r2 e (by omega)
  have hv3 : 3 ≤ v := by
    rcases Nat.lt_or_ge v 3 with q | q
    · rw [(r2.2.2.2.2 v q).2] at hv; cases hv
    · exact q
  have he : (wl g ρ h)[a - 3]? = some (ρ a, .inl (gA g t, n, .inr (.inr (.inr (.inr (fun i => (f i).map ρ)))))) := by rw [wl_at g ρ h h3 ha, e]; rfl
  have hev : (wl g ρ h)[v - 3]? = some (ρ v, .inr (elC t, fs.map (rv ρ))) := by rw [wl_at g ρ h hv3 hvl, hv]; rfl
  have hcl : vwCl[elC t]? = some (RC (elC t), TC (elC t), NC (elC t)) := (cls_ok (elC t) (by unfold elC; split <;> omega)).1
  have hT : (gT g)[t]? = some (gA g t, .object (RC (elC t))) := by
    rw [gT_at g (t := t) (by omega)]
    rcases ht with rfl | rfl <;> rfl
  have hok : okE h.1 (.inl (t, n, .inr (.inr (.inr (.inr (va_up f i.toNatClampNeg (some v))))))) := by
    have h0 := r2.2.2.2.1 a ha
    rw [e] at h0
    refine ⟨h0.1, fun j k hj => ?_⟩
    unfold va_up at hj
    split at hj
    · cases hj; exact hvl
    · exact h0.2 j k hj
  have hup : va_up (fun i => (f i).map ρ) i.toNatClampNeg (some (ρ v)) = fun j => (va_up f i.toNatClampNeg (some v) j).map ρ := by
    funext j
    unfold va_up
    split <;> rfl
  refine va_astq (r := (RC (elC t), TC (elC t), NC (elC t))) M.1 M.2.1 C.1 r2.1 r2.2.1 r1 (a - 3) t (v - 3) (elC t) he hT hev hcl hi hd (fun H1 locs1 hP hD hS => ?_)
  rw [hup] at hP hD
  exact kk H1 locs1 cells slots ls ρ ⟨hS, r2.set h3 hok hP hD, r3, r4, r5, okS_tl (okS_tl (okS_tl r6)), r7, r8⟩
theorem alen_at {h : Hp} {a N : Nat} (hg : alen h a = some N) : ∃ t d, h.2.2.2 a = .inl (t, N, d) := by
  unfold alen at hg
  split at hg
  · next t n d e => cases hg; exact ⟨t, d, e⟩
  · cases hg
theorem st_alen {a N : Nat} (M : MX p l R s m meth c y) (C : CT base g s s.heap) (hd : decode (mCc y) pc = .ok (.arraylength, 1)) (hg : alen h a = some N) (kk : WW p l e R s m args below meth c Q g base y ρ0 n0 c0 s0 (pc + 1) L (.int (Int32.ofNat N) :: S) h) : WW p l e R s m args below meth c Q g base y ρ0 n0 c0 s0 pc L (.ref a :: S) h := by
  intro H locs cells slots ls ρ r
  obtain ⟨r1, r2, r3, r4, r5, r6, r7, r8⟩ := r
  obtain ⟨t, d, e⟩ := alen_at hg
  have ha : a < h.1 := okS_hd r6
  have kk' := kk H locs cells slots ls ρ ⟨r1, r2, r3, r4, r5, okS_cons trivial (okS_tl r6), r7, r8⟩
  have h0 := r2.2.2.2.1 a ha
  rw [e] at h0
  rcases Nat.lt_or_ge a 3 with q | q
  · have h1 := r2.2.2.2.2 a q
    rw [h1.2] at e
    cases e
    have hT := C.2.2.2.1 a q
    rw [← h1.1] at hT
    exact va_tlen M.1 M.2.1 hT r1 rfl hd kk'
  · have he : (wl g ρ h)[a - 3]? = some (ρ a, .inl (gA g t, N, rD ρ d)) := by rw [wl_at g ρ h q ha, e]; rfl
    exact va_alen M.1 M.2.1 C.1 r2.1 (a - 3) t he (gT_at g h0.1) rfl hd kk'
end STEPS
end
section
section CALLS
variable {p : Program} {l : Launch} {e : Env} {R : Room} {s : State} {m : MethodId} {args : Array Value} {below : List Frame} {meth : Method} {c : Code} {Q : State → Prop} {g : GG} {base y : Nat} {ρ0 : Nat → Nat} {n0 c0 s0 pc : Nat} {L : Lo} {S : List Value} {h : Hp}
theorem rv_default (ρ : Nat → Nat) (ty : FieldType) : rv ρ (defaultValue ty) = defaultValue ty := by cases ty <;> rfl
theorem okV_default (n : Nat) (ty : FieldType) : okV n (defaultValue ty) := by cases ty <;> trivial
theorem rE_blankO (g : GG) (ρ : Nat → Nat) (ci : Nat) : rE g ρ (blankO ci) = blankO ci := by
  unfold blankO
  show Sum.inr (ci, _) = Sum.inr (ci, _)
  rw [List.map_map]
  congr 2
  exact List.map_congr_left fun k _ => rv_default ρ _
theorem rl_push {H H1 : Heap} {locs : List Loc} {cells slots q k : Nat} {ls : Array Slot} {ρ : Nat → Nat} {x : va_E} (r : Rl s g base y ρ0 n0 c0 s0 L S h H locs cells slots ls ρ) (hx : okE h.1 x) (hP : va_P (gD g) vwCl (wl g ρ h ++ [(q, rE g ρ x)]) H1) (hD : va_D (fun q => base ≤ q) (wl g ρ h ++ [(q, rE g ρ x)])) (hS : va_S (fun q => base ≤ q) s.heap H1 locs) : Rl s g base y ρ0 n0 c0 s0 L (.ref h.1 :: S) (hnew h x k) H1 locs (cells + 1) (slots + k) ls (ext ρ h.1 q) := by
  obtain ⟨r1, r2, r3, r4, r5, r6, r7, r8⟩ := r
  refine ⟨hS, r2.push hx hP hD, fun j hj => by rw [ext_lt ρ h.1 q j (by omega)]; exact r3 j hj, Nat.le_succ_of_le r4, r5.ext (Nat.le_succ _) (ext_lt ρ h.1 q), okS_cons (Nat.lt_succ_self _) (fun w hw => okV_le (Nat.le_succ _) (r6 w hw)), ?_, ?_⟩
  · show cells + 1 + c0 = h.2.1 + 1; omega
  · show slots + k + s0 = h.2.2.1 + k; omega
theorem map_push {q : Nat} {ρ : Nat → Nat} (r6 : ∀ v ∈ S, okV h.1 v) : (Value.ref h.1 :: S).map (rv (ext ρ h.1 q)) = .ref q :: S.map (rv ρ) := by
  rw [List.map_cons, map_ext (ext_lt ρ h.1 q) r6]
  show Value.ref (ext ρ h.1 q h.1) :: _ = _
  simp [ext]
theorem st_new {k ci : Nat} (M : MX p l R s m meth c y) (C : CT base g s s.heap) (hd : decode (mCc y) pc = .ok (.new k, 3)) (hf : lk2 clnT (mOwn y) k = some ci) (hc : h.2.1 + 1 ≤ c0 + R.cells) (hs : h.2.2.1 + NC ci ≤ s0 + R.slots) (kk : WW p l e R s m args below meth c Q g base y ρ0 n0 c0 s0 (pc + 3) L (.ref h.1 :: S) (hnew h (blankO ci) (NC ci))) : WW p l e R s m args below meth c Q g base y ρ0 n0 c0 s0 pc L S h := by
  intro H locs cells slots ls ρ r
  obtain ⟨w1, w2, w3, w4⟩ := cln_ok _ (lk2_mem hf)
  obtain ⟨k1, k2, k3, k4⟩ := cls_ok ci w4
  have r7 : cells + c0 = h.2.1 := r.2.2.2.2.2.2.1
  have r8 : slots + s0 = h.2.2.1 := r.2.2.2.2.2.2.2
  have hA : ∀ q : Nat, s.heap.size ≤ q → (fun q => base ≤ q) q := fun q hq => Nat.le_trans C.2.1 hq
  have hok : okE h.1 (blankO ci) := by
    refine ⟨w4, fun v hv => ?_⟩
    obtain ⟨j, -, rfl⟩ := List.mem_map.mp hv
    exact okV_default _ _
  refine va_new (fs := (List.range (NC ci)).map (fun k => defaultValue (yC ci k))) M.1 M.2.1 (fun w hw => C.word hw args) k2 (yC ci) k4 M.2.2.2.2.2.1 (C.word w1 args) (C.word w2 args) (C.word w3 args) C.1 r.2.1.1 r.2.1.2.1 r.1 hA k1 (fun j hj => ?_) (by omega) (by omega) hd (fun q H1 hP hD hS => ?_)
  · unfold vp_V
    rw [List.getD_eq_getElem?_getD]
    simp [hj]
  · have hP' : va_P (gD g) vwCl (wl g ρ h ++ [(q, rE g ρ (blankO ci))]) H1 := by rw [rE_blankO]; exact hP
    have hD' : va_D (fun q => base ≤ q) (wl g ρ h ++ [(q, rE g ρ (blankO ci))]) := by rw [rE_blankO]; exact hD
    have := kk H1 locs (cells + 1) (slots + NC ci) ls (ext ρ h.1 q) (rl_push r hok hP' hD' hS)
    rwa [map_push r.2.2.2.2.2.1] at this
theorem cA_eq {H : Heap} {D : va_G} {cl : List vw_C} {T : List (ClassId × FieldType)} {cA : ClassId} {ty : FieldType} {g : GG} {t : Nat} {U : State} (hK : va_K D cl (T ++ [(cA, ty)]) U) (C : CT base g U H) (ht : t < 5) (hty : tyO t = ty) (hT : T.length = 5) : cA = gA g t := by
  have h1 := (hK.2 5 (cA, ty) (by rw [List.getElem?_append_right (by omega), hT]; rfl)).2
  have h2 := (C.1.2 t (gA g t, tyO t) (gT_at g ht)).2
  rw [hty] at h2
  cases ty with
  | object C0 =>
    obtain ⟨k1, k2, -, -, -, e1⟩ := h1
    obtain ⟨k3, k4, -, -, -, e2⟩ := h2
    exact Option.some.inj (e1.symm.trans e2)
  | _ => exact Option.some.inj (Eq.trans (Eq.symm h1) h2)
theorem st_newarray_int {N : Int32} (M : MX p l R s m meth c y) (C : CT base g s s.heap) (hd : decode (mCc y) pc = .ok (.newarray .int, 2)) (hN : ¬ N < 0 ∧ N.toNatClampNeg ≤ 60000) (hc : h.2.1 + 1 ≤ c0 + R.cells) (hs : h.2.2.1 + N.toNatClampNeg ≤ s0 + R.slots) (kk : WW p l e R s m args below meth c Q g base y ρ0 n0 c0 s0 (pc + 2) L (.ref h.1 :: S) (hnew h (blank0 0 N.toNatClampNeg) N.toNatClampNeg)) : WW p l e R s m args below meth c Q g base y ρ0 n0 c0 s0 pc L (.int N :: S) h := by
  intro H locs cells slots ls ρ r
  have r7 : cells + c0 = h.2.1 := r.2.2.2.2.2.2.1
  have r8 : slots + s0 = h.2.2.1 := r.2.2.2.2.2.2.2
  have hA : ∀ q : Nat, s.heap.size ≤ q → (fun q => base ≤ q) q := fun q hq => Nat.le_trans C.2.1 hq
  have hok : okE h.1 (blank0 0 N.toNatClampNeg) := ⟨Nat.le_of_ble_eq_true rfl, trivial⟩
  refine va_newa (atype := .int) (ty := .int) (a0 := (N.toNatClampNeg, .inl (fun _ => 0))) M.1 M.2.1 (C.wordW w_arr.1 rfl args) rfl C.1 r.2.1.1 r.2.1.2.1 r.1 hA (fun cA => rfl) hN.1 rfl (by show N.toNatClampNeg * _ ≤ _; have := hN.2; simp only [componentBytes]; omega) (by omega) (by omega) hd (fun q cA H1 hK hP hD hS => ?_)
  have e := cA_eq (t := 0) hK C (Nat.le_of_ble_eq_true rfl) rfl rfl
  subst e
  have := kk H1 locs (cells + 1) (slots + N.toNatClampNeg) ls (ext ρ h.1 q) (rl_push (S := S) (L := L) (x := blank0 0 N.toNatClampNeg) ⟨r.1, r.2.1, r.2.2.1, r.2.2.2.1, r.2.2.2.2.1, okS_tl r.2.2.2.2.2.1, r7, r8⟩ hok hP hD hS)
  rwa [map_push (okS_tl r.2.2.2.2.2.1)] at this
theorem st_newarray_long {N : Int32} (M : MX p l R s m meth c y) (C : CT base g s s.heap) (hd : decode (mCc y) pc = .ok (.newarray .long, 2)) (hN : ¬ N < 0 ∧ N.toNatClampNeg ≤ 60000) (hc : h.2.1 + 1 ≤ c0 + R.cells) (hs : h.2.2.1 + N.toNatClampNeg ≤ s0 + R.slots) (kk : WW p l e R s m args below meth c Q g base y ρ0 n0 c0 s0 (pc + 2) L (.ref h.1 :: S) (hnew h (blank0 3 N.toNatClampNeg) N.toNatClampNeg)) : WW p l e R s m args below meth c Q g base y ρ0 n0 c0 s0 pc L (.int N :: S) h := by
  intro H locs cells slots ls ρ r
  have r7 : cells + c0 = h.2.1 := r.2.2.2.2.2.2.1
  have r8 : slots + s0 = h.2.2.1 := r.2.2.2.2.2.2.2
  have hA : ∀ q : Nat, s.heap.size ≤ q → (fun q => base ≤ q) q := fun q hq => Nat.le_trans C.2.1 hq
  have hok : okE h.1 (blank0 3 N.toNatClampNeg) := ⟨Nat.le_of_ble_eq_true rfl, trivial⟩
  refine va_newa (atype := .long) (ty := .long) (a0 := (N.toNatClampNeg, .inr (.inl (fun _ => 0)))) M.1 M.2.1 (C.wordW w_arr.2.1 rfl args) rfl C.1 r.2.1.1 r.2.1.2.1 r.1 hA (fun cA => rfl) hN.1 rfl (by show N.toNatClampNeg * _ ≤ _; have := hN.2; simp only [componentBytes]; omega) (by omega) (by omega) hd (fun q cA H1 hK hP hD hS => ?_)
  have e := cA_eq (t := 3) hK C (Nat.le_of_ble_eq_true rfl) rfl rfl
  subst e
  have := kk H1 locs (cells + 1) (slots + N.toNatClampNeg) ls (ext ρ h.1 q) (rl_push (S := S) (L := L) (x := blank0 3 N.toNatClampNeg) ⟨r.1, r.2.1, r.2.2.1, r.2.2.2.1, r.2.2.2.2.1, okS_tl r.2.2.2.2.2.1, r7, r8⟩ hok hP hD hS)
  rwa [map_push (okS_tl r.2.2.2.2.2.1)] at this
theorem st_newarray_double {N : Int32} (M : MX p l R s m meth c y) (C : CT base g s s.heap) (hd : decode (mCc y) pc = .ok (.newarray .double, 2)) (hN : ¬ N < 0 ∧ N.toNatClampNeg ≤ 60000) (hc : h.2.1 + 1 ≤ c0 + R.cells) (hs : h.2.2.1 + N.toNatClampNeg ≤ s0 + R.slots) (kk : WW p l e R s m args below meth c Q g base y ρ0 n0 c0 s0 (pc + 2) L (.ref h.1 :: S) (hnew h (blank0 4 N.toNatClampNeg) N.toNatClampNeg)) : WW p l e R s m args below meth c Q g base y ρ0 n0 c0 s0 pc L (.int N :: S) h := by
  intro H locs cells slots ls ρ r
  have r7 : cells + c0 = h.2.1 := r.2.2.2.2.2.2.1
  have r8 : slots + s0 = h.2.2.1 := r.2.2.2.2.2.2.2
  have hA : ∀ q : Nat, s.heap.size ≤ q → (fun q => base ≤ q) q := fun q hq => Nat.le_trans C.2.1 hq
  have hok : okE h.1 (blank0 4 N.toNatClampNeg) := ⟨Nat.le_of_ble_eq_true rfl, trivial⟩
  refine va_newa (atype := .double) (ty := .double) (a0 := (N.toNatClampNeg, .inr (.inr (.inr (.inl (fun _ => 0)))))) M.1 M.2.1 (C.wordW w_arr.2.2 rfl args) rfl C.1 r.2.1.1 r.2.1.2.1 r.1 hA (fun cA => rfl) hN.1 rfl (by show N.toNatClampNeg * _ ≤ _; have := hN.2; simp only [componentBytes]; omega) (by omega) (by omega) hd (fun q cA H1 hK hP hD hS => ?_)
  have e := cA_eq (t := 4) hK C (Nat.le_of_ble_eq_true rfl) rfl rfl
  subst e
  have := kk H1 locs (cells + 1) (slots + N.toNatClampNeg) ls (ext ρ h.1 q) (rl_push (S := S) (L := L) (x := blank0 4 N.toNatClampNeg) ⟨r.1, r.2.1, r.2.2.1, r.2.2.2.1, r.2.2.2.2.1, okS_tl r.2.2.2.2.2.1, r7, r8⟩ hok hP hD hS)
  rwa [map_push (okS_tl r.2.2.2.2.2.1)] at this
theorem st_anewarray {N : Int32} {k t : Nat} (M : MX p l R s m meth c y) (C : CT base g s s.heap) (hd : decode (mCc y) pc = .ok (.anewarray k, 3)) (hf : lk2 arrT (mOwn y) k = some t) (hN : ¬ N < 0 ∧ N.toNatClampNeg ≤ 60000) (hc : h.2.1 + 1 ≤ c0 + R.cells) (hs : h.2.2.1 + N.toNatClampNeg ≤ s0 + R.slots) (kk : WW p l e R s m args below meth c Q g base y ρ0 n0 c0 s0 (pc + 3) L (.ref h.1 :: S) (hnew h (blank0 t N.toNatClampNeg) N.toNatClampNeg)) : WW p l e R s m args below meth c Q g base y ρ0 n0 c0 s0 pc L (.int N :: S) h := by
  intro H locs cells slots ls ρ r
  obtain ⟨w1, w2, w3⟩ := arr_ok _ (lk2_mem hf)
  have w3 : t = 1 ∨ t = 2 := w3
  have r7 : cells + c0 = h.2.1 := r.2.2.2.2.2.2.1
  have r8 : slots + s0 = h.2.2.1 := r.2.2.2.2.2.2.2
  have hA : ∀ q : Nat, s.heap.size ≤ q → (fun q => base ≤ q) q := fun q hq => Nat.le_trans C.2.1 hq
  have eb : blank0 t N.toNatClampNeg = .inl (t, N.toNatClampNeg, .inr (.inr (.inr (.inr (fun _ => none))))) := by rcases w3 with rfl | rfl <;> rfl
  have hok : okE h.1 (blank0 t N.toNatClampNeg) := by
    rw [eb]
    have ht5 : t < 5 := by omega
    exact ⟨ht5, fun i k hk => by cases hk⟩
  refine va_newq (C := arN t) M.1 M.2.1 M.2.2.2.2.2.1 (C.word w1 args) (C.2.2.2.2.2.2.2.2.1 t w3) C.1 r.2.1.1 r.2.1.2.1 r.1 hA hN.1 rfl (by have := hN.2; omega) (by omega) (by omega) hd (fun q cA H1 hK hP hD hS => ?_)
  have e := cA_eq (t := t) hK C (by omega) (by rcases w3 with rfl | rfl <;> rfl) rfl
  subst e
  have eE : rE g ρ (blank0 t N.toNatClampNeg) = .inl (gA g t, N.toNatClampNeg, .inr (.inr (.inr (.inr (fun _ => none))))) := by rw [eb]; rfl
  have := kk H1 locs (cells + 1) (slots + N.toNatClampNeg) ls (ext ρ h.1 q) (rl_push (S := S) (L := L) (x := blank0 t N.toNatClampNeg) ⟨r.1, r.2.1, r.2.2.1, r.2.2.2.1, r.2.2.2.2.1, okS_tl r.2.2.2.2.2.1, r7, r8⟩ hok (by rw [eE]; exact hP) (by rw [eE]; exact hD) hS)
  rwa [map_push (okS_tl r.2.2.2.2.2.1)] at this
theorem st_objInit {k a c1 : Nat} (M : MX p l R s m meth c y) (C : CT base g s s.heap) (hd : decode (mCc y) pc = .ok (.invokespecial k, 3)) (hf : lk2 calT (mOwn y) k = some (9, c1)) (hF : 1 ≤ mF y) (hL : csum S + 12 ≤ mL y) (kk : WW p l e R s m args below meth c Q g base y ρ0 n0 c0 s0 (pc + 3) L S h) : WW p l e R s m args below meth c Q g base y ρ0 n0 c0 s0 pc L (.ref a :: S) h := by
  intro H locs cells slots ls ρ r
  obtain ⟨r1, r2, r3, r4, r5, r6, r7, r8⟩ := r
  have w1 : Cond.methodLink (ownN (mOwn y)) k Lib.objectInit ∈ Wg := cal_ok _ (lk2_mem hf)
  have hRl := M.2.2.2.2.2.2.2.2.2.2.1
  refine W.objInit M.1 M.2.1 M.2.2.2.2.2.1 (C.word w1 args) (C.word w_init.1 args) (C.word w_init.2 args) rfl (by show ls.size = _; rw [r5.2.1, M.2.2.2.2.1]) rfl hd (Nat.le_trans hF M.2.2.2.2.2.2.2.2.2.1) ?_ (kk H locs cells slots ls ρ ⟨r1, r2, r3, r4, r5, okS_tl r6, r7, r8⟩)
  show 2 * 0 + ((S.map (rv ρ)).map fun v => v.category).sum + 12 ≤ _
  rw [csum_map]
  omega
theorem cpI_at {h h1 : Hp} {a0 a1 : Nat} {sp dp z : Int32} (hg : cpI h a0 sp a1 dp z = some h1) : ∃ (n0 n1 : Nat) (f f1 : Nat → Int32), h.2.2.2 a0 = .inl (0, n0, .inl f) ∧ h.2.2.2 a1 = .inl (0, n1, .inl f1) ∧ (3 ≤ a0 ∧ 3 ≤ a1) ∧ (¬ sp < 0 ∧ ¬ dp < 0 ∧ ¬ z < 0) ∧ sp.toNatClampNeg + z.toNatClampNeg ≤ n0 ∧ dp.toNatClampNeg + z.toNatClampNeg ≤ n1 ∧ h1 = hset h a1 (.inl (0, n1, .inl (va_cpy f f1 sp.toNatClampNeg dp.toNatClampNeg z.toNatClampNeg))) := by
  unfold cpI at hg
  split at hg
  · next t0 n0 f t1 n1 f1 e0 e1 =>
    split at hg
    · next q =>
      obtain ⟨⟨rfl, rfl, q3, q4⟩, q5, q6, q7⟩ := q
      exact ⟨n0, n1, f, f1, e0, e1, ⟨q3, q4⟩, q5, q6, q7, (Option.some.inj hg).symm⟩
    · cases hg
  · cases hg
theorem st_copy {k a0 a1 c1 : Nat} {sp dp z : Int32} {h1 : Hp} (M : MX p l R s m meth c y) (C : CT base g s s.heap) (hd : decode (mCc y) pc = .ok (.invokestatic k, 3)) (hf : lk2 calT (mOwn y) k = some (8, c1)) (hF : 1 ≤ mF y) (hL : csum S + 18 ≤ mL y) (hg : cpI h a0 sp a1 dp z = some h1) (kk : WW p l e R s m args below meth c Q g base y ρ0 n0 c0 s0 (pc + 3) L S h1) : WW p l e R s m args below meth c Q g base y ρ0 n0 c0 s0 pc L (.int z :: .int dp :: .ref a1 :: .int sp :: .ref a0 :: S) h := by
  intro H locs cells slots ls ρ r
  obtain ⟨r1, r2, r3, r4, r5, r6, r7, r8⟩ := r
  have w1 : Cond.methodLink (ownN (mOwn y)) k arraycopyName ∈ Wg := cal_ok _ (lk2_mem hf)
  obtain ⟨n0', n1', f, f1, e0, e1, h3, hp, b0, b1, rfl⟩ := cpI_at hg
  have hRl := M.2.2.2.2.2.2.2.2.2.2.1
  have ha1 : a1 < h.1 := okS_hd (okS_tl (okS_tl r6))
  have ha0 : a0 < h.1 := okS_hd (okS_tl (okS_tl (okS_tl (okS_tl r6))))
  have he0 : (wl g ρ h)[a0 - 3]? = some (ρ a0, .inl (gA g 0, n0', .inl f)) := by rw [wl_at g ρ h h3.1 ha0, e0]; rfl
  have he1 : (wl g ρ h)[a1 - 3]? = some (ρ a1, .inl (gA g 0, n1', .inl f1)) := by rw [wl_at g ρ h h3.2 ha1, e1]; rfl
  have r6' := okS_tl (okS_tl (okS_tl (okS_tl (okS_tl r6))))
  refine va_copyi M.1 M.2.1 (by rw [r5.2.1, M.2.2.2.2.1]) M.2.2.2.2.2.1 (C.word w1 args) (C.word w_copy.1 args) (C.word w_copy.2.1 args) (C.word w_copy.2.2 args) C.1 r2.1 r2.2.1 r1 (a0 - 3) (a1 - 3) 0 0 he0 he1 (gT_at g (Nat.le_of_ble_eq_true rfl)) (gT_at g (Nat.le_of_ble_eq_true rfl)) rfl hp.1 hp.2.1 hp.2.2 b0 b1 (fun _ _ => rfl) (Nat.le_trans hF M.2.2.2.2.2.2.2.2.2.1) ?_ hd (fun H1 locs1 hP hD hS => kk H1 locs1 cells slots ls ρ ⟨hS, r2.set h3.2 ⟨Nat.le_of_ble_eq_true rfl, trivial⟩ hP hD, r3, r4, r5, r6', r7, r8⟩)
  rw [csum_map]
  show csum S + (7 + 11) ≤ _
  omega
end CALLS
end
section
section SOUND
/-- behind a method that returns, and behind one that throws -/
def QC (g : GG) (base : Nat) (ρ0 : Nat → Nat) (n0 : Nat) (o : Ot) : Array Value → State → Outcome → State → Prop := fun _ st oc t =>
  ∃ (v : Option Value) (ρ' : Nat → Nat), o.1 = .inl v ∧ oc = .returned (v.map (rv ρ')) ∧ (∀ k, k < n0 → ρ' k = ρ0 k) ∧ n0 ≤ o.2.1 ∧ Pic base g ρ' o.2 t.heap ∧ (∀ w, v = some w → okV o.2.1 w) ∧ va_F (fun q => base ≤ q) st t
def XC (g : GG) (base : Nat) (ρ0 : Nat → Nat) (n0 : Nat) (o : Ot) : String → State → State → Prop := fun E st t =>
  o.1 = .inr E ∧ ∃ (ρ' : Nat → Nat), (∀ k, k < n0 → ρ' k = ρ0 k) ∧ n0 ≤ o.2.1 ∧ Pic base g ρ' o.2 t.heap ∧ va_F (fun q => base ≤ q) st t
def PC (g : GG) (base : Nat) (ρ : Nat → Nat) (h : Hp) (As : List Value) : Array Value → State → Prop := fun v U => v = (As.map (rv ρ)).toArray ∧ CT base g U U.heap ∧ Pic base g ρ h U.heap ∧ ∀ w ∈ As, okV h.1 w
theorem PC_blind (g : GG) (base : Nat) (ρ : Nat → Nat) (h : Hp) (As : List Value) : FrameBlind (PC g base ρ h As) := fun a U gg mk ⟨h1, h2, h3, h4⟩ => ⟨h1, h2.calling gg mk a, h3, h4⟩
theorem ofF {l : Launch} {k : Nat} (hk : mthP k) {rm : Room} {Pc : Array Value → State → Prop} {Qc : Array Value → State → Outcome → State → Prop} {XC : String → State → State → Prop} {mc ms : Nat} {free : Addr → Prop}
    (body : ∀ p e s m args below meth c s₁, BodyLoose p l (mY k) (headSpec (mW k :: Wg) rm) (mCc k) (mMax k) (mRet k) e s m args below meth c s₁ → c.maxLocals = mMax k → c.exceptionTable.toList = tableOf (mHh k) → Pc args s →
      W p l e rm s m args below meth c s.heap [] 0 0 (vx_MQ below Qc XC args s mc ms free) (entryFrame m args (mMax k))) : vx_Met l (mY k) (mW k :: Wg) rm Pc Qc XC mc ms free := by
  refine MetFree.of_bodySF (code := mCc k) (maxLocals := mMax k) (ret := mRet k) hk.2.2.2.1 ?_ ?_
  · intro args s m h hn
    have h0 := atoms_spec (ws := mW k :: Wg) h (mW k) List.mem_cons_self
    unfold mW at h0
    split at h0
    · obtain ⟨meth, c, h1, h2, h3, h4, h5, h6, -, -⟩ := Cond.code_spec hn h0
      exact ⟨meth, c, h1, h2, h3, h4, h5, h6⟩
    · obtain ⟨m9, meth, c, hn9, h1, h2, h3, h4, -, h5, h6, -⟩ := Cond.codeWith_spec h0
      cases hn.symm.trans hn9
      exact ⟨meth, c, h1, h2, h3, h4, h5, h6⟩
  · intro p e s m args below meth c s₁ B hml hP _
    have hh0 : s₁.heap = s.heap := by rw [B.state]; rfl
    have ht : c.exceptionTable.toList = tableOf (mHh k) := by
      have h0 := atoms_spec (ws := mW k :: Wg) B.pre (mW k) List.mem_cons_self
      unfold mW at h0
      split at h0
      · next he =>
        obtain ⟨meth9, c9, h1, h2, -, -, -, -, h7, -⟩ := Cond.code_spec B.named h0
        cases Option.some.inj (h1.symm.trans B.method)
        cases Option.some.inj (h2.symm.trans (Stand.of_body B).code)
        rw [Array.isEmpty_iff.mp h7, List.isEmpty_iff.mp he]
        rfl
      · exact vx_table (x := mY k) B h0
    obtain ⟨t, a1, o, b1, b2, b3⟩ := body p e s m args below meth c s₁ B hml ht hP s₁ hh0 (Stand.of_body B)
    exact ⟨t, o, a1, b1, b2, b3⟩
theorem args_at (ρ : Nat → Nat) : ∀ (As : List Value) (i j : Nat) (v : Value), (argL As)[j]? = some (some v) → (i + j, rv ρ v) ∈ lv_args i (As.map (rv ρ)) ∧ v ∈ As := by
  intro As
  induction As with
  | nil => intro i j v h; simp [argL] at h
  | cons w As ih =>
    intro i j v h
    rw [List.map_cons]
    unfold argL at h
    unfold lv_args
    rw [cat_rv]
    split at h
    · next hc =>
      rw [if_pos hc]
      match j with
      | 0 => simp at h; subst h; exact ⟨List.mem_cons_self, List.mem_cons_self⟩
      | 1 => simp at h
      | j + 2 =>
        have h1 := ih (i + 2) j v (by simpa using h)
        refine ⟨List.mem_cons_of_mem _ ?_, List.mem_cons_of_mem _ h1.2⟩
        have e : i + (j + 2) = i + 2 + j := by omega
        rw [e]; exact h1.1
    · next hc =>
      rw [if_neg hc]
      match j with
      | 0 => simp at h; subst h; exact ⟨List.mem_cons_self, List.mem_cons_self⟩
      | j + 1 =>
        have h1 := ih (i + 1) j v (by simpa using h)
        refine ⟨List.mem_cons_of_mem _ ?_, List.mem_cons_of_mem _ h1.2⟩
        have e : i + (j + 1) = i + 1 + j := by omega
        rw [e]; exact h1.1
theorem argL_len (ρ : Nat → Nat) : ∀ (As : List Value), (lg_sl (As.map (rv ρ))).length = (argL As).length := by
  intro As
  induction As with
  | nil => rfl
  | cons w As ih =>
    rw [List.map_cons]
    have ih' : (List.flatMap (fun v : Value => if v.category = 2 then [Slot.val v, Slot.second] else [Slot.val v]) (List.map (rv ρ) As)).length = (argL As).length := ih
    show (List.flatMap (fun v : Value => if v.category = 2 then [Slot.val v, Slot.second] else [Slot.val v]) (rv ρ w :: List.map (rv ρ) As)).length = _
    rw [List.flatMap_cons, List.length_append, ih', cat_rv]
    show _ = (if w.category = 2 then some w :: none :: argL As else some w :: argL As).length
    split <;> (simp; try omega)
theorem entL_LV {ρ : Nat → Nat} {n k : Nat} {As : List Value} (hlen : (argL As).length ≤ mMax k) (hok : ∀ w ∈ As, okV n w) : LV ρ n (entL k As) ((lg_sl (As.map (rv ρ)) ++ List.replicate (mMax k - (lg_sl (As.map (rv ρ))).length) Slot.unset).toArray) (mMax k) := by
  have hl := lv_entry (As.map (rv ρ)) (n := mMax k) (by rw [argL_len]; exact hlen)
  refine ⟨?_, hl.1, hl.2.1, fun j v hj => ?_⟩
  · unfold entL; rw [List.length_append, List.length_replicate]; omega
  · unfold entL at hj
    have hj' : (argL As)[j]? = some (some v) := by
      rcases Nat.lt_or_ge j (argL As).length with q | q
      · rwa [List.getElem?_append_left q] at hj
      · rw [List.getElem?_append_right q, List.getElem?_replicate] at hj
        split at hj <;> cases hj
    obtain ⟨h1, h2⟩ := args_at ρ As 0 j v hj'
    rw [Nat.zero_add] at h1
    exact ⟨hok v h2, hl.2.2 _ h1⟩
/-- THE TIE at runs of n steps -/
def Snd (n : Nat) : Prop := ∀ (y pc : Nat) (L : Lo) (S : List Value) (h : Hp) (o : Ot), run n y pc L S h = some o →
  ∀ (p : Program) (l : Launch) (e : Env) (R : Room) (s : State) (m : MethodId) (args : Array Value) (below : List Frame) (meth : Method) (c : Code) (Q : State → Prop) (g : GG) (base : Nat) (ρ0 : Nat → Nat) (n0 c0 s0 : Nat),
  MX p l R s m meth c y → CT base g s s.heap → o.2.2.1 ≤ R.cells + c0 → o.2.2.2.1 ≤ R.slots + s0 →
  (∀ pc L S h, stp y pc L S h = some (.inr (.inl o)) → WW p l e R s m args below meth c Q g base y ρ0 n0 c0 s0 pc L S h) →
  (∀ E H locs cells slots pc ls st ρ q ce, o.1 = .inr E → va_S (fun q => base ≤ q) s.heap H locs → Pic base g ρ o.2 H → (∀ k, k < n0 → ρ k = ρ0 k) → n0 ≤ o.2.1 → cells + c0 = o.2.2.1 → slots + s0 = o.2.2.2.1 → H[q]? = some ce → ce.vm = .none → s.vm.findClass E = some ce.cls → hnd (mHh y) pc E = none → (∃ i, E = catN i ∧ (i = 13 ∨ i = 19 ∨ i = 21)) → vx_W p l e R s m args below meth c H locs cells slots Q (F0 m pc ls st) q) →
  WW p l e R s m args below meth c Q g base y ρ0 n0 c0 s0 pc L S h
theorem callG {p : Program} {l : Launch} {e : Env} {R : Room} {s : State} {m : MethodId} {args : Array Value} {below : List Frame} {meth : Method} {c : Code} {H : Heap} {locs : List Loc} {cells slots mc ms pc : Nat} {Q : State → Prop} {ls : Array Slot} {st0 rest : List Value} {Qa : State → Outcome → State → Prop} {XC : String → State → State → Prop} {free : Addr → Prop}
    (hr : vx_Run p l e R s m args below meth c H locs cells slots mc ms (F0 m pc ls st0) rest Qa XC free)
    (kx : ∀ (E : String) (ce : Cell) (q : Addr) (st t : State) (Ls : List Loc), st.heap = H → s.WarmedH t.vm → XC E st t → (∀ z ∈ Ls, free z.base) → t.heap[q]? = some ce → ce.vm = .none → s.vm.findClass E = some ce.cls → vx_W p l e R s m args below meth c t.heap (locs ++ Ls) (cells + mc) (slots + ms) Q (F0 m pc ls rest) q)
    (kk : ∀ (v : Option Value) (st t : State) (Ls : List Loc), st.heap = H → s.WarmedH t.vm → Qa st (.returned v) t → (∀ z ∈ Ls, free z.base) → W p l e R s m args below meth c t.heap (locs ++ Ls) (cells + mc) (slots + ms) Q (F0 m (pc + 3) ls (v.toList ++ rest))) : W p l e R s m args below meth c H locs cells slots Q (F0 m pc ls st0) := by
  intro T hT X
  rcases hr T hT X with ⟨v, st, t, T', Ls, h0, X', hL, e1, e2, hq, stp⟩ | ⟨q, st, t, T', Ls, E, ce, h0, X', hL, e1, e2, hq, hce, hcv, hcl, stp⟩
  · obtain ⟨t2, a1, b1⟩ := kk v st t Ls h0 (by rw [← e2]; exact X'.warmed) hq hL T' e1 X'
    exact ⟨t2, stp t2 a1, b1⟩
  · obtain ⟨t2, a1, b1⟩ := kx E ce q st t Ls h0 (by rw [← e2]; exact X'.warmed) hq hL hce hcv hcl T' e1 X'
    exact ⟨t2, stp.trans a1, b1⟩
/-- the two ends of an ordinary method -/
def MQx (below : List Frame) (g : GG) (base : Nat) (ρ0 : Nat → Nat) (n0 : Nat) (o : Ot) (args : Array Value) (s : State) (mc ms : Nat) : State → Prop := vx_MQ below (QC g base ρ0 n0 o) (XC g base ρ0 n0 o) args s mc ms (fun q => base ≤ q)
variable {p : Program} {l : Launch} {e : Env} {R : Room} {s : State} {m : MethodId} {args : Array Value} {below : List Frame} {meth : Method} {c : Code} {g : GG} {base y : Nat} {ρ0 : Nat → Nat} {n0 c0 s0 pc : Nat} {L : Lo} {S : List Value} {h : Hp} {o : Ot}
theorem rl_end {H : Heap} {locs : List Loc} {cells slots : Nat} {ls : Array Slot} {ρ : Nat → Nat} {v : Option Value} (r : Rl s g base y ρ0 n0 c0 s0 L S h H locs cells slots ls ρ) (hv : ∀ w, v = some w → okV h.1 w) (ho : o = (.inl v, h)) (t : State) (ht : t.heap = H) : QC g base ρ0 n0 o args s (.returned (v.map (rv ρ))) t := by
  subst ho
  exact ⟨v, ρ, rfl, rfl, r.2.2.1, r.2.2.2.1, by rw [ht]; exact r.2.1, hv, by rw [ht]; exact r.1.1, fun q h1 h2 => by rw [ht]; exact r.1.2.1 q h1 h2⟩
theorem end_x (M : MX p l R s m meth c y) {E : String} {H : Heap} {locs : List Loc} {cells slots : Nat} {ls : Array Slot} {st : List Value} {ρ : Nat → Nat} {q : Addr} {ce : Cell} (hc : cells ≤ R.cells) (hs : slots ≤ R.slots) (ho : o.1 = .inr E) (hS : va_S (fun q => base ≤ q) s.heap H locs) (hP : Pic base g ρ o.2 H) (h3 : ∀ k, k < n0 → ρ k = ρ0 k) (h4 : n0 ≤ o.2.1) (hce : H[q]? = some ce) (hcv : ce.vm = .none) (hcl : s.vm.findClass E = some ce.cls)
    (hpass : ∀ z ∈ c.exceptionTable.toList, covers z pc = false ∨ (z.catchType ≠ 0 ∧ ∃ nm : String, (Cond.classLink (ownN (mOwn y)) z.catchType nm).before args s = true ∧ va_Nc E nm s)) :
    vx_W p l e R s m args below meth c H locs cells slots (MQx below g base ρ0 n0 o args s R.cells R.slots) (F0 m pc ls st) q := by
  refine vx_outP M.2.2.2.2.2.1 M.2.2.2.1 hpass hce hcv hcl (fun t ht hA => ⟨ho, ρ, h3, h4, by rw [ht]; exact hP, by rw [ht]; exact hS.1, fun q h1 h2 => by rw [ht]; exact hS.2.1 q h1 h2⟩) hS.2.2 hc hs
def hOf : Ac → Hp
  | .inl (_, _, _, h) => h
  | .inr (.inl (_, h)) => h
  | .inr (.inr (_, _, _, _, _, h)) => h
def le3 (h h' : Hp) : Prop := h.1 ≤ h'.1 ∧ h.2.1 ≤ h'.2.1 ∧ h.2.2.1 ≤ h'.2.2.1
theorem le3_rf (h : Hp) : le3 h h := ⟨Nat.le_refl _, Nat.le_refl _, Nat.le_refl _⟩
theorem le3_tr {a b d : Hp} (h1 : le3 a b) (h2 : le3 b d) : le3 a d := ⟨Nat.le_trans h1.1 h2.1, Nat.le_trans h1.2.1 h2.2.1, Nat.le_trans h1.2.2 h2.2.2⟩
theorem le3_new (h : Hp) (x : va_E) (k : Nat) : le3 h (hnew h x k) := ⟨Nat.le_succ _, Nat.le_succ _, Nat.le_add_right _ _⟩
theorem le3_bump (h : Hp) : le3 h (hbump h) := ⟨Nat.le_refl _, Nat.le_succ _, Nat.le_add_right _ _⟩
theorem pf_le {h h1 : Hp} {ci j a : Nat} {v : Value} (hg : pf h ci j a v = some h1) : le3 h h1 := by obtain ⟨_, _, _, _, _, rfl⟩ := pf_at hg; exact le3_rf _
theorem paI_le {h h1 : Hp} {a : Nat} {i x : Int32} (hg : paI h a i x = some h1) : le3 h h1 := by obtain ⟨_, _, _, _, _, rfl⟩ := paI_at hg; exact le3_rf _
theorem paJ_le {h h1 : Hp} {a : Nat} {i : Int32} {x : Int64} (hg : paJ h a i x = some h1) : le3 h h1 := by obtain ⟨_, _, _, _, rfl⟩ := paJ_at hg; exact le3_rf _
theorem paD_le {h h1 : Hp} {a : Nat} {i : Int32} {x : UInt64} (hg : paD h a i x = some h1) : le3 h h1 := by obtain ⟨_, _, _, _, rfl⟩ := paD_at hg; exact le3_rf _
theorem paR_le {h h1 : Hp} {a v : Nat} {i : Int32} (hg : paR h a i v = some h1) : le3 h h1 := by obtain ⟨_, _, _, _, _, _, _, _, rfl⟩ := paR_at hg; exact le3_rf _
theorem cpI_le {h h1 : Hp} {a0 a1 : Nat} {sp dp z : Int32} (hg : cpI h a0 sp a1 dp z = some h1) : le3 h h1 := by obtain ⟨_, _, _, _, _, _, _, _, _, _, rfl⟩ := cpI_at hg; exact le3_rf _
def Lp (h : Hp) (x : Option Ac) : Prop := ∀ a, x = some a → le3 h (hOf a)
theorem lp_none (h : Hp) : Lp h none := fun _ q => by cases q
theorem lp_go {h h1 : Hp} {pc : Nat} {L : Lo} {S : List Value} (q : le3 h h1) : Lp h (go pc L S h1) := fun _ e => by cases e; exact q
theorem lp_some {h : Hp} {a : Ac} (q : le3 h (hOf a)) : Lp h (some a) := fun _ e => by cases e; exact q
theorem lp_bind {α : Type} {h : Hp} {o : Option α} {f : α → Option Ac} (q : ∀ v, o = some v → Lp h (f v)) : Lp h (o.bind f) := by
  cases o with
  | none => exact lp_none h
  | some v => exact q v rfl
theorem lp_call {m pc kind c : Nat} {L : Lo} {S : List Value} {h : Hp} : Lp h (call m pc kind c L S h) := by
  unfold call
  split
  · split <;> first | exact lp_none _ | exact lp_some (le3_rf _) | (split <;> first | exact lp_none _ | exact lp_some (le3_rf _))
  · exact lp_none _
set_option maxHeartbeats 4000000 in
theorem ins_le {m pc n : Nat} {i : Instr} {L : Lo} {S : List Value} {h : Hp} : Lp h (ins m pc n i L S h) := by
  cases i <;> unfold ins <;> (try unfold br) <;> (try unfold swi) <;> dsimp only <;>
    repeat' first
      | exact lp_none _
      | exact lp_go (le3_rf _)
      | exact lp_go (le3_new _ _ _)
      | exact lp_some (le3_rf _)
      | exact lp_some (le3_bump _)
      | exact lp_call
      | exact lp_go (pf_le (by assumption))
      | exact lp_go (paI_le (by assumption))
      | exact lp_go (paJ_le (by assumption))
      | exact lp_go (paD_le (by assumption))
      | exact lp_go (paR_le (by assumption))
      | exact lp_go (cpI_le (by assumption))
      | (refine lp_bind fun v hv => ?_)
      | split
theorem stp_le {m pc : Nat} {L : Lo} {S : List Value} {h : Hp} {a : Ac} (hs : stp m pc L S h = some a) : le3 h (hOf a) := by
  unfold stp at hs
  exact lp_bind (fun v _ => ins_le) a hs
theorem run_le3 : ∀ (n : Nat) {m pc : Nat} {L : Lo} {S : List Value} {h : Hp} {o : Ot}, run n m pc L S h = some o → le3 h o.2 := by
  intro n
  induction n with
  | zero => intro m pc L S h o hr; cases hr
  | succ n ih =>
    intro m pc L S h o hr
    unfold run at hr
    cases hs : stp m pc L S h with
    | none => rw [hs] at hr; cases hr
    | some a =>
      have h0 := stp_le hs
      rw [hs] at hr
      simp only [Option.bind_some] at hr
      rcases a with ⟨pc', L', S', h'⟩ | o1 | ⟨c, As, pc', L', S', h'⟩
      · exact le3_tr h0 (ih hr)
      · cases hr; exact h0
      · simp only at hr
        cases h1 : run n c 0 (entL c As) [] h' with
        | none => rw [h1] at hr; cases hr
        | some o1 =>
          have h2 := le3_tr h0 (ih h1)
          rw [h1] at hr
          simp only [Option.bind_some] at hr
          rcases o1 with ⟨v | E, h1'⟩
          · exact le3_tr h2 (ih hr)
          · simp only at hr
            cases h3 : hnd (mHh m) pc E with
            | none => rw [h3] at hr; cases hr; exact h2
            | some hp =>
              rw [h3] at hr
              simp only at hr
              cases h4 : afterH m hp L' with
              | none => rw [h4] at hr; cases hr
              | some q =>
                rw [h4] at hr
                exact le3_tr h2 (ih hr)
def lenOk (i : Instr) (n : Nat) : Bool := match i with
  | .tableswitch .. => true
  | .lookupswitch .. => true
  | .aload _ => n == 2
  | .iload _ => n == 2
  | .dload _ => n == 2
  | .istore _ => n == 2
  | .astore _ => n == 2
  | .dstore _ => n == 2
  | .bipush _ => n == 2
  | .newarray _ => n == 2
  | .ldc _ => n == 2
  | .iinc .. => n == 3
  | .sipush _ => n == 3
  | .ldc2_w _ => n == 3
  | .ldc_w _ => n == 3
  | .ifCond .. => n == 3
  | .if_icmp .. => n == 3
  | .goto _ => n == 3
  | .getfield _ => n == 3
  | .putfield _ => n == 3
  | .getstatic _ => n == 3
  | .anewarray _ => n == 3
  | .new _ => n == 3
  | .invokevirtual _ => n == 3
  | .invokestatic _ => n == 3
  | .invokespecial _ => n == 3
  | _ => n == 1
theorem len_all : (List.range 237).all (fun m => (cdOf m).all fun e => lenOk e.2.1 e.2.2) = true := by decide +kernel
theorem lk_mem : ∀ {l : List (Nat × Instr × Nat)} {pc : Nat} {r : Instr × Nat}, lk l pc = some r → (pc, r) ∈ l := by
  intro l
  induction l with
  | nil => intro pc r h; cases h
  | cons e l ih =>
    intro pc r h
    unfold lk at h
    split at h
    · next q => cases h; subst q; exact List.mem_cons_self
    · exact List.mem_cons_of_mem _ (ih h)
theorem lk_len {m pc : Nat} {i : Instr} {n : Nat} (hm : m < 237) (h : lk (cdOf m) pc = some (i, n)) : lenOk i n = true :=
  List.all_eq_true.mp (List.all_eq_true.mp len_all m (List.mem_range.mpr hm)) _ (lk_mem h)
end SOUND
end
section
section STEP
variable {p : Program} {l : Launch} {e : Env} {R : Room} {s : State} {m : MethodId} {args : Array Value} {below : List Frame} {meth : Method} {c : Code} {Q : State → Prop} {g : GG} {base y : Nat} {ρ0 : Nat → Nat} {n0 c0 s0 pc : Nat} {L : Lo} {S : List Value} {h : Hp}
theorem bind_at {α β : Type} {o : Option α} {f : α → Option β} {b : β} (h : o.bind f = some b) : ∃ v, o = some v ∧ f v = some b := by
  cases o with
  | none => cases h
  | some v => exact ⟨v, rfl, h⟩
theorem call_at {m pc kind k : Nat} {L : Lo} {S : List Value} {h : Hp} {a : Ac} (hs : call m pc kind k L S h = some a) : ∃ q, a = .inr (.inr q) := by
  unfold call at hs
  split at hs
  · split at hs
    · split at hs
      · cases hs; exact ⟨_, rfl⟩
      · cases hs
    · cases hs; exact ⟨_, rfl⟩
    · cases hs; exact ⟨_, rfl⟩
    · cases hs; exact ⟨_, rfl⟩
    · cases hs
  · cases hs
set_option maxHeartbeats 4000000 in
/-- one step of the interpreter that goes on is a step of the machine -/
theorem step {a : Ac} (M : MX p l R s m meth c y) (C : CT base g s s.heap) (hs : stp y pc L S h = some a) (hc : (hOf a).2.1 ≤ c0 + R.cells) (hsl : (hOf a).2.2.1 ≤ s0 + R.slots) (K : match a with | .inl (pc', L', S', h') => WW p l e R s m args below meth c Q g base y ρ0 n0 c0 s0 pc' L' S' h' | _ => WW p l e R s m args below meth c Q g base y ρ0 n0 c0 s0 pc L S h) : WW p l e R s m args below meth c Q g base y ρ0 n0 c0 s0 pc L S h := by
  unfold stp at hs
  obtain ⟨⟨i, n⟩, hk, hs⟩ := bind_at hs
  have hy : y < 237 := M.2.2.2.2.2.2.2.2.2.2.2
  have hd := lk_ok (dc_ok y hy) hk
  have hn := lk_len hy hk
  cases i <;> unfold ins at hs <;> dsimp only at hs hd
  case aload k =>
    have hn : n = 2 := by simpa [lenOk] using hn
    subst hn
    split at hs
    · next x e => cases hs; exact st_aload M hd e K
    · cases hs
  case aload_n k =>
    have hn : n = 1 := by simpa [lenOk] using hn
    subst hn
    split at hs
    · next x e => cases hs; exact st_aload_n M hd e K
    · cases hs
  case iload k =>
    have hn : n = 2 := by simpa [lenOk] using hn
    subst hn
    split at hs
    · next x e => cases hs; exact st_iload M hd e K
    · cases hs
  case iload_n k =>
    have hn : n = 1 := by simpa [lenOk] using hn
    subst hn
    split at hs
    · next x e => cases hs; exact st_iload_n M hd e K
    · cases hs
  case lload_n k =>
    have hn : n = 1 := by simpa [lenOk] using hn
    subst hn
    split at hs
    · next x e => cases hs; exact st_lload_n M hd e K
    · cases hs
  case dload k =>
    have hn : n = 2 := by simpa [lenOk] using hn
    subst hn
    split at hs
    · next x e => cases hs; exact st_dload M hd e K
    · cases hs
  case istore k =>
    have hn : n = 2 := by simpa [lenOk] using hn
    subst hn
    split at hs
    · next x S =>
      split at hs
      · next q => cases hs; exact st_istore M hd q K
      · cases hs
    · cases hs
  case istore_n k =>
    have hn : n = 1 := by simpa [lenOk] using hn
    subst hn
    split at hs
    · next x S =>
      split at hs
      · next q => cases hs; exact st_istore_n M hd q K
      · cases hs
    · cases hs
  case astore k =>
    have hn : n = 2 := by simpa [lenOk] using hn
    subst hn
    split at hs
    · next x S =>
      split at hs
      · next q => cases hs; exact st_astore M hd q K
      · cases hs
    · cases hs
  case astore_n k =>
    have hn : n = 1 := by simpa [lenOk] using hn
    subst hn
    split at hs
    · next x S =>
      split at hs
      · next q => cases hs; exact st_astore_n M hd q K
      · cases hs
    · cases hs
  case lstore_n k =>
    have hn : n = 1 := by simpa [lenOk] using hn
    subst hn
    split at hs
    · next x S =>
      split at hs
      · next q => cases hs; exact st_lstore_n M hd q K
      · cases hs
    · cases hs
  case dstore k =>
    have hn : n = 2 := by simpa [lenOk] using hn
    subst hn
    split at hs
    · next x S =>
      split at hs
      · next q => cases hs; exact st_dstore M hd q K
      · cases hs
    · cases hs
  case iinc k d =>
    have hn : n = 3 := by simpa [lenOk] using hn
    subst hn
    split at hs
    · next x e => cases hs; exact st_iinc M hd e K
    · cases hs
  case iconst d =>
    have hn : n = 1 := by simpa [lenOk] using hn
    subst hn
    cases hs; exact st_iconst M hd K
  case bipush d =>
    have hn : n = 2 := by simpa [lenOk] using hn
    subst hn
    cases hs; exact st_bipush M hd K
  case sipush d =>
    have hn : n = 3 := by simpa [lenOk] using hn
    subst hn
    cases hs; exact st_sipush M hd K
  case dconst d =>
    have hn : n = 1 := by simpa [lenOk] using hn
    subst hn
    split at hs
    · next q => subst q; cases hs; exact st_dconst0 M hd K
    · cases hs
  case ldc2_w k =>
    have hn : n = 3 := by simpa [lenOk] using hn
    subst hn
    split at hs
    · next v e => cases hs; exact st_ldc2 M C hd e K
    · next v e => cases hs; exact st_ldc2d M C hd e K
    · cases hs
  case dup  =>
    have hn : n = 1 := by simpa [lenOk] using hn
    subst hn
    split at hs
    · next v S =>
      split at hs
      · next q => cases hs; exact st_dup M hd q K
      · cases hs
    · cases hs
  case pop  =>
    have hn : n = 1 := by simpa [lenOk] using hn
    subst hn
    split at hs
    · next v S =>
      split at hs
      · next q => cases hs; exact st_pop M hd q K
      · cases hs
    · cases hs
  case dup2  =>
    have hn : n = 1 := by simpa [lenOk] using hn
    subst hn
    split at hs
    · next v w S =>
      split at hs
      · next q => cases hs; exact st_dup2 M hd q.1 q.2 K
      · cases hs
    · cases hs
  case iadd  =>
    have hn : n = 1 := by simpa [lenOk] using hn
    subst hn
    split at hs
    · next z x S => cases hs; exact st_iadd M hd K
    · cases hs
  case isub  =>
    have hn : n = 1 := by simpa [lenOk] using hn
    subst hn
    split at hs
    · next z x S => cases hs; exact st_isub M hd K
    · cases hs
  case imul  =>
    have hn : n = 1 := by simpa [lenOk] using hn
    subst hn
    split at hs
    · next z x S => cases hs; exact st_imul M hd K
    · cases hs
  case iand  =>
    have hn : n = 1 := by simpa [lenOk] using hn
    subst hn
    split at hs
    · next z x S => cases hs; exact st_iand M hd K
    · cases hs
  case ior  =>
    have hn : n = 1 := by simpa [lenOk] using hn
    subst hn
    split at hs
    · next z x S => cases hs; exact st_ior M hd K
    · cases hs
  case ixor  =>
    have hn : n = 1 := by simpa [lenOk] using hn
    subst hn
    split at hs
    · next z x S => cases hs; exact st_ixor M hd K
    · cases hs
  case ishl  =>
    have hn : n = 1 := by simpa [lenOk] using hn
    subst hn
    split at hs
    · next z x S => cases hs; exact st_ishl M hd K
    · cases hs
  case ladd  =>
    have hn : n = 1 := by simpa [lenOk] using hn
    subst hn
    split at hs
    · next z x S => cases hs; exact st_ladd M hd K
    · cases hs
  case lmul  =>
    have hn : n = 1 := by simpa [lenOk] using hn
    subst hn
    split at hs
    · next z x S => cases hs; exact st_lmul M hd K
    · cases hs
  case lcmp  =>
    have hn : n = 1 := by simpa [lenOk] using hn
    subst hn
    split at hs
    · next z x S => cases hs; exact st_lcmp M hd K
    · cases hs
  case ineg  =>
    have hn : n = 1 := by simpa [lenOk] using hn
    subst hn
    split at hs
    · next x S => cases hs; exact st_ineg M hd K
    · cases hs
  case i2l  =>
    have hn : n = 1 := by simpa [lenOk] using hn
    subst hn
    split at hs
    · next x S => cases hs; exact st_i2l M hd K
    · cases hs
  case i2d  =>
    have hn : n = 1 := by simpa [lenOk] using hn
    subst hn
    split at hs
    · next x S => cases hs; exact st_i2d M hd K
    · cases hs
  case idiv  =>
    have hn : n = 1 := by simpa [lenOk] using hn
    subst hn
    split at hs
    · next z x S =>
      split at hs
      · cases hs
      · next q => cases hs; exact st_idiv M hd q K
    · cases hs
  case irem  =>
    have hn : n = 1 := by simpa [lenOk] using hn
    subst hn
    split at hs
    · next z x S =>
      split at hs
      · cases hs
      · next q => cases hs; exact st_irem M hd q K
    · cases hs
  case ddiv  =>
    have hn : n = 1 := by simpa [lenOk] using hn
    subst hn
    split at hs
    · next z x S =>
      split at hs
      · next q => cases hs; exact st_ddiv M hd q K
      · cases hs
    · cases hs
  case dcmp op =>
    have hn : n = 1 := by simpa [lenOk] using hn
    subst hn
    split at hs
    · next z x S => cases hs; exact st_dcmp M hd K
    · cases hs
  case goto off =>
    have hn : n = 3 := by simpa [lenOk] using hn
    subst hn
    obtain ⟨t, ht, hs⟩ := bind_at hs
    cases hs; exact st_goto M hd ht K
  case if_icmp op off =>
    have hn : n = 3 := by simpa [lenOk] using hn
    subst hn
    split at hs
    · next z x S =>
      obtain ⟨t, ht, hs⟩ := bind_at hs
      split at hs
      · next q => cases hs; exact st_icmp M hd ht (fun _ => K) (fun q2 => absurd q q2)
      · next q => cases hs; exact st_icmp M hd ht (fun q2 => absurd q2 q) (fun _ => K)
    · cases hs
  case ifCond op off =>
    have hn : n = 3 := by simpa [lenOk] using hn
    subst hn
    split at hs
    · next x S =>
      obtain ⟨t, ht, hs⟩ := bind_at hs
      split at hs
      · next q => cases hs; exact st_if M hd ht (fun _ => K) (fun q2 => absurd q q2)
      · next q => cases hs; exact st_if M hd ht (fun q2 => absurd q2 q) (fun _ => K)
    · cases hs
  case tableswitch d lo hi offs =>
    split at hs
    · next x S =>
      unfold swi at hs
      dsimp only at hs
      split at hs
      · next q =>
        obtain ⟨t, ht, hs⟩ := bind_at hs
        cases hs; exact st_tblO M hd q ht K
      · next q =>
        obtain ⟨o, ho, hs⟩ := bind_at hs
        obtain ⟨t, ht, hs⟩ := bind_at hs
        cases hs; exact st_tblI M hd q ho ht K
    · cases hs
  case lookupswitch d ps =>
    split at hs
    · next x S =>
      unfold swi at hs
      dsimp only at hs
      split at hs
      · next q =>
        obtain ⟨t, ht, hs⟩ := bind_at hs
        cases hs; exact st_lkp M hd q ht K
      · cases hs
    · cases hs
  case getfield k =>
    have hn : n = 3 := by simpa [lenOk] using hn
    subst hn
    split at hs
    · next x S =>
      obtain ⟨r0, hr, hs⟩ := bind_at hs
      obtain ⟨v, hv, hs⟩ := bind_at hs
      cases hs; exact st_get M C hd hr hv K
    · cases hs
  case putfield k =>
    have hn : n = 3 := by simpa [lenOk] using hn
    subst hn
    split at hs
    · next v x S =>
      obtain ⟨r0, hr, hs⟩ := bind_at hs
      split at hs
      · next q =>
        obtain ⟨h1, hv, hs⟩ := bind_at hs
        cases hs; exact st_put M C hd hr q hv K
      · cases hs
    · cases hs
  case getstatic k =>
    have hn : n = 3 := by simpa [lenOk] using hn
    subst hn
    obtain ⟨v, hv, hs⟩ := bind_at hs
    cases hs; exact st_gets M C hd hv K
  case iaload  =>
    have hn : n = 1 := by simpa [lenOk] using hn
    subst hn
    split at hs
    · next j x S =>
      obtain ⟨v, hv, hs⟩ := bind_at hs
      cases hs; exact st_iald M C hd hv K
    · cases hs
  case laload  =>
    have hn : n = 1 := by simpa [lenOk] using hn
    subst hn
    split at hs
    · next j x S =>
      obtain ⟨v, hv, hs⟩ := bind_at hs
      cases hs; exact st_lald M C hd hv K
    · cases hs
  case daload  =>
    have hn : n = 1 := by simpa [lenOk] using hn
    subst hn
    split at hs
    · next j x S =>
      obtain ⟨v, hv, hs⟩ := bind_at hs
      cases hs; exact st_dald M C hd hv K
    · cases hs
  case aaload  =>
    have hn : n = 1 := by simpa [lenOk] using hn
    subst hn
    split at hs
    · next j x S =>
      obtain ⟨v, hv, hs⟩ := bind_at hs
      cases hs; exact st_aald M C hd hv K
    · cases hs
  case iastore  =>
    have hn : n = 1 := by simpa [lenOk] using hn
    subst hn
    split at hs
    · next z j x S =>
      obtain ⟨v, hv, hs⟩ := bind_at hs
      cases hs; exact st_iast M C hd hv K
    · cases hs
  case lastore  =>
    have hn : n = 1 := by simpa [lenOk] using hn
    subst hn
    split at hs
    · next z j x S =>
      obtain ⟨v, hv, hs⟩ := bind_at hs
      cases hs; exact st_last M C hd hv K
    · cases hs
  case dastore  =>
    have hn : n = 1 := by simpa [lenOk] using hn
    subst hn
    split at hs
    · next z j x S =>
      obtain ⟨v, hv, hs⟩ := bind_at hs
      cases hs; exact st_dast M C hd hv K
    · cases hs
  case aastore  =>
    have hn : n = 1 := by simpa [lenOk] using hn
    subst hn
    split at hs
    · next z j x S =>
      obtain ⟨v, hv, hs⟩ := bind_at hs
      cases hs; exact st_aast M C hd hv K
    · cases hs
  case arraylength  =>
    have hn : n = 1 := by simpa [lenOk] using hn
    subst hn
    split at hs
    · next x S =>
      obtain ⟨v, hv, hs⟩ := bind_at hs
      cases hs; exact st_alen M C hd hv K
    · cases hs
  case newarray t =>
    have hn : n = 2 := by simpa [lenOk] using hn
    subst hn
    split at hs
    · next N S =>
      obtain ⟨k, hk2, hs⟩ := bind_at hs
      split at hs
      · next q =>
        cases hs
        unfold tyA at hk2
        split at hk2
        · cases hk2; exact st_newarray_int M C hd q hc hsl K
        · cases hk2; exact st_newarray_long M C hd q hc hsl K
        · cases hk2; exact st_newarray_double M C hd q hc hsl K
        · cases hk2
      · cases hs
    · cases hs
  case anewarray k =>
    have hn : n = 3 := by simpa [lenOk] using hn
    subst hn
    split at hs
    · next N S =>
      obtain ⟨t, ht, hs⟩ := bind_at hs
      split at hs
      · next q => cases hs; exact st_anewarray M C hd ht q hc hsl K
      · cases hs
    · cases hs
  case new k =>
    have hn : n = 3 := by simpa [lenOk] using hn
    subst hn
    split at hs
    · next ci e => cases hs; exact st_new M C hd e hc hsl K
    · split at hs
      · split at hs
        · cases hs; exact K
        · cases hs
      · cases hs
  case invokevirtual k =>
    obtain ⟨r, hr, hs⟩ := bind_at hs
    split at hs
    · obtain ⟨q, hq⟩ := call_at hs
      subst hq; exact K
    · cases hs
  case invokestatic k =>
    have hn : n = 3 := by simpa [lenOk] using hn
    subst hn
    obtain ⟨r, hr, hs⟩ := bind_at hs
    split at hs
    · obtain ⟨q, hq⟩ := call_at hs
      subst hq; exact K
    · split at hs
      · next q8 =>
        split at hs
        · split at hs
          · next q =>
            obtain ⟨h1, hv, hs⟩ := bind_at hs
            cases hs
            obtain ⟨r1, r2⟩ := r
            subst q8
            exact st_copy M C hd hr q.1 q.2 hv K
          · cases hs
        · cases hs
      · cases hs
  case invokespecial k =>
    have hn : n = 3 := by simpa [lenOk] using hn
    subst hn
    obtain ⟨r, hr, hs⟩ := bind_at hs
    split at hs
    · obtain ⟨q, hq⟩ := call_at hs
      subst hq; exact K
    · split at hs
      · next q9 =>
        split at hs
        · split at hs
          · next q =>
            cases hs
            obtain ⟨r1, r2⟩ := r
            subst q9
            exact st_objInit M C hd hr q.1 q.2 K
          · cases hs
        · cases hs
      · cases hs
  case ireturn =>
    split at hs
    · obtain ⟨ty, h1, hs⟩ := bind_at hs
      split at hs
      · cases hs; exact K
      · cases hs
    · cases hs
  case lreturn =>
    split at hs
    · split at hs
      · cases hs; exact K
      · cases hs
    · cases hs
  case dreturn =>
    split at hs
    · split at hs
      · cases hs; exact K
      · cases hs
    · cases hs
  case return_ =>
    split at hs
    · split at hs
      · cases hs; exact K
      · cases hs
    · cases hs
  all_goals cases hs
end STEP
end
section
section SOUND2
variable {p : Program} {l : Launch} {e : Env} {R : Room} {s : State} {m : MethodId} {args : Array Value} {below : List Frame} {meth : Method} {c : Code} {Q : State → Prop} {g : GG} {base y : Nat} {ρ0 : Nat → Nat} {n0 c0 s0 pc : Nat} {L : Lo} {S : List Value} {h : Hp} {o : Ot}
def isEndI : Instr → Bool
  | .ireturn => true
  | .lreturn => true
  | .dreturn => true
  | .return_ => true
  | .new _ => true
  | _ => false
def Ng (x : Option Ac) : Prop := ∀ o, x ≠ some (.inr (.inl o))
theorem ng_none : Ng none := fun _ q => by cases q
theorem ng_go {h1 : Hp} {pc : Nat} {L : Lo} {S : List Value} : Ng (go pc L S h1) := fun _ e => by cases e
theorem ng_bind {α : Type} {o : Option α} {f : α → Option Ac} (q : ∀ v, o = some v → Ng (f v)) : Ng (o.bind f) := by
  cases o with
  | none => exact ng_none
  | some v => exact q v rfl
theorem ng_call {m pc kind c : Nat} {L : Lo} {S : List Value} {h : Hp} : Ng (call m pc kind c L S h) := fun o q => by
  obtain ⟨w, hw⟩ := call_at q
  cases hw
set_option maxHeartbeats 4000000 in
theorem ins_ng {m pc n : Nat} {i : Instr} {L : Lo} {S : List Value} {h : Hp} (hi : isEndI i = false) : Ng (ins m pc n i L S h) := by
  cases i <;> first
    | (cases hi; done)
    | (unfold ins; (try unfold br); (try unfold swi); dsimp only
       repeat' first
        | exact ng_none
        | exact ng_go
        | exact ng_call
        | (refine ng_bind fun v hv => ?_)
        | split)
theorem thrL_mem : ∀ {l : List (Nat × Nat × String × Nat × Nat × Nat × Bool × String)} {m pc : Nat} {r : String × Nat × Nat × Nat × Bool × String}, thrL l m pc = some r → (m, pc, r) ∈ l := by
  intro l
  induction l with
  | nil => intro m pc r h; cases h
  | cons e l ih =>
    intro m pc r h
    unfold thrL at h
    split at h
    · next q =>
      cases h
      obtain ⟨a, b, c⟩ := e
      obtain ⟨q1, q2⟩ := q
      subst q1; subst q2
      exact List.mem_cons_self
    · exact List.mem_cons_of_mem _ (ih h)
theorem ends (M : MX p l R s m meth c y) (C : CT base g s s.heap) (hs : stp y pc L S h = some (.inr (.inl o))) (hRc : o.2.2.1 ≤ R.cells + c0) (hRs : o.2.2.2.1 ≤ R.slots + s0) : WW p l e R s m args below meth c (MQx below g base ρ0 n0 o args s R.cells R.slots) g base y ρ0 n0 c0 s0 pc L S h := by
  unfold stp at hs
  obtain ⟨⟨i, n⟩, hk, hs⟩ := bind_at hs
  have hy : y < 237 := M.2.2.2.2.2.2.2.2.2.2.2
  have hd := lk_ok (dc_ok y hy) hk
  have hn := lk_len hy hk
  have hret := M.2.2.1
  cases hi : isEndI i with
  | false => exact absurd hs (ins_ng hi o)
  | true =>
    intro H locs cells slots ls ρ r
    have r7 : cells + c0 = h.2.1 := r.2.2.2.2.2.2.1
    have r8 : slots + s0 = h.2.2.1 := r.2.2.2.2.2.2.2
    cases i <;> first | (cases hi; done) | skip
    case ireturn =>
      have hn : n = 1 := by simpa [lenOk] using hn
      subst hn
      unfold ins at hs
      dsimp only at hs
      split at hs
      · obtain ⟨ty, h1, hs⟩ := bind_at hs
        split at hs
        · next q =>
          cases hs
          refine W.widen (k := R.cells) (n := R.slots) (by dsimp only at hRc; omega) (by dsimp only at hRs; omega) (vx_ret ?_)
          exact W.zret M.1 M.2.1 (hret.trans h1) q (fun t ht _ => rl_end (v := some (.int _)) r (fun w hw => by cases hw; trivial) rfl t ht) r.1.2.2 hd M.2.2.2.1
        · cases hs
      · cases hs
    case lreturn =>
      have hn : n = 1 := by simpa [lenOk] using hn
      subst hn
      unfold ins at hs
      dsimp only at hs
      split at hs
      · split at hs
        · next q =>
          cases hs
          refine W.widen (k := R.cells) (n := R.slots) (by dsimp only at hRc; omega) (by dsimp only at hRs; omega) (vx_ret ?_)
          exact W.lret M.1 M.2.1 (hret.trans q) (fun t ht _ => rl_end (v := some (.long _)) r (fun w hw => by cases hw; trivial) rfl t ht) r.1.2.2 hd M.2.2.2.1
        · cases hs
      · cases hs
    case dreturn =>
      have hn : n = 1 := by simpa [lenOk] using hn
      subst hn
      unfold ins at hs
      dsimp only at hs
      split at hs
      · split at hs
        · next q =>
          cases hs
          refine W.widen (k := R.cells) (n := R.slots) (by dsimp only at hRc; omega) (by dsimp only at hRs; omega) (vx_ret ?_)
          exact W.dret M.1 M.2.1 (hret.trans q) (fun t ht _ => rl_end (v := some (.double _)) r (fun w hw => by cases hw; trivial) rfl t ht) r.1.2.2 hd M.2.2.2.1
        · cases hs
      · cases hs
    case return_ =>
      have hn : n = 1 := by simpa [lenOk] using hn
      subst hn
      unfold ins at hs
      dsimp only at hs
      split at hs
      · split at hs
        · next q =>
          cases hs
          refine W.widen (k := R.cells) (n := R.slots) (by dsimp only at hRc; omega) (by dsimp only at hRs; omega) (vx_ret ?_)
          exact W.vret M.1 M.2.1 (hret.trans q) (fun t ht _ => rl_end (v := none) r (fun w hw => by cases hw) rfl t ht) r.1.2.2 hd M.2.2.2.1
        · cases hs
      · cases hs
    case new k =>
      unfold ins at hs
      dsimp only at hs
      split at hs
      · cases hs
      · split at hs
        · next r0 hr0 =>
          split at hs
          · next q =>
            cases hs
            have hm := thrL_mem hr0
            obtain ⟨E, ik, is, ic, wide, tx⟩ := r0
            obtain ⟨t1, t2, t3, t4, t5, t6, t7, t8, t9, t10⟩ := thr_ok _ hm
            obtain ⟨sa, hsa⟩ := C.2.2.2.2.2.2.2.1 _ hm
            have hown : s.vm.findClass RX8 = some m.cls := by rw [← t1]; exact M.2.2.2.2.2.1
            have hdc : ∀ {pc' : Nat} {x : Instr × Nat}, lk (cdOf y) pc' = some x → decode (mCc y) pc' = .ok x := fun hx => lk_ok (dc_ok y hy) hx
            have htab : c.exceptionTable.toList = [] := by
              rcases M.2.2.2.2.2.2.1 with q9 | q9
              · subst q9; exact absurd t1 (by decide +kernel)
              · rw [q9, t10]; rfl
            have hF := M.2.2.2.2.2.2.2.2.2.1
            have hL := M.2.2.2.2.2.2.2.2.2.2.1
            have hx : ∀ t : State, s.vm.Alike t.vm → H.size ≤ t.heap.size → (∀ q : Nat, q < H.size → t.heap[q]? = H[q]?) → XC g base ρ0 n0 (.inr E, hbump h) E s t := fun t _ hz hq => ⟨rfl, ρ, r.2.2.1, r.2.2.2.1, (r.2.1.kept hq).bump, Nat.le_trans r.1.1 hz, fun q h1 h2 => by rw [hq q (Nat.lt_of_lt_of_le h1 r.1.1)]; exact r.1.2.1 q h1 h2⟩
            have hc1 : h.2.1 + 1 ≤ R.cells + c0 := hRc
            have hs1 : h.2.2.1 + 6 ≤ R.slots + s0 := hRs
            have hRl : ((S.map (rv ρ)).map fun v => v.category).sum + (13 * (exN.length + 1) + 43) ≤ R.locals := by
              rw [csum_map, q.1]
              show 0 + (13 * (2 + 1) + 43) ≤ _
              omega
            have hRf : exN.length + 3 < R.frames := by show 2 + 3 < _; omega
            have hat : ∀ w ∈ vx_atS RX8 ic E exN, w.before args s = true := fun w hw => C.wordW (t6 w hw).1 (exw_warm _ hm w hw) args
            have hgood : ∀ w ∈ Cond.classLink RX8 ik E :: Cond.initialized E :: vx_atS RX8 ic E exN, vx_ot w = true := by
              intro w hw
              rcases List.mem_cons.mp hw with rfl | hw
              · rfl
              · rcases List.mem_cons.mp hw with rfl | hw
                · rfl
                · exact (t6 w hw).2
            cases wide with
            | false =>
              exact vx_throwS M.1 M.2.1 M.2.2.2.2.2.2.2.1 hown t2 exN_ok (C.word t3 args) (C.word t4 args) hsa hat hgood C.2.2.2.2.2.1 C.2.2.2.2.2.2.1 r.1 (by rw [r.2.2.2.2.1.2.1, M.2.2.2.2.1]) (hdc t7) (hdc t8) (hdc t9.1) (hdc t9.2.1) (hdc t9.2.2) (fun x hx => by rw [htab] at hx; cases hx) hRf hRl (by omega) (by omega) M.2.2.2.1 hx r.1.2.2 (by omega) (by omega)
            | true =>
              exact vx_throwSW M.1 M.2.1 M.2.2.2.2.2.2.2.1 hown t2 exN_ok (C.word t3 args) (C.word t4 args) hsa hat hgood C.2.2.2.2.2.1 C.2.2.2.2.2.2.1 r.1 (by rw [r.2.2.2.2.1.2.1, M.2.2.2.2.1]) (hdc t7) (hdc t8) (hdc t9.1) (hdc t9.2.1) (hdc t9.2.2) (fun x hx => by rw [htab] at hx; cases hx) hRf hRl (by omega) (by omega) M.2.2.2.1 hx r.1.2.2 (by omega) (by omega)
          · cases hs
        · cases hs
theorem hh_all : (List.range 237).all (fun m => (mHh m).all fun e => (e.2.2.2 == 13 || e.2.2.2 == 19 || e.2.2.2 == 21) && mOwn m == 10) = true := by decide +kernel
theorem hh_at {m : Nat} (hm : m < 237) {e : Nat × Nat × Nat × Nat} (he : e ∈ mHh m) : (e.2.2.2 = 13 ∨ e.2.2.2 = 19 ∨ e.2.2.2 = 21) ∧ mOwn m = 10 := by
  have h := List.all_eq_true.mp (List.all_eq_true.mp hh_all m (List.mem_range.mpr hm)) e he
  simpa [or_assoc] using h
theorem cat_link (k : Nat) (h : k = 13 ∨ k = 19 ∨ k = 21) : Cond.classLink (ownN 10) k (catN k) ∈ Wg ∧ Cond.castable (catN k) (catN k) ∈ lw_tbl := by
  rcases h with rfl | rfl | rfl
  · exact ⟨wgm 512 (by decide +kernel) (by decide +kernel), List.mem_append_right _ (List.mem_of_getElem? (i := 519) (by decide +kernel))⟩
  · exact ⟨wgm 589 (by decide +kernel) (by decide +kernel), List.mem_append_right _ (List.mem_of_getElem? (i := 602) (by decide +kernel))⟩
  · exact ⟨wgm 590 (by decide +kernel) (by decide +kernel), List.mem_append_right _ (List.mem_of_getElem? (i := 619) (by decide +kernel))⟩
theorem thr_cat : thrT.all (fun e => e.2.2.1 == catN 13 || e.2.2.1 == catN 19 || e.2.2.1 == catN 21) = true := by decide +kernel
theorem stp_exc {m pc : Nat} {L : Lo} {S : List Value} {h h1 : Hp} {E : String} (hs : stp m pc L S h = some (.inr (.inl (.inr E, h1)))) : ∃ i, E = catN i ∧ (i = 13 ∨ i = 19 ∨ i = 21) := by
  unfold stp at hs
  obtain ⟨⟨i, n⟩, hk, hs⟩ := bind_at hs
  cases hi : isEndI i with
  | false => exact absurd hs (ins_ng hi _)
  | true =>
    cases i <;> first | (cases hi; done) | skip
    case new k =>
      unfold ins at hs
      dsimp only at hs
      split at hs
      · cases hs
      · split at hs
        · next r0 hr0 =>
          split at hs
          · cases hs
            have h9 := List.all_eq_true.mp thr_cat _ (thrL_mem hr0)
            simp only [Bool.or_eq_true, beq_iff_eq] at h9
            rcases h9 with (h9 | h9) | h9
            · exact ⟨13, h9, Or.inl rfl⟩
            · exact ⟨19, h9, Or.inr (Or.inl rfl)⟩
            · exact ⟨21, h9, Or.inr (Or.inr rfl)⟩
          · cases hs
        · cases hs
    all_goals (unfold ins at hs; dsimp only at hs; split at hs <;> first | (cases hs; done) | (split at hs <;> first | (cases hs; done)) | (obtain ⟨ty, q1, hs⟩ := bind_at hs; split at hs <;> cases hs))
theorem run_exc : ∀ (n : Nat) {m pc : Nat} {L : Lo} {S : List Value} {h h1 : Hp} {E : String}, run n m pc L S h = some (.inr E, h1) → ∃ i, E = catN i ∧ (i = 13 ∨ i = 19 ∨ i = 21) := by
  intro n
  induction n with
  | zero => intro m pc L S h h1 E hr; cases hr
  | succ n ih =>
    intro m pc L S h hf E hr
    unfold run at hr
    cases hs : stp m pc L S h with
    | none => rw [hs] at hr; cases hr
    | some a =>
      rw [hs] at hr
      simp only [Option.bind_some] at hr
      rcases a with ⟨pc', L', S', h'⟩ | o1 | ⟨c, As, pc', L', S', h'⟩
      · exact ih hr
      · cases hr; exact stp_exc hs
      · simp only at hr
        cases h1 : run n c 0 (entL c As) [] h' with
        | none => rw [h1] at hr; cases hr
        | some o1 =>
          rw [h1] at hr
          simp only [Option.bind_some] at hr
          rcases o1 with ⟨v | E1, h2⟩
          · exact ih hr
          · simp only at hr
            cases h3 : hnd (mHh m) pc E1 with
            | none => rw [h3] at hr; cases hr; exact ih h1
            | some hp =>
              rw [h3] at hr
              simp only at hr
              cases h4 : afterH m hp L' with
              | none => rw [h4] at hr; cases hr
              | some q =>
                rw [h4] at hr
                exact ih hr
theorem catN_ne {i j : Nat} (hi : i = 13 ∨ i = 19 ∨ i = 21) (hj : j = 13 ∨ j = 19 ∨ j = 21) (h : catN i ≠ catN j) : i ≠ j := fun q => h (by rw [q])
/-- no row of the table takes it -/
theorem hnd_none : ∀ {l : List (Nat × Nat × Nat × Nat)} {pc : Nat} {E : String}, hnd l pc E = none → ∀ z ∈ tableOf l, covers z pc = false ∨ catN z.catchType ≠ E := by
  intro l
  induction l with
  | nil => intro pc E _ z hz; cases hz
  | cons e l ih =>
    intro pc E h z hz
    unfold hnd at h
    split at h
    · cases h
    · next q =>
      rcases List.mem_cons.mp hz with rfl | hz
      · by_cases q1 : e.1 ≤ pc ∧ pc < e.2.1
        · exact Or.inr fun q2 => q ⟨q1.1, q1.2, q2⟩
        · refine Or.inl ?_
          unfold covers
          simp only [Bool.and_eq_false_iff, decide_eq_false_iff_not]
          by_cases q2 : e.1 ≤ pc
          · exact Or.inr fun q3 => q1 ⟨q2, q3⟩
          · exact Or.inl q2
      · exact ih h z hz
theorem hnd_some : ∀ {l : List (Nat × Nat × Nat × Nat)} {pc hp : Nat} {E : String}, hnd l pc E = some hp → ∃ (pre : List ExceptionTableEntry) (x : ExceptionTableEntry) (suf : List ExceptionTableEntry), tableOf l = pre ++ x :: suf ∧ (∀ z ∈ pre, covers z pc = false ∨ catN z.catchType ≠ E) ∧ covers x pc = true ∧ catN x.catchType = E ∧ x.handlerPc = hp := by
  intro l
  induction l with
  | nil => intro pc hp E h; cases h
  | cons e l ih =>
    intro pc hp E h
    unfold hnd at h
    split at h
    · next q =>
      cases h
      refine ⟨[], ⟨e.1, e.2.1, e.2.2.1, e.2.2.2⟩, tableOf l, rfl, (fun z hz => nomatch hz), ?_, q.2.2, rfl⟩
      unfold covers
      simp only [Bool.and_eq_true, decide_eq_true_eq]
      exact ⟨q.1, q.2.1⟩
    · next q =>
      obtain ⟨pre, x, suf, h1, h2, h3, h4, h5⟩ := ih h
      refine ⟨⟨e.1, e.2.1, e.2.2.1, e.2.2.2⟩ :: pre, x, suf, by show _ :: tableOf l = _; rw [h1]; rfl, fun z hz => ?_, h3, h4, h5⟩
      rcases List.mem_cons.mp hz with rfl | hz
      · by_cases q1 : e.1 ≤ pc ∧ pc < e.2.1
        · exact Or.inr fun q2 => q ⟨q1.1, q1.2, q2⟩
        · refine Or.inl ?_
          unfold covers
          simp only [Bool.and_eq_false_iff, decide_eq_false_iff_not]
          by_cases q2 : e.1 ≤ pc
          · exact Or.inr fun q3 => q1 ⟨q2, q3⟩
          · exact Or.inl q2
      · exact h2 z hz
theorem table_mem {l : List (Nat × Nat × Nat × Nat)} {z : ExceptionTableEntry} (hz : z ∈ tableOf l) : ∃ e ∈ l, z.catchType = e.2.2.2 := by
  obtain ⟨e, he, rfl⟩ := List.mem_map.mp hz
  exact ⟨e, he, rfl⟩
theorem pass_of (M : MX p l R s m meth c y) (C : CT base g s s.heap) {E : String} {i : Nat} (hE : E = catN i) (hi : i = 13 ∨ i = 19 ∨ i = 21) {z : ExceptionTableEntry} (hz : z ∈ tableOf (mHh y)) (hp : covers z pc = false ∨ catN z.catchType ≠ E) : covers z pc = false ∨ (z.catchType ≠ 0 ∧ ∃ nm : String, (Cond.classLink (ownN (mOwn y)) z.catchType nm).before args s = true ∧ va_Nc E nm s) := by
  rcases hp with hp | hp
  · exact Or.inl hp
  · obtain ⟨e, he, hc⟩ := table_mem hz
    obtain ⟨h1, h2⟩ := hh_at M.2.2.2.2.2.2.2.2.2.2.2 he
    rw [← hc] at h1
    refine Or.inr ⟨by omega, catN z.catchType, by rw [h2]; exact C.word (cat_link _ h1).1 args, ?_⟩
    rw [hE]
    refine C.2.2.2.2.2.2.2.2.2 i _ hi h1 (catN_ne hi h1 ?_)
    rw [← hE]; exact fun q => hp q.symm
/-- the callee's contract, out of the tie at shorter runs -/
theorem met_of {n k : Nat} {As : List Value} {ρ : Nat → Nat} (l : Launch) (hl : l.stackTraces = false) (IH : Snd n) (hk : k < 236) (hrun : run n k 0 (entL k As) [] h = some o) (hlen : (argL As).length ≤ mMax k) (hm : h.2.1 ≤ o.2.2.1 ∧ h.2.2.1 ≤ o.2.2.2.1) :
    vx_Met l (mY k) (mW k :: Wg) ({ frames := mF k, cells := o.2.2.1 - h.2.1, slots := o.2.2.2.1 - h.2.2.1, locals := mL k }) (PC g base ρ h As) (QC g base ρ h.1 o) (XC g base ρ h.1 o) (o.2.2.1 - h.2.1) (o.2.2.2.1 - h.2.2.1) (fun q => base ≤ q) := by
  refine ofF (mth_ok k (by omega) (by omega)) ?_
  intro p e s m args below meth c s₁ B hml ht hP
  obtain ⟨rfl, hC, hPic, hok⟩ := hP
  have hown : s.vm.findClass (ownN (mOwn k)) = some m.cls := by rw [← (mth_ok k (by omega) (by omega)).2.2.1]; exact findClass_of_methodNamed B.named
  have M : MX p l { frames := mF k, cells := o.2.2.1 - h.2.1, slots := o.2.2.2.1 - h.2.2.1, locals := mL k } s m meth c k := ⟨B.exec, B.bytes, B.returns, B.notSynchronized, hml, hown, Or.inr ht, hl, (fun q => (name_of_methodNamed B.named B.method).1.trans (of_decide_eq_true q)), Nat.le_refl _, Nat.le_refl _, by omega⟩
  rw [lg_entry_eq]
  have hLV := entL_LV (n := h.1) (ρ := ρ) hlen hok
  refine IH k 0 (entL k As) [] h o hrun p l e _ s m _ below meth c (vx_MQ below (QC g base ρ h.1 o) (XC g base ρ h.1 o) (As.map (rv ρ)).toArray s (o.2.2.1 - h.2.1) (o.2.2.2.1 - h.2.2.1) (fun q => base ≤ q)) g base ρ h.1 h.2.1 h.2.2.1 M hC (by show _ ≤ o.2.2.1 - h.2.1 + h.2.1; omega) (by show _ ≤ o.2.2.2.1 - h.2.2.1 + h.2.2.1; omega) ?_ ?_ s.heap [] 0 0 _ ρ ⟨va_S.rf, hPic, fun _ _ => rfl, Nat.le_refl _, hLV, fun v hv => (by cases hv), Nat.zero_add _, Nat.zero_add _⟩
  · intro pc L S h' hs
    exact ends M hC hs (by show _ ≤ o.2.2.1 - h.2.1 + h.2.1; omega) (by show _ ≤ o.2.2.2.1 - h.2.2.1 + h.2.2.1; omega)
  · intro E H locs cells slots pc ls st ρ' q ce ho hS hPic' h3 h4 hc hs hce hcv hcl hh hi
    obtain ⟨i, hE, hi⟩ := hi
    exact end_x M (by show cells ≤ o.2.2.1 - h.2.1; omega) (by show slots ≤ o.2.2.2.1 - h.2.2.1; omega) ho hS hPic' h3 h4 hce hcv hcl (fun z hz => by
      rw [ht] at hz
      exact pass_of M hC hE hi hz (hnd_none hh z hz))
end SOUND2
end
section
section SOUND3
variable {p : Program} {l : Launch} {e : Env} {R : Room} {s : State} {m : MethodId} {args : Array Value} {below : List Frame} {meth : Method} {c : Code} {Q : State → Prop} {g : GG} {base y : Nat} {ρ0 : Nat → Nat} {n0 c0 s0 pc : Nat} {L : Lo} {S : List Value} {h : Hp} {o : Ot}
theorem call_inv {kind k : Nat} {r : Nat × List Value × Nat × Lo × List Value × Hp} (hs : call y pc kind k L S h = some (.inr (.inr r))) : r = (k, (S.take (mNa k)).reverse, pc + 3, L, S.drop (mNa k), h) ∧ mF k + 1 ≤ mF y ∧ 19 + mMax k + mL k ≤ mL y ∧ mNa k ≤ S.length ∧ csum (S.drop (mNa k)) ≤ 8 ∧ (argL (S.take (mNa k)).reverse).length ≤ mMax k ∧ (kind = 0 → ∃ b As, (S.take (mNa k)).reverse = .ref b :: As ∧ isO h b (mOwn k) = true) ∧ (kind = 2 ∨ kind = 3 → ∃ b As, (S.take (mNa k)).reverse = .ref b :: As) := by
  unfold call at hs
  split at hs
  · next q =>
    obtain ⟨q1, q2, q3, q4, q5⟩ := q
    split at hs
    · next b As e =>
      split at hs
      · next q6 => cases hs; exact ⟨by rw [e], q1, q2, q3, q4, q5, fun _ => ⟨b, As, e, q6⟩, fun z => by omega⟩
      · cases hs
    · cases hs; exact ⟨rfl, q1, q2, q3, q4, q5, fun z => by omega, fun z => by omega⟩
    · next b As e => cases hs; exact ⟨by rw [e], q1, q2, q3, q4, q5, fun z => by omega, fun _ => ⟨b, As, e⟩⟩
    · next b As e => cases hs; exact ⟨by rw [e], q1, q2, q3, q4, q5, fun z => by omega, fun _ => ⟨b, As, e⟩⟩
    · cases hs
  · cases hs
def isCall : Instr → Bool
  | .invokevirtual _ => true
  | .invokestatic _ => true
  | .invokespecial _ => true
  | _ => false
def Nc (x : Option Ac) : Prop := ∀ r, x ≠ some (.inr (.inr r))
theorem nc_none : Nc none := fun _ q => by cases q
theorem nc_go {h1 : Hp} {pc : Nat} {L : Lo} {S : List Value} : Nc (go pc L S h1) := fun _ e => by cases e
theorem nc_end {o : Ot} : Nc (some (.inr (.inl o))) := fun _ e => by cases e
theorem nc_bind {α : Type} {o : Option α} {f : α → Option Ac} (q : ∀ v, o = some v → Nc (f v)) : Nc (o.bind f) := by
  cases o with
  | none => exact nc_none
  | some v => exact q v rfl
set_option maxHeartbeats 4000000 in
theorem ins_nc {m pc n : Nat} {i : Instr} {L : Lo} {S : List Value} {h : Hp} (hi : isCall i = false) : Nc (ins m pc n i L S h) := by
  cases i <;> first
    | (cases hi; done)
    | (unfold ins; (try unfold br); (try unfold swi); dsimp only
       repeat' first
        | exact nc_none
        | exact nc_go
        | exact nc_end
        | (refine nc_bind fun v hv => ?_)
        | split)
theorem stp_call {r : Nat × List Value × Nat × Lo × List Value × Hp} (hy : y < 237) (hs : stp y pc L S h = some (.inr (.inr r))) : ∃ (i : Instr) (idx kind : Nat), decode (mCc y) pc = .ok (i, 3) ∧ lk2 calT (mOwn y) idx = some (kind, r.1) ∧ call y pc kind r.1 L S h = some (.inr (.inr r)) ∧ ((kind = 0 ∧ i = .invokevirtual idx) ∨ (kind = 1 ∧ i = .invokestatic idx) ∨ (kind = 2 ∧ i = .invokespecial idx) ∨ (kind = 3 ∧ i = .invokespecial idx)) := by
  unfold stp at hs
  obtain ⟨⟨i, n⟩, hk, hs⟩ := bind_at hs
  have hd := lk_ok (dc_ok y hy) hk
  have hn := lk_len hy hk
  cases hi : isCall i with
  | false => exact absurd hs (ins_nc hi r)
  | true =>
    have hgo : ∀ {pc1 : Nat} {L1 : Lo} {S1 : List Value} {h1 : Hp}, go pc1 L1 S1 h1 ≠ some (.inr (.inr r)) := fun z => by cases z
    cases i <;> first | (cases hi; done) | skip
    case invokevirtual k =>
      have hn : n = 3 := by simpa [lenOk] using hn
      subst hn
      unfold ins at hs; dsimp only at hs
      obtain ⟨q, hq, hs⟩ := bind_at hs
      split at hs
      · next q0 =>
        have h1 := (call_inv hs).1
        obtain ⟨q1, q2⟩ := q
        subst q0
        have h2 : r.1 = q2 := by rw [h1]
        exact ⟨_, k, 0, hd, by rw [h2]; exact hq, by rw [h2]; exact hs, Or.inl ⟨rfl, rfl⟩⟩
      · cases hs
    case invokestatic k =>
      have hn : n = 3 := by simpa [lenOk] using hn
      subst hn
      unfold ins at hs; dsimp only at hs
      obtain ⟨q, hq, hs⟩ := bind_at hs
      split at hs
      · next q0 =>
        have h1 := (call_inv hs).1
        obtain ⟨q1, q2⟩ := q
        subst q0
        have h2 : r.1 = q2 := by rw [h1]
        exact ⟨_, k, 1, hd, by rw [h2]; exact hq, by rw [h2]; exact hs, Or.inr (Or.inl ⟨rfl, rfl⟩)⟩
      · split at hs
        · split at hs
          · split at hs
            · obtain ⟨h1, hv, hs⟩ := bind_at hs
              exact absurd hs hgo
            · cases hs
          · cases hs
        · cases hs
    case invokespecial k =>
      have hn : n = 3 := by simpa [lenOk] using hn
      subst hn
      unfold ins at hs; dsimp only at hs
      obtain ⟨q, hq, hs⟩ := bind_at hs
      split at hs
      · next q0 =>
        have h1 := (call_inv hs).1
        obtain ⟨q1, q2⟩ := q
        have h2 : r.1 = q2 := by rw [h1]
        rcases q0 with q0 | q0
        · have q0 : q1 = 2 := q0
          subst q0
          exact ⟨_, k, 2, hd, by rw [h2]; exact hq, by rw [h2]; exact hs, Or.inr (Or.inr (Or.inl ⟨rfl, rfl⟩))⟩
        · have q0 : q1 = 3 := q0
          subst q0
          exact ⟨_, k, 3, hd, by rw [h2]; exact hq, by rw [h2]; exact hs, Or.inr (Or.inr (Or.inr ⟨rfl, rfl⟩))⟩
      · split at hs
        · split at hs
          · split at hs
            · exact absurd hs hgo
            · cases hs
          · cases hs
        · cases hs
theorem cal_lt : ∀ e ∈ calT, e.2.2.1 ≤ 3 → e.2.2.2 < 236 := by decide +kernel
theorem rl_after {H : Heap} {locs : List Loc} {cells slots : Nat} {ls : Array Slot} {ρ ρ' : Nat → Nat} {S' : List Value} {o1 : Hp} {st t : State} {Ls : List Loc} {v : Option Value} (r1 : va_S (fun q => base ≤ q) s.heap H locs) (r3 : ∀ k, k < n0 → ρ k = ρ0 k) (r4 : n0 ≤ h.1) (r5 : LV ρ h.1 L ls (mMax y)) (r6 : ∀ w ∈ S', okV h.1 w) (r7 : cells + c0 = h.2.1) (r8 : slots + s0 = h.2.2.1)
    (hst : st.heap = H) (hx : ∀ k, k < h.1 → ρ' k = ρ k) (hn : h.1 ≤ o1.1) (hP : Pic base g ρ' o1 t.heap) (hv : ∀ w, v = some w → okV o1.1 w) (hF : va_F (fun q => base ≤ q) st t) (hLs : ∀ z ∈ Ls, base ≤ z.base) (hm : h.2.1 ≤ o1.2.1 ∧ h.2.2.1 ≤ o1.2.2.1) :
    Rl s g base y ρ0 n0 c0 s0 L (v.toList ++ S') o1 t.heap (locs ++ Ls) (cells + (o1.2.1 - h.2.1)) (slots + (o1.2.2.1 - h.2.2.1)) ls ρ' := by
  obtain ⟨hz, hk⟩ := hF
  rw [hst] at hz hk
  refine ⟨⟨Nat.le_trans r1.1 hz, fun q h1 h2 => by rw [hk q (Nat.lt_of_lt_of_le h1 r1.1) h2]; exact r1.2.1 q h1 h2, fun z hz => ?_⟩, hP, fun k hk => by rw [hx k (by omega)]; exact r3 k hk, Nat.le_trans r4 hn, r5.ext hn hx, ?_, by omega, by omega⟩
  · rcases List.mem_append.mp hz with q | q
    · exact r1.2.2 z q
    · exact hLs z q
  · intro w hw
    rcases List.mem_append.mp hw with q | q
    · cases v with
      | none => cases q
      | some u => rw [List.mem_singleton.mp q]; exact hv u rfl
    · exact okV_le hn (r6 w q)
theorem st_call {n : Nat} {k : Nat} {As : List Value} {pc' : Nat} {L' : Lo} {S' : List Value} {h' : Hp} {o1 : Ot} (M : MX p l R s m meth c y) (C : CT base g s s.heap) (IH : Snd n) (hs : stp y pc L S h = some (.inr (.inr (k, As, pc', L', S', h')))) (hrun : run n k 0 (entL k As) [] h' = some o1) (hc : o1.2.2.1 ≤ c0 + R.cells) (hsl : o1.2.2.2.1 ≤ s0 + R.slots)
    (kk : ∀ v, o1.1 = .inl v → WW p l e R s m args below meth c Q g base y ρ0 n0 c0 s0 pc' L' (v.toList ++ S') o1.2)
    (kx : ∀ E, o1.1 = .inr E → ∀ H locs cells slots ls ρ q ce, Rl s g base y ρ0 n0 c0 s0 L' S' o1.2 H locs cells slots ls ρ → H[q]? = some ce → ce.vm = .none → s.vm.findClass E = some ce.cls → vx_W p l e R s m args below meth c H locs cells slots Q (F0 m pc ls (S'.map (rv ρ))) q) :
    WW p l e R s m args below meth c Q g base y ρ0 n0 c0 s0 pc L S h := by
  have hy : y < 237 := M.2.2.2.2.2.2.2.2.2.2.2
  obtain ⟨i, idx, kind, hd, hl, hcall, hkind⟩ := stp_call hy hs
  obtain ⟨e1, f1, f2, f3, f4, f5, f6, f7⟩ := call_inv hcall
  dsimp only at e1 f1 f2 f3 f4 f5 f6 f7 hl hcall
  cases e1
  have hkl : k < 236 := cal_lt _ (lk2_mem hl) (by show kind ≤ 3; omega)
  have hmono : h.2.1 ≤ o1.2.2.1 ∧ h.2.2.1 ≤ o1.2.2.2.1 := (run_le3 n hrun).2
  have MK := mth_ok k (by omega) (by omega)
  have hcal := cal_ok _ (lk2_mem hl)
  have hFr := M.2.2.2.2.2.2.2.2.2.1
  have hLr := M.2.2.2.2.2.2.2.2.2.2.1
  have hws : ∀ w ∈ mW k :: Wg, ∀ (a' : Array Value) (U : State), s.WarmedH U.vm → w.before a' U = true := by
    intro w hw a' U hW
    have hw' : w ∈ Wg := by
      rcases List.mem_cons.mp hw with rfl | hw
      · exact MK.1
      · exact hw
    exact word_at hW (good_of_word (List.mem_filter.mp hw').2) (C.word hw' args)
  intro H locs cells slots ls ρ r
  obtain ⟨r1, r2, r3, r4, r5, r6, r7, r8⟩ := r
  have hM := met_of (g := g) (base := base) (ρ := ρ) l M.2.2.2.2.2.2.2.1 IH hkl hrun f5 hmono
  have hsplit : S = S.take (mNa k) ++ S.drop (mNa k) := (List.take_append_drop _ _).symm
  have hS' : ∀ w ∈ S.drop (mNa k), okV h.1 w := fun w hw => r6 w (List.mem_of_mem_drop hw)
  have hAs : ∀ w ∈ (S.take (mNa k)).reverse, okV h.1 w := fun w hw => r6 w (List.mem_of_mem_take (List.mem_reverse.mp hw))
  have hAlen : ((S.take (mNa k)).reverse.map (rv ρ)).length = mNa k := by rw [List.length_map, List.length_reverse, List.length_take]; omega
  have hst : S.map (rv ρ) = ((S.take (mNa k)).reverse.map (rv ρ)).reverse ++ (S.drop (mNa k)).map (rv ρ) := by
    rw [← List.map_reverse, List.reverse_reverse, ← List.map_append, ← hsplit]
  have hroom : 2 * (F0 m pc ls (S.map (rv ρ))).monitorRoom + (((S.drop (mNa k)).map (rv ρ)).map fun v => v.category).sum ≤ 8 := by
    rw [csum_map]
    show 2 * 0 + _ ≤ 8
    omega
  have hPc : ∀ U : State, U.heap = H → s.WarmedH U.vm → PC g base ρ h (S.take (mNa k)).reverse ((S.take (mNa k)).reverse.map (rv ρ)).toArray U := by
    intro U hU hW
    refine ⟨rfl, ?_, by rw [hU]; exact r2, hAs⟩
    rw [hU]
    exact (C.warm hW).kept r1.1 (fun a h1 h2 => r1.2.1 a h1 h2)
  have hf : cells + (o1.2.2.1 - h.2.1) ≤ R.cells ∧ slots + (o1.2.2.2.1 - h.2.2.1) ≤ R.slots := ⟨by omega, by omega⟩
  have hfr : mF k + 1 ≤ R.frames := by omega
  have hlo : 8 + (mMax k + 11) + mL k ≤ R.locals := by omega
  have hfix : CallFix p m c (mCc y) (mMax y) s args Wg (ownN (mOwn y)) := ⟨M.1, M.2.1, M.2.2.2.2.1, M.2.2.2.2.2.1, fun w hw => C.word hw args⟩
  have hsz : (F0 m pc ls (S.map (rv ρ))).locals.size = mMax y := r5.2.1
  have fin : vx_Run p l e R s m args below meth c H locs cells slots (o1.2.2.1 - h.2.1) (o1.2.2.2.1 - h.2.2.1) (F0 m pc ls (S.map (rv ρ))) ((S.drop (mNa k)).map (rv ρ)) (QC g base ρ h.1 o1 ((S.take (mNa k)).reverse.map (rv ρ)).toArray) (XC g base ρ h.1 o1) (fun q => base ≤ q) → W p l e R s m args below meth c H locs cells slots Q (F0 m pc ls (S.map (rv ρ))) := by
    intro hr
    refine callG hr ?_ ?_
    · intro E ce q st t Ls h0 hW hX hLs hce hcv hcl
      obtain ⟨hE, ρ', hx, hn, hP, hF⟩ := hX
      have h9 := kx E hE t.heap (locs ++ Ls) (cells + (o1.2.2.1 - h.2.1)) (slots + (o1.2.2.2.1 - h.2.2.1)) ls ρ' q ce (rl_after (v := none) r1 r3 r4 r5 hS' r7 r8 h0 hx hn hP (fun w hw => by cases hw) hF hLs hmono) hce hcv hcl
      rw [map_ext hx hS'] at h9
      exact h9
    · intro v st t Ls h0 hW hQ hLs
      obtain ⟨v', ρ', ho, hv, hx, hn, hP, hok, hF⟩ := hQ
      have hv : v = v'.map (rv ρ') := by cases hv; rfl
      have h9 := kk v' ho t.heap (locs ++ Ls) (cells + (o1.2.2.1 - h.2.1)) (slots + (o1.2.2.2.1 - h.2.2.1)) ls ρ' (rl_after (v := v') r1 r3 r4 r5 hS' r7 r8 h0 hx hn hP hok hF hLs hmono)
      rw [List.map_append, map_ext hx hS'] at h9
      have e9 : v.toList ++ (S.drop (mNa k)).map (rv ρ) = v'.toList.map (rv ρ') ++ (S.drop (mNa k)).map (rv ρ) := by rw [hv]; cases v' <;> rfl
      rw [e9]
      exact h9
  apply fin
  have hini : (Cond.initialized (mY k).cls).before args s = true := C.word MK.2.1 args
  have hcode : (mHh k).isEmpty = true → mW k = Cond.code (mY k) (mCc k) (mMax k) (mRet k) := fun q => by unfold mW; rw [if_pos q]
  have har : ∀ {a : Nat}, arity (mY k) = some a → ∀ sig, parseMethodDescriptor (mY k).desc = some sig → a = sig.parameters.length := by
    intro a ha sig hsig
    unfold arity at ha
    rw [hsig] at ha
    exact (Option.some.inj ha).symm
  have hcodeW : (mW k).before args s = true := C.word MK.1 args
  rcases hkind with ⟨rfl, rfl⟩ | ⟨rfl, rfl⟩ | ⟨rfl, rfl⟩ | ⟨rfl, rfl⟩
  · obtain ⟨b, As, eA, hO⟩ := f6 rfl
    obtain ⟨w1, w2, w3, w4, w5, w6, w7, w8⟩ := hcal
    dsimp only at w1 w2 w3 w4 w5 w6 w7 w8
    obtain ⟨fs, hfs⟩ := isO_at hO
    have hb : b < h.1 := by have := hAs (.ref b) (by rw [eA]; exact List.mem_cons_self); exact this
    have hb3 : 3 ≤ b := by
      rcases Nat.lt_or_ge b 3 with q | q
      · rw [(r2.2.2.2.2 b q).2] at hfs; cases hfs
      · exact q
    have heb : (wl g ρ h)[b - 3]? = some (ρ b, .inr (mOwn k, fs.map (rv ρ))) := by rw [wl_at g ρ h hb3 hb, hfs]; rfl
    have hrecv := va_recv C.1 r2.1 (cls_ok (mOwn k) w4).1 heb
    rw [hcode w8] at hM hws hcodeW
    rw [eA] at hst hPc hAlen hM
    rw [eA]
    refine vx_runV (As := As.map (rv ρ)) (C := RC (mOwn k)) (n := mNa k - 1) hfix hM ⟨⟨rfl, rfl, hfr, hlo, hws, List.mem_cons_self, hcodeW, hini, MK.2.2.2.2, har w6, C.word w1 args⟩, C.word w2 args, C.word w3 args⟩ ⟨PC_blind _ _ _ _ _, hrecv, hPc⟩ rfl ?_ hsz ?_ hroom hd hf
    · rw [List.length_map, List.length_cons] at hAlen; rw [List.length_map]; omega
    · show S.map (rv ρ) = _
      rw [hst, List.map_cons, List.reverse_cons, List.append_assoc]; rfl
  · obtain ⟨w1, w2, w3⟩ := hcal
    dsimp only at w1 w2 w3
    cases hh : (mHh k).isEmpty with
    | true =>
      rw [hcode hh] at hM hws hcodeW
      exact vx_runS (n := mNa k) hfix hM ⟨⟨rfl, rfl, hfr, hlo, hws, List.mem_cons_self, hcodeW, hini, MK.2.2.2.2, har w3, C.word w1 args⟩, C.word w2 args⟩ ⟨PC_blind _ _ _ _ _, hPc⟩ rfl hAlen hsz hst hroom hd hf
    | false =>
      have eW : mW k = Cond.codeWith (mY k) (mCc k) (mMax k) (mRet k) (mHh k) := by unfold mW; rw [if_neg (by rw [hh]; exact Bool.false_ne_true)]
      rw [eW] at hM hws hcodeW
      exact vx_runSX (n := mNa k) hfix hM ⟨⟨rfl, rfl, hfr, hlo, hws, List.mem_cons_self⟩, hcodeW, hini, MK.2.2.2.2, har w3, C.word w1 args, C.word w2 args⟩ ⟨PC_blind _ _ _ _ _, hPc⟩ rfl hAlen hsz hst hroom hd hf
  · obtain ⟨b, As, eA⟩ := f7 (Or.inl rfl)
    obtain ⟨w1, w2, w3, w4, w5, w6, w7⟩ := hcal
    dsimp only at w1 w2 w3 w4 w5 w6 w7
    rw [hcode w6, w7] at hM hws hcodeW
    rw [eA] at hst hPc hAlen hM
    rw [eA]
    refine vx_runI (b := ρ b) (As := As.map (rv ρ)) (n := mNa k - 1) hfix hM ⟨⟨rfl, rfl, hfr, hlo, hws, List.mem_cons_self, hcodeW, hini, MK.2.2.2.2, har w4, C.word w1 args⟩, w3, C.word w2 args⟩ ⟨PC_blind _ _ _ _ _, hPc⟩ rfl ?_ hsz ?_ hroom hd hf
    · rw [List.length_map, List.length_cons] at hAlen; rw [List.length_map]; omega
    · show S.map (rv ρ) = _
      rw [hst, List.map_cons, List.reverse_cons, List.append_assoc]; rfl
  · obtain ⟨b, As, eA⟩ := f7 (Or.inr rfl)
    obtain ⟨w1, w2, w3, w4, w5, w6, w7⟩ := hcal
    dsimp only at w1 w2 w3 w4 w5 w6 w7
    rw [hcode w6, w7] at hM hws hcodeW
    rw [eA] at hst hPc hAlen hM
    rw [eA]
    refine vx_runIN (b := ρ b) (As := As.map (rv ρ)) (n := mNa k - 1) hfix hM ⟨⟨⟨rfl, rfl, hfr, hlo, hws, List.mem_cons_self⟩, hcodeW, hini, MK.2.2.2.2, har w4, C.wordW w1 rfl args⟩, w3, C.word w2 args⟩ ⟨PC_blind _ _ _ _ _, hPc⟩ rfl ?_ hsz ?_ hroom hd hf
    · rw [List.length_map, List.length_cons] at hAlen; rw [List.length_map]; omega
    · show S.map (rv ρ) = _
      rw [hst, List.map_cons, List.reverse_cons, List.append_assoc]; rfl
end SOUND3
end
section
section SOUND4
theorem LV.drop {ρ : Nat → Nat} {n : Nat} {L : Lo} {ls ls' : Array Slot} {nL k : Nat} {x : Value} (h : LV ρ n L ls nL) (h' : lv_has ls' nL ((k, x) :: (lvl ρ L).filter (fun q => !(q.1 == k) && !(q.1 + 1 == k && q.2.category == 2)))) : LV ρ n ((lst1 k L (.int 0)).set k none) ls' nL := by
  refine ⟨by rw [List.length_set, lst1_len]; exact h.1, h'.1, h'.2.1, fun j w hw => ?_⟩
  by_cases hj : j = k
  · subst hj
    rw [List.getElem?_set] at hw
    simp only [if_true] at hw
    split at hw <;> cases hw
  · rw [List.getElem?_set_ne (fun q => hj q.symm)] at hw
    rcases lst1_get k L (.int 0) j w hw with ⟨h1, -⟩ | ⟨h1, h2, h3⟩
    · exact absurd h1 hj
    · refine ⟨(h.2.2.2 j w h2).1, h'.2.2 (j, rv ρ w) (List.mem_cons_of_mem _ (List.mem_filter.mpr ⟨lvl_mem h2, ?_⟩))⟩
      simp only [Bool.and_eq_true, Bool.not_eq_true', beq_eq_false_iff_ne, ne_eq, Bool.and_eq_false_iff, cat_rv]
      refine ⟨h1, ?_⟩
      by_cases q : j + 1 = k
      · exact Or.inr (fun z => h3 ⟨q, z⟩)
      · exact Or.inl q
/-- the handler's first instruction puts the exception away -/
theorem st_handler {p : Program} {l : Launch} {e : Env} {R : Room} {s : State} {m : MethodId} {args : Array Value} {below : List Frame} {meth : Method} {c : Code} {Q : State → Prop} {g : GG} {base y : Nat} {ρ0 : Nat → Nat} {n0 c0 s0 : Nat} {L : Lo} {S : List Value} {h : Hp} {hp : Nat} {q : Nat × Lo} (M : MX p l R s m meth c y) (ha : afterH y hp L = some q) (kk : WW p l e R s m args below meth c Q g base y ρ0 n0 c0 s0 q.1 q.2 [] h)
    {H : Heap} {locs : List Loc} {cells slots : Nat} {ls : Array Slot} {ρ : Nat → Nat} (r : Rl s g base y ρ0 n0 c0 s0 L S h H locs cells slots ls ρ) (z : Addr) : W p l e R s m args below meth c H locs cells slots Q (F0 m hp ls [.ref z]) := by
  obtain ⟨r1, r2, r3, r4, r5, r6, r7, r8⟩ := r
  have hy : y < 237 := M.2.2.2.2.2.2.2.2.2.2.2
  unfold afterH at ha
  split at ha
  · next k n hk =>
    split at ha
    · next hlt =>
      cases ha
      have hn : n = 2 := by simpa [lenOk] using lk_len hy hk
      subst hn
      rw [r5.1] at hlt
      exact lv_astore M.1 M.2.1 (lk_ok (dc_ok y hy) hk) r5.has hlt rfl (fun ls' hl => kk H locs cells slots ls' ρ ⟨r1, r2, r3, r4, r5.drop hl, fun v hv => (by cases hv), r7, r8⟩)
    · cases ha
  · next k n hk =>
    split at ha
    · next hlt =>
      cases ha
      have hn : n = 1 := by simpa [lenOk] using lk_len hy hk
      subst hn
      rw [r5.1] at hlt
      exact lv_astore_n M.1 M.2.1 (lk_ok (dc_ok y hy) hk) rfl r5.has hlt rfl (fun ls' hl => kk H locs cells slots ls' ρ ⟨r1, r2, r3, r4, r5.drop hl, fun v hv => (by cases hv), r7, r8⟩)
    · cases ha
  · cases ha
theorem snd_all : ∀ n, Snd n := by
  intro n
  induction n with
  | zero => intro y pc L S h o hr; cases hr
  | succ n ih =>
    intro y pc L S h o hr p l e R s m args below meth c Q g base ρ0 n0 c0 s0 M C hRc hRs hend hout
    unfold run at hr
    cases hs : stp y pc L S h with
    | none => rw [hs] at hr; cases hr
    | some a =>
      rw [hs] at hr
      simp only [Option.bind_some] at hr
      rcases a with ⟨pc', L', S', h'⟩ | o1 | ⟨k, As, pc', L', S', h'⟩
      · have h1 := run_le3 n hr
        refine step M C hs ?_ ?_ ?_
        · show h'.2.1 ≤ _
          have := h1.2.1; omega
        · show h'.2.2.1 ≤ _
          have := h1.2.2; omega
        · exact ih y pc' L' S' h' o hr p l e R s m args below meth c Q g base ρ0 n0 c0 s0 M C hRc hRs hend hout
      · cases hr
        exact hend pc L S h hs
      · simp only at hr
        cases h1 : run n k 0 (entL k As) [] h' with
        | none => rw [h1] at hr; cases hr
        | some o1 =>
          rw [h1] at hr
          simp only [Option.bind_some] at hr
          have hroom : le3 o1.2 o.2 := by
            rcases o1 with ⟨v | E, h2⟩
            · exact run_le3 n hr
            · simp only at hr
              cases h3 : hnd (mHh y) pc E with
              | none => rw [h3] at hr; cases hr; exact le3_rf _
              | some hp =>
                rw [h3] at hr
                simp only at hr
                cases h4 : afterH y hp L' with
                | none => rw [h4] at hr; cases hr
                | some q => rw [h4] at hr; exact run_le3 n hr
          refine st_call M C ih hs h1 (by have := hroom.2.1; omega) (by have := hroom.2.2; omega) ?_ ?_
          · intro v hv
            obtain ⟨x, h2⟩ := o1
            have hv : x = .inl v := hv
            subst hv
            exact ih y pc' L' (v.toList ++ S') h2 o hr p l e R s m args below meth c Q g base ρ0 n0 c0 s0 M C hRc hRs hend hout
          · intro E hE H locs cells slots ls ρ q ce r hce hcv hcl
            obtain ⟨x, h2⟩ := o1
            have hE : x = .inr E := hE
            subst hE
            simp only at hr
            obtain ⟨i, hEi, hi⟩ := run_exc n h1
            cases h3 : hnd (mHh y) pc E with
            | none =>
              rw [h3] at hr
              cases hr
              exact hout E H locs cells slots pc ls (S'.map (rv ρ)) ρ q ce rfl r.1 r.2.1 r.2.2.1 r.2.2.2.1 r.2.2.2.2.2.2.1 r.2.2.2.2.2.2.2 hce hcv hcl h3 ⟨i, hEi, hi⟩
            | some hp =>
              rw [h3] at hr
              simp only at hr
              cases h4 : afterH y hp L' with
              | none => rw [h4] at hr; cases hr
              | some q2 =>
                rw [h4] at hr
                simp only [Option.bind_some] at hr
                have kk := ih y q2.1 q2.2 [] h2 o hr p l e R s m args below meth c Q g base ρ0 n0 c0 s0 M C hRc hRs hend hout
                have htab : c.exceptionTable.toList = tableOf (mHh y) := by
                  rcases M.2.2.2.2.2.2.1 with q9 | q9
                  · subst q9; exact absurd h3 (by rw [show mHh 236 = [] from rfl]; exact fun z => by cases z)
                  · exact q9
                obtain ⟨pre, x, suf, t1, t2, t3, t4, t5⟩ := hnd_some h3
                have hxm : x ∈ tableOf (mHh y) := by rw [t1]; exact List.mem_append_right _ List.mem_cons_self
                obtain ⟨e9, he9, hc9⟩ := table_mem hxm
                obtain ⟨g1, g2⟩ := hh_at M.2.2.2.2.2.2.2.2.2.2.2 he9
                rw [← hc9] at g1
                have hlk := cat_link x.catchType g1
                rw [t4] at hlk
                refine vx_catch (own := ownN (mOwn y)) (name := E) M.2.2.2.2.2.1 pre x suf (by rw [htab]; exact t1) (fun z hz => pass_of M C hEi hi (by rw [t1]; exact List.mem_append_left _ hz) (t2 z hz)) t3 (by omega) (by rw [g2]; exact C.word hlk.1 args) (C.wordW hlk.2 rfl args) hce hcv hcl ?_
                rw [t5]
                exact st_handler M h4 kk r q
end SOUND4
end
section
section ENTRY
def rowStep (j : Nat) : Int32 := match j with | 0 => 0 | 1 => 1 | 2 => 1 | 3 => 0 | 4 => -1 | _ => -1
def colStep (j : Nat) : Int32 := match j with | 0 => 1 | 1 => 0 | 2 => -1 | 3 => -1 | 4 => 0 | _ => 1
theorem inst_all : (List.range 10).all (fun c => clnT.any fun e => e.2.2 == c) = true := by decide +kernel
theorem inst_ok {c : Nat} (h : c < 10) : Cond.instantiable (RC c) (NC c) ∈ Wg := by
  have h1 := List.all_eq_true.mp inst_all c (List.mem_range.mpr h)
  obtain ⟨e, he, h2⟩ := List.any_eq_true.mp h1
  have h2 : e.2.2 = c := by simpa using h2
  have h3 := (cln_ok e he).2.1
  rwa [h2] at h3
theorem arr_known {args : Array Value} {s : State} (hts : ∀ w ∈ lw_tbl, w.before args s = true) {t : Nat} (h : t < 5) : ∃ cA : ClassId, ArrOfT s cA (tyO t) ∧ va_RA s cA (tyO t) := by
  have hob : ∀ C0, (Cond.arrayOver (.object C0)).before args s = true → ∃ cA : ClassId, ArrOfT s cA (.object C0) ∧ va_RA s cA (.object C0) := by
    intro C0 h0
    obtain ⟨comp, c, k, h1, h2, h3, h4, h5⟩ := Cond.arrayOver_spec h0
    exact ⟨c, fun n z => ⟨fun k h => (by cases h), k, h3, comp, h4⟩, k, comp, h3, h4, h1, h5⟩
  match t, h with
  | 0, _ => obtain ⟨cA, kA, comp, h1, h2, h3⟩ := Cond.arrayClass_spec (hts _ w_arr.1); exact ⟨cA, fun n z => ⟨fun k h => (by cases h), kA, h2, comp, h3⟩, h1⟩
  | 1, _ => exact hob RX7 (hts _ (arr_ok (6, 15, 1) (by decide +kernel)).2.1)
  | 2, _ => exact hob RX6 (hts _ (arr_ok (4, 9, 2) (by decide +kernel)).2.1)
  | 3, _ => obtain ⟨cA, kA, comp, h1, h2, h3⟩ := Cond.arrayClass_spec (hts _ w_arr.2.1); exact ⟨cA, fun n z => ⟨fun k h => (by cases h), kA, h2, comp, h3⟩, h1⟩
  | 4, _ => obtain ⟨cA, kA, comp, h1, h2, h3⟩ := Cond.arrayClass_spec (hts _ w_arr.2.2); exact ⟨cA, fun n z => ⟨fun k h => (by cases h), kA, h2, comp, h3⟩, h1⟩
  | n + 5, h => exact absurd h (by omega)
/-- the steps' rows, as the Statement gives them -/
def steN (a j : Nat) : Int32 := if a = 1 then rowStep j else colStep j
theorem nar_T : ∀ a, a = 1 ∨ a = 2 → Cond.arrayOf (.static RX6 (staN a) "[I") .int ∈ flatC (Jvm.Cond.and given_1 narrow_1) ∧ Cond.eq (.length (.static RX6 (staN a) "[I")) (.int (Int32.ofNat 6)) ∈ flatC (Jvm.Cond.and given_1 narrow_1) ∧ ∀ j, j < 6 → Cond.eq (.elem (.static RX6 (staN a) "[I") (.int (Int32.ofNat j))) (.int (steN a j)) ∈ flatC (Jvm.Cond.and given_1 narrow_1) := by
  intro a ha
  rcases ha with rfl | rfl
  · exact ⟨by decide +kernel, by decide +kernel, by decide +kernel⟩
  · exact ⟨by decide +kernel, by decide +kernel, by decide +kernel⟩
theorem nar_U : Cond.isRef (.static Bundle.tN "UNASSIGNED_STACK" Bundle.steD) ∈ flatC (Jvm.Cond.and given_1 narrow_1) ∧ Cond.isRef (.static Bundle.tN "SUPPRESSED_SENTINEL" Bundle.listD) ∈ flatC (Jvm.Cond.and given_1 narrow_1) := ⟨by decide +kernel, by decide +kernel⟩
theorem nar_S : thrT.all (fun e => decide (Cond.exactly (.string RX8 e.2.2.2.2.1) "java/lang/String" ∈ flatC (Jvm.Cond.and given_1 narrow_1))) = true := by decide +kernel
theorem nar_N : ([13, 19, 21].all fun i => [13, 19, 21].all fun j => decide (i = j) || decide (Cond.not (.castable (catN i) (catN j)) ∈ flatC (Jvm.Cond.and given_1 narrow_1))) = true := by decide +kernel
theorem w_lays : Cond.laysStatic Bundle.tN "UNASSIGNED_STACK" Bundle.steD ∈ lw_tbl ∧ Cond.laysStatic Bundle.tN "SUPPRESSED_SENTINEL" Bundle.listD ∈ lw_tbl ∧ Cond.initialized Bundle.tN ∈ lw_tbl ∧ (∀ a, a = 1 ∨ a = 2 → Cond.laysStatic RX6 (staN a) "[I" ∈ lw_tbl) ∧ Cond.initialized RX6 ∈ lw_tbl := by
  refine ⟨List.mem_append_right _ (List.mem_of_getElem? (i := 544) (by decide +kernel)), List.mem_append_right _ (List.mem_of_getElem? (i := 546) (by decide +kernel)), List.mem_append_right _ (List.mem_of_getElem? (i := 12) (by decide +kernel)), ?_, List.mem_append_right _ (List.mem_of_getElem? (i := 2) (by decide +kernel))⟩
  intro a ha
  rcases ha with rfl | rfl
  · exact List.mem_append_right _ (List.mem_of_getElem? (i := 333) (by decide +kernel))
  · exact List.mem_append_right _ (List.mem_of_getElem? (i := 339) (by decide +kernel))
/-- what holds at the law's entry -/
theorem ct_entry {s : State} {b L : Nat} {xs : Nat → Int32} (hts : ∀ w ∈ lw_tbl, w.before #[Value.ref b] s = true) (hX : va_X b L xs s s.heap) (hbl : b < s.heap.size) (hgv : (Jvm.Cond.and given_1 narrow_1).before #[Value.ref b] s = true) :
    ∃ g : GG, CT s.heap.size g s s.heap ∧ gO g 0 = b ∧ (gN g 0 = L ∧ gF g 0 = xs) ∧ (gN g 1 = 6 ∧ gF g 1 = rowStep) ∧ (gN g 2 = 6 ∧ gF g 2 = colStep) := by
  have hs := flat_of_before _ hgv
  have hA : ∀ a : Nat, a < s.heap.size → ¬ s.heap.size ≤ a := fun a h => Nat.not_le.mpr h
  have hcl : ∀ c : Nat, ∃ q : ClassId × (Nat → Nat), c < 10 → u_Kn s (RC c) (TC c) (NC c) q.1 q.2 := by
    intro c
    by_cases h : c < 10
    · obtain ⟨cC, iS, hk⟩ := u_known (ws := Wg) (n := NC c) (fun w hw => hts w (wg_tbl w hw)) (cls_ok c h).2.1 (hts _ (wg_tbl _ (inst_ok h)))
      exact ⟨(cC, iS), fun _ => hk⟩
    · exact ⟨(0, fun _ => 0), fun h' => absurd h' h⟩
  have har : ∀ t : Nat, ∃ cA : ClassId, t < 5 → ArrOfT s cA (tyO t) ∧ va_RA s cA (tyO t) := by
    intro t
    by_cases h : t < 5
    · obtain ⟨cA, hk⟩ := arr_known hts h
      exact ⟨cA, fun _ => hk⟩
    · exact ⟨0, fun h' => absurd h' h⟩
  have hst : ∀ a, a = 1 ∨ a = 2 → ∃ t : Nat, (Term.static RX6 (staN a) "[I").eval #[Value.ref b] s none [] s = some (.ref t) ∧ va_T .int t 6 (fun j => .int (steN a j)) (fun q => s.heap.size ≤ q) s s.heap := by
    intro a ha
    obtain ⟨n1, n2, n3⟩ := nar_T a ha
    exact va_Tof (Nat.le_of_ble_eq_true rfl) (hs _ n1) (va_eqt (hs _ n2)) (fun j hj => va_eqt (hs _ (n3 j hj))) hA
  obtain ⟨fc, hfc⟩ := Classical.axiomOfChoice hcl
  obtain ⟨fa, hfa⟩ := Classical.axiomOfChoice har
  obtain ⟨t1, e1, T1⟩ := hst 1 (Or.inl rfl)
  obtain ⟨t2, e2, T2⟩ := hst 2 (Or.inr rfl)
  have T0 : va_T .int b L (fun j => .int (xs j)) (fun q => s.heap.size ≤ q) s s.heap := by
    obtain ⟨scr, h1, h2, h3, h4, h5⟩ := hX
    exact ⟨scr, h1, h2, h3, by omega, by rw [h4], h5, hA b hbl⟩
  refine ⟨(fun c => (fc c).1, fun c => (fc c).2, fa, fun j => if j = 0 then b else if j = 1 then t1 else t2, fun j => if j = 0 then L else 6, fun j => if j = 0 then xs else steN j), ⟨⟨fun c q hq => ?_, fun k q hk => ?_⟩, Nat.le_refl _, fun w h1 h2 => warmW_at h2 (State.WarmedH.refl s) (hts w h1), fun j hj => ?_, fun a ha => ?_, ?_, ?_, fun e he => ?_, fun t ht => ?_, fun i j hi hj hn => ?_⟩, rfl, ⟨rfl, rfl⟩, ⟨rfl, rfl⟩, rfl, rfl⟩
  · have hc : c < 10 := (List.getElem?_eq_some_iff.mp hq).1
    have h2 := (cls_ok c hc).1
    rw [h2] at hq
    cases hq
    exact hfc c hc
  · have hk5 : k < 5 := by
      have := (List.getElem?_eq_some_iff.mp hk).1
      simpa [gT] using this
    rw [gT_at _ hk5] at hk
    cases hk
    exact hfa k hk5
  · match j, hj with
    | 0, _ => exact T0
    | 1, _ => exact T1
    | 2, _ => exact T2
    | n + 3, h => exact absurd h (by omega)
  · have hZ : ∀ t : Nat, (Term.static RX6 (staN a) "[I").eval #[Value.ref b] s none [] s = some (.ref t) → va_Z RX6 (staN a) "[I" (.ref t) (fun q => s.heap.size ≤ q) s s.heap := fun t ht => va_Zof (hts _ (w_lays.2.2.2.1 a ha)) (hts _ w_lays.2.2.2.2) ht hA
    rcases ha with rfl | rfl
    · exact hZ t1 e1
    · exact hZ t2 e2
  · exact vx_Zqof (hts _ w_lays.1) (hts _ w_lays.2.2.1) (hs _ nar_U.1) hA
  · exact vx_Zqof (hts _ w_lays.2.1) (hts _ w_lays.2.2.1) (hs _ nar_U.2) hA
  · have h1 := of_decide_eq_true (List.all_eq_true.mp nar_S e he)
    obtain ⟨a, c, cA, kA, q1, -⟩ := Cond.exactly_spec (args := #[Value.ref b]) (first := s) (o := none) (s := s) (idx := []) (t := .string RX8 e.2.2.2.2.1) (cls := "java/lang/String") (hs _ h1)
    obtain ⟨u1, u2, u3, u4, u5, u6, u7, u8⟩ := e
    exact ⟨a, vk_R.of (hts _ (thr_ok _ he).2.2.2.2.1) q1⟩
  · rcases ht with rfl | rfl
    · exact va_AO.of (hts _ (arr_ok (6, 15, 1) (by decide +kernel)).2.1)
    · exact va_AO.of (hts _ (arr_ok (4, 9, 2) (by decide +kernel)).2.1)
  · have hi' : i ∈ [13, 19, 21] := by rcases hi with rfl | rfl | rfl <;> simp
    have hj' : j ∈ [13, 19, 21] := by rcases hj with rfl | rfl | rfl <;> simp
    have h1 := List.all_eq_true.mp (List.all_eq_true.mp nar_N i hi') j hj'
    simp only [Bool.or_eq_true, decide_eq_true_eq] at h1
    rcases h1 with h1 | h1
    · exact absurd h1 hn
    · exact va_Nc.of (hs _ h1)
end ENTRY
end
section
/-! THE CLAIM OUT OF ONE WALK OF THE LAW'S BODY. Your part is whole_start (and what it stands on); all else here is the same for every law, but numbers. -/
def R_law : String := "HexBroadsidesLaw"
def lw_P (b : Addr) (xs : List Int32) (args : Array Value) (s : State) : Prop := args = #[.ref b] ∧ s.IntsAt b xs ∧ xs.length ≤ 3584 ∧ (Jvm.Cond.and given_1 narrow_1).before args s = true
/-- what a walk over the start with the record d0 says of its end, said of the start itself -/
theorem lw_closed {s t : State} {o : Outcome} {d0 : Drawn} {L : List Loc} {k n : Nat} (hd0 : s.drawn.sameBut d0 lw_cs) (hv : ∃ v, o = .returned v) (hW : (s.setDrawn d0).WarmedH t.vm) (hs : (s.setDrawn d0).sameButNew ({ t with vm := s.vm } : State) L k n) : State.butDraws s t lw_cs (fun t1 => Framed s o t1 L k n) := by
  have h2 : t.drawn = d0 := congrArg State.drawn hs.1
  refine ⟨⟨hv, hW, State.sameButNew.setDrawn hs s.drawn⟩, ?_, by decide⟩
  rw [h2]
  exact hd0
def lw_Q (_ : Array Value) (s : State) (o : Outcome) (t : State) : Prop := o = .returned (some (.int 1)) ∧ State.butDraws s t lw_cs (fun t1 => Framed s o t1 [] 601024 7293034)
def lw_Z (below : List Frame) (a : Array Value) (s : State) : State → Prop := fun t => ∃ o, t.status = .running ∧ Ended t below o ∧ lw_Q a s o t
/-- the law's own end, with 1 on the stack, nothing written that was there before, its room as the claim has it; d0: the record of draws at this point (at the entry s.drawn: begin with 'refine W.base ?_' and 'have hd0 := Drawn.sameBut.refl s.drawn lw_cs') -/
theorem lw_ret {p : Program} {l : Launch} {e : Env} {s : State} {m : MethodId} {below : List Frame} {meth : Method} {c : Code} {b : Nat} {d0 : Drawn} (hd0 : s.drawn.sameBut d0 lw_cs) (hx : p.tables.exec = Jvm.exec) (hb : c.code = code) (hr : meth.sig.returnType = ret) (hlocks : meth.locks = false) {pc : Nat} {H : Heap} {ls : Array Slot} (hdg : decode code pc = .ok (.ireturn, 1)) : W p l e room_1 (s.setDrawn d0) m #[Value.ref b] below meth c H [] 601024 7293034 (lw_Z below #[Value.ref b] s) (F0 m pc ls [.int 1]) := by
  intro T hT X
  obtain ⟨fs, hret, hrun, hended, hW, hframe⟩ := X.leave (v := some (.int 1)) (hlocks := hlocks) (fun h => by rw [hr] at h; cases h)
  have hmeth' : T.vm.method? m = some meth := X.method'
  refine ⟨T.setFrames fs, ?_, .returned (some (.int 1)), hrun, hended, rfl, lw_closed hd0 ⟨_, rfl⟩ hW hframe⟩
  jvm_step X.here [X.here.top, hx, hb, hdg, hmeth', hr, ret, narrow_b1]
  (try refine ⟨rfl, ?_⟩); (try refine ⟨rfl, ?_⟩)
  first | (intro acts; rw [hret _ acts rfl rfl rfl]) | rw [hret _ _ rfl rfl rfl]
  exact Steps.refl _
/-- what holds at the law's entry: the machine, the code, the tables' words (any of lw_tbl by 'hts w (by decide +kernel)'), the script of L ints xs at the cell b, what the Statement gives of the start (any of its parts by flat_of_before) -/
def lw_At (p : Program) (s : State) (m : MethodId) (meth : Method) (c : Code) (b L : Nat) (xs : Nat → Int32) : Prop :=
  p.tables.exec = Jvm.exec ∧ c.code = code ∧ meth.sig.returnType = ret ∧ c.maxLocals = 9 ∧ s.vm.findClass R_law = some m.cls ∧ (∀ w ∈ lw_tbl, w.before #[Value.ref b] s = true) ∧ va_X b L xs s s.heap ∧ b < s.heap.size ∧ meth.locks = false ∧ (Jvm.Cond.and given_1 narrow_1).before #[Value.ref b] s = true
-- ===== YOUR PART BEGINS =====
/-- the interpreter's heap at the law's entry -/
def hp0 (L : Nat) (xs : Nat → Int32) : Hp := (3, 0, 0, fun j => match j with | 0 => .inl (0, L, .inl xs) | 1 => .inl (0, 6, .inl rowStep) | 2 => .inl (0, 6, .inl colStep) | _ => .inr (0, []))
/-- the run of the law that is owed -/
def Owed : Prop := ∀ (L : Nat) (xs : Nat → Int32), L ≤ 3584 → ∃ h1 : Hp, Run 236 0 (entL 236 [.ref 0]) [] (hp0 L xs) = some (.inl (some (.int 1)), h1) ∧ h1.2.1 ≤ 601024 ∧ h1.2.2.1 ≤ 7293034
theorem law_ret {y pc : Nat} {L : Lo} {S : List Value} {h h1 : Hp} (hs : stp y pc L S h = some (.inr (.inl (.inl (some (.int 1)), h1)))) : ∃ n, lk (cdOf y) pc = some (.ireturn, n) ∧ S = [.int 1] ∧ h = h1 := by
  unfold stp at hs
  obtain ⟨⟨i, n⟩, hk, hs⟩ := bind_at hs
  cases hi : isEndI i with
  | false => exact absurd hs (ins_ng hi _)
  | true =>
    cases i <;> first | (cases hi; done) | skip
    case ireturn =>
      unfold ins at hs
      dsimp only at hs
      split at hs
      · obtain ⟨ty, q1, hs⟩ := bind_at hs
        split at hs
        · cases hs; exact ⟨n, hk, rfl, rfl⟩
        · cases hs
      · cases hs
    case new k =>
      unfold ins at hs
      dsimp only at hs
      split at hs
      · cases hs
      · split at hs
        · split at hs <;> cases hs
        · cases hs
    all_goals (unfold ins at hs; dsimp only at hs; split at hs <;> first | (cases hs; done) | (split at hs <;> cases hs))
/-- YOUR PART: from the entry, for every script of at most 3584 ints, the law comes to its end with true ('hflags': the launch's flags, for a law that throws: no stack traces) -/
theorem whole_start {p : Program} {e : Env} {s : State} {m : MethodId} {below : List Frame} {meth : Method} {c : Code} (hO : Owed) (l : Launch) (hflags : l.flags = flags0) {b L : Nat} {xs : Nat → Int32} (hL : L ≤ 3584) (C0 : lw_At p s m meth c b L xs) : W p l e room_1 s m #[Value.ref b] below meth c s.heap [] 0 0 (lw_Z below #[Value.ref b] s) (entryFrame m ([Value.ref b] : List Value).toArray 9) := by
  obtain ⟨hx, hb, hr, hml, hown, hts, hX, hbl, hlocks, hgv⟩ := id C0
  obtain ⟨g, hC, g0, g1, g2, g3⟩ := ct_entry hts hX hbl hgv
  obtain ⟨h1, hR, hc1, hs1⟩ := hO L xs hL
  obtain ⟨n, hn⟩ := run_of hR
  have htr : l.stackTraces = false := by unfold Launch.stackTraces; rw [hflags]; decide +kernel
  have M : MX p l room_1 s m meth c 236 := ⟨hx, hb, hr, hlocks, hml, hown, Or.inl rfl, htr, fun q => absurd q (by decide +kernel), by decide +kernel, by decide +kernel, by decide⟩
  have hPic : Pic s.heap.size g (gO g) (hp0 L xs) s.heap := by
    refine ⟨fun k q hq => ?_, ⟨fun i j p q hi => ?_, fun k q hq => ?_⟩, Nat.le_refl _, fun j hj => ?_, fun j hj => ⟨rfl, ?_⟩⟩
    · simp [wl, hp0] at hq
    · simp [wl, hp0] at hi
    · simp [wl, hp0] at hq
    · match j, hj with
      | 0, _ => exact ⟨Nat.le_of_ble_eq_true rfl, trivial⟩
      | 1, _ => exact ⟨Nat.le_of_ble_eq_true rfl, trivial⟩
      | 2, _ => exact ⟨Nat.le_of_ble_eq_true rfl, trivial⟩
      | n + 3, h => exact absurd h (by show ¬ n + 3 < 3; omega)
    · match j, hj with
      | 0, _ => rw [g1.1, g1.2]; rfl
      | 1, _ => rw [g2.1, g2.2]; rfl
      | 2, _ => rw [g3.1, g3.2]; rfl
      | n + 3, h => exact absurd h (by omega)
  have hLV := entL_LV (k := 236) (n := 3) (ρ := gO g) (As := [.ref 0]) (by decide +kernel) (fun w hw => by rw [List.mem_singleton.mp hw]; exact Nat.le_of_ble_eq_true (n := 1) (m := 3) rfl)
  have eA : [Value.ref 0].map (rv (gO g)) = [Value.ref b] := by show [Value.ref (gO g 0)] = _; rw [g0]
  rw [eA] at hLV
  rw [lg_entry_eq]
  refine snd_all n 236 0 _ [] (hp0 L xs) _ hn p l e room_1 s m #[Value.ref b] below meth c (lw_Z below #[Value.ref b] s) g s.heap.size (gO g) 0 0 0 M hC hc1 hs1 ?_ ?_ s.heap [] 0 0 _ (gO g) ⟨va_S.rf, hPic, fun k hk => absurd hk (Nat.not_lt_zero k), Nat.zero_le _, hLV, fun v hv => (by cases hv), rfl, rfl⟩
  · intro pc L' S h hs H locs cells slots ls ρ r
    obtain ⟨k, hk, rfl, rfl⟩ := law_ret hs
    have hk1 : k = 1 := by simpa [lenOk] using lk_len (by decide) hk
    subst hk1
    have hd := lk_ok (dc_ok 236 (by decide)) hk
    have r7 : cells + 0 = h.2.1 := r.2.2.2.2.2.2.1
    have r8 : slots + 0 = h.2.2.1 := r.2.2.2.2.2.2.2
    refine va_forget (fun q hq => r.1.2.2 q hq) ?_
    refine W.widen (k := 601024) (n := 7293034) (by omega) (by omega) ?_
    exact W.base (lw_ret (Drawn.sameBut.refl s.drawn lw_cs) hx hb hr hlocks hd)
  · intro E H locs cells slots pc ls st ρ q ce ho
    cases ho
-- ===== YOUR PART ENDS =====
set_option maxHeartbeats 4000000 in
theorem lw_walk (hO : Owed) (l : Launch) (hflags : l.flags = flags0) (b : Addr) (xs : List Int32) : MetFree l x (headSpec (Jvm.Cond.code x code maxLocals ret :: tables_1) room_1) (lw_P b xs) (fun _ _ _ _ _ => True) lw_Q := by
  refine MetFree.of_bodyS (code := code) (maxLocals := maxLocals) (ret := ret) (by decide) ?_ ?_
  · intro args s m h hn
    obtain ⟨meth, c, h1, h2, h3, h4, h5, h6, -, -⟩ := Cond.code_spec hn (atoms_spec (ws := Jvm.Cond.code x code maxLocals ret :: tables_1) h _ List.mem_cons_self)
    exact ⟨meth, c, h1, h2, h3, h4, h5, h6⟩
  · intro p e s m args below meth c s₁ B hml0 hP _
    obtain ⟨rfl, hx, hbd, hgv⟩ := hP
    obtain ⟨scr, harrAt, hlist, hof, hsmall⟩ := hx
    obtain ⟨hcb, hkn, -, -⟩ := State.arrayAt?_spec harrAt
    have hown : s.vm.findClass R_law = some m.cls := findClass_of_methodNamed B.named
    have hts0 : ∀ c ∈ (Jvm.Cond.code x code maxLocals ret :: tables_1), c.before #[Value.ref b] s = true := atoms_spec (ws := Jvm.Cond.code x code maxLocals ret :: tables_1) B.pre
    have hts : ∀ w ∈ lw_tbl, w.before #[Value.ref b] s = true := k2_hts_sels lw_privs (fun w hw => hts0 w (List.mem_cons_of_mem _ hw)) lw_privs_ok
    have hml : c.maxLocals = 9 := B.maxLocals_eq (hts0 _ List.mem_cons_self)
    have X₀ : Stand p l e room_1 s m #[Value.ref b] below meth c s₁ [] 0 0 := Stand.of_body B
    have hh0 : s₁.heap = s.heap := by rw [B.state]; rfl
    have hsz : scr.slots.size = xs.length := by rw [← Array.length_toList, hlist, List.length_map]
    have hval : ∀ j : Nat, j < xs.length → scr.slots[j]? = some (.int (xs.getD j 0)) := fun j hj => by
      rw [← Array.getElem?_toList, hlist]
      simp [hj]
    have hbl : b < s.heap.size := (Array.getElem?_eq_some_iff.mp hcb).1
    have hX : va_X b xs.length (fun j => xs.getD j 0) s s.heap := ⟨scr, hcb, hof, hkn, hsz, hval⟩
    have K : W p l e room_1 s m #[Value.ref b] below meth c s₁.heap [] 0 0 (lw_Z below #[Value.ref b] s) (entryFrame m ([Value.ref b] : List Value).toArray 9) := by
      rw [hh0]
      exact whole_start hO l hflags hbd ⟨B.exec, B.bytes, B.returns, hml, hown, hts, hX, hbl, B.notSynchronized, hgv⟩
    obtain ⟨t, a1, o, b1, b2, b3⟩ := K s₁ rfl X₀
    exact ⟨t, o, a1, b1, b2, b3⟩
theorem lw_pre_spec {args : Array Value} {s : State} (h : (Jvm.Cond.and given_1 narrow_1).before args s = true) (hr : rest_1_c.before args s = true) : ∃ (b : Addr) (xs : List Int32), lw_P b xs args s := by
  have hs := flat_of_before _ h
  have hq := flat_of_before _ hr
  have hc : (Cond.count 1).before args s = true := hs _ (by decide +kernel)
  have harr : (Cond.arrayOf (.arg 0) .int).before args s = true := hs _ (by decide +kernel)
  have hle : (Cond.le (.length (.arg 0)) (.int 3584)).before args s = true := hs _ (by decide +kernel)
  have hlen : (Cond.isInt (.length (.arg 0))).before args s = true := hq _ (by decide +kernel)
  have hall : (Cond.all (.arg 0) (.isInt (.elem (.arg 0) (.index 0)))).before args s = true := hq _ (by decide +kernel)
  obtain ⟨b, xs, hb, hx⟩ := State.ints_of_pre rfl harr hlen hall
  have hsm : xs.length < 2 ^ 31 := hx.choose_spec.2.2.2
  have hev : (Term.length (.arg 0)).eval args s none [] s = some (.int xs.length.toInt32) := hx.length_eval hb
  have hv := Cond.le_ints hev (show (Term.int 3584).eval args s none [] s = some (.int 3584) from rfl)
  have hd : xs.length.toInt32 ≤ 3584 := by
    simpa [Cond.before, Cond.holds, hv] using hle
  have hN : xs.length ≤ 3584 := (Int32.ofNat_le_ofNat hsm (by decide)).mp (show Int32.ofNat xs.length ≤ Int32.ofNat 3584 from hd)
  exact ⟨b, xs, Cond.one_arg hc (show args[0]? = some (.ref b) from hb), hx, hN, h⟩
theorem lw_comes (hO : Owed) (l : Launch) (hflags : l.flags = flags0) : Comes l x (Jvm.Cond.code x code maxLocals ret :: tables_1) room_1 (fun tb e args s => Calls_1 tb e args s ∧ rest_1 tb e args s ∧ Pre_1 tb e args s)
    (fun _ _ args s o t => lw_Q args s o t) := by
  intro p e ha hc hk s m args below hf hfit hheap happ hpre
  obtain ⟨b, xs, hP⟩ := lw_pre_spec hpre.2.2 hpre.2.1
  obtain ⟨k, o, h1, h2, h3, hQ⟩ := lw_walk hO l hflags b xs p e ha hc hk s m args below hf ((Spec.applies_iff_loose hf).mp happ).1 hP trivial
  exact ⟨k, o, h1, h2, h3, hQ⟩
theorem lw_frame {s t : State} {o : Outcome} {args : Array Value} (h : State.butDraws s t lw_cs (fun t1 => Framed s o t1 [] 601024 7293034)) :
    State.butDraws s t [Jvm.Choice.named "NaN.bits"] (fun t1 => Framed s o t1 (fieldLocs frame_1_writes args s ++ arrayLocs frame_1_arrays args s ++ staticLocs frame_1_statics s) 601024 7293034) := h
theorem lw_limb (hO : Owed) (L : Cond) (hL : ∀ (args : Array Value) (s t : State), L.after args s (.returned (some (.int 1))) t = true) :
    ArmFor flags0 classFile x code maxLocals ret World_1 tables_1 room_1 Calls_1 rest_1 Pre_1
      (fun tb e a s o t => postC L tb e a s o t ∧ State.butDraws s t [Jvm.Choice.named "NaN.bits"] (fun t1 => Framed s o t1 (fieldLocs frame_1_writes a s ++ arrayLocs frame_1_arrays a s ++ staticLocs frame_1_statics s) 601024 7293034)) := by
  intro l hflags _ _ p e ha hc hk s m args below hf hfit hheap happ hpre
  obtain ⟨k, o, h1, h2, h3, rfl, hF⟩ := lw_comes hO l hflags p e ha hc hk s m args below hf hfit hheap happ hpre
  exact ⟨k, _, h1, h2, h3, hL args s _, lw_frame hF⟩
theorem i_vc_of (hO : Owed) : Claimed_1_1 ∧ Claimed_1_2 := ⟨lw_limb hO limb_1_1 (fun args s t => by simp [limb_1_1, Cond.after, Cond.holds, Cond.value]), lw_limb hO limb_1_2 (fun args s t => Cond.after_iff.mpr (by
  first | (rw [show limb_1_2 = Cond.eq .result (.int 1) from rfl, Cond.eq_ints (x := 1) (y := 1) rfl rfl]; simp; done) | (simp [limb_1_2, Cond.value, Term.eval]; done)))⟩
end
