section
-- ===== PART A: goes FIRST, ahead of the names: the tables' words, and 'selects' of the private methods out of them =====
/-- a private method of a class that the tables say can be made, by its rows of tables_1 -/
def lw_okq (q : MethodName × Nat) : Prop := (q.1.cls ≠ "java/lang/invoke/MethodHandle" ∧ q.1.cls ≠ "java/lang/invoke/VarHandle") ∧ Cond.instantiable q.1.cls q.2 ∈ tables_1 ∧ Cond.privateMethod q.1 ∈ tables_1 ∧ Cond.instanceMethod q.1 ∈ tables_1
theorem lw_p0 : lw_okq (⟨"java/lang/Throwable", "fillInStackTrace", "(I)Ljava/lang/Throwable;"⟩, 6) := ⟨⟨by decide +kernel, by decide +kernel⟩, List.mem_of_getElem? (i := 583) (by decide +kernel), List.mem_of_getElem? (i := 581) (by decide +kernel), List.mem_of_getElem? (i := 582) (by decide +kernel)⟩
theorem lw_p1 : lw_okq (⟨"Tidewater$Server", "acknowledge", "()V"⟩, 16) := ⟨⟨by decide +kernel, by decide +kernel⟩, List.mem_of_getElem? (i := 233) (by decide +kernel), List.mem_of_getElem? (i := 696) (by decide +kernel), List.mem_of_getElem? (i := 697) (by decide +kernel)⟩
theorem lw_p2 : lw_okq (⟨"Tidewater$Server", "makeAck", "()LTidewater$Ack;"⟩, 16) := ⟨⟨by decide +kernel, by decide +kernel⟩, List.mem_of_getElem? (i := 233) (by decide +kernel), List.mem_of_getElem? (i := 702) (by decide +kernel), List.mem_of_getElem? (i := 703) (by decide +kernel)⟩
theorem lw_p3 : lw_okq (⟨"Tidewater$Server", "nextTaken", "(IZ)I"⟩, 16) := ⟨⟨by decide +kernel, by decide +kernel⟩, List.mem_of_getElem? (i := 233) (by decide +kernel), List.mem_of_getElem? (i := 738) (by decide +kernel), List.mem_of_getElem? (i := 739) (by decide +kernel)⟩
theorem lw_p4 : lw_okq (⟨"Tidewater$Client", "sayHello", "()V"⟩, 19) := ⟨⟨by decide +kernel, by decide +kernel⟩, List.mem_of_getElem? (i := 292) (by decide +kernel), List.mem_of_getElem? (i := 789) (by decide +kernel), List.mem_of_getElem? (i := 790) (by decide +kernel)⟩
theorem lw_p5 : lw_okq (⟨"Tidewater$Server", "hear", "(LTidewater$Message;)V"⟩, 16) := ⟨⟨by decide +kernel, by decide +kernel⟩, List.mem_of_getElem? (i := 233) (by decide +kernel), List.mem_of_getElem? (i := 886) (by decide +kernel), List.mem_of_getElem? (i := 887) (by decide +kernel)⟩
theorem lw_p6 : lw_okq (⟨"Tidewater$Server", "hearHello", "(LTidewater$Message;)V"⟩, 16) := ⟨⟨by decide +kernel, by decide +kernel⟩, List.mem_of_getElem? (i := 233) (by decide +kernel), List.mem_of_getElem? (i := 890) (by decide +kernel), List.mem_of_getElem? (i := 891) (by decide +kernel)⟩
theorem lw_p7 : lw_okq (⟨"Tidewater$Server", "useTicket", "(I)Z"⟩, 16) := ⟨⟨by decide +kernel, by decide +kernel⟩, List.mem_of_getElem? (i := 233) (by decide +kernel), List.mem_of_getElem? (i := 894) (by decide +kernel), List.mem_of_getElem? (i := 895) (by decide +kernel)⟩
theorem lw_p8 : lw_okq (⟨"Tidewater$Server", "hearWhenEstablished", "(LTidewater$Message;)V"⟩, 16) := ⟨⟨by decide +kernel, by decide +kernel⟩, List.mem_of_getElem? (i := 233) (by decide +kernel), List.mem_of_getElem? (i := 898) (by decide +kernel), List.mem_of_getElem? (i := 899) (by decide +kernel)⟩
theorem lw_p9 : lw_okq (⟨"Tidewater$Server", "hearData", "(LTidewater$Packet;)V"⟩, 16) := ⟨⟨by decide +kernel, by decide +kernel⟩, List.mem_of_getElem? (i := 233) (by decide +kernel), List.mem_of_getElem? (i := 902) (by decide +kernel), List.mem_of_getElem? (i := 903) (by decide +kernel)⟩
theorem lw_p10 : lw_okq (⟨"Tidewater$Server", "takesKey", "(I)Z"⟩, 16) := ⟨⟨by decide +kernel, by decide +kernel⟩, List.mem_of_getElem? (i := 233) (by decide +kernel), List.mem_of_getElem? (i := 906) (by decide +kernel), List.mem_of_getElem? (i := 907) (by decide +kernel)⟩
theorem lw_p11 : lw_okq (⟨"Tidewater$Client", "hear", "(LTidewater$Message;)V"⟩, 19) := ⟨⟨by decide +kernel, by decide +kernel⟩, List.mem_of_getElem? (i := 292) (by decide +kernel), List.mem_of_getElem? (i := 926) (by decide +kernel), List.mem_of_getElem? (i := 927) (by decide +kernel)⟩
theorem lw_p12 : lw_okq (⟨"Tidewater$Client", "hearAccept", "(Z)V"⟩, 19) := ⟨⟨by decide +kernel, by decide +kernel⟩, List.mem_of_getElem? (i := 292) (by decide +kernel), List.mem_of_getElem? (i := 931) (by decide +kernel), List.mem_of_getElem? (i := 932) (by decide +kernel)⟩
theorem lw_p13 : lw_okq (⟨"Tidewater$Client", "leaveFlight", "(LTidewater$Packet;I)V"⟩, 19) := ⟨⟨by decide +kernel, by decide +kernel⟩, List.mem_of_getElem? (i := 292) (by decide +kernel), List.mem_of_getElem? (i := 943) (by decide +kernel), List.mem_of_getElem? (i := 944) (by decide +kernel)⟩
theorem lw_p14 : lw_okq (⟨"Tidewater$Client", "hearAck", "(LTidewater$Ack;)V"⟩, 19) := ⟨⟨by decide +kernel, by decide +kernel⟩, List.mem_of_getElem? (i := 292) (by decide +kernel), List.mem_of_getElem? (i := 960) (by decide +kernel), List.mem_of_getElem? (i := 961) (by decide +kernel)⟩
theorem lw_p15 : lw_okq (⟨"Tidewater$Client", "acknowledge", "(LTidewater$Packet;)V"⟩, 19) := ⟨⟨by decide +kernel, by decide +kernel⟩, List.mem_of_getElem? (i := 292) (by decide +kernel), List.mem_of_getElem? (i := 969) (by decide +kernel), List.mem_of_getElem? (i := 970) (by decide +kernel)⟩
def lw_privs_1 : List (MethodName × Nat) := [(⟨"java/lang/Throwable", "fillInStackTrace", "(I)Ljava/lang/Throwable;"⟩, 6), (⟨"Tidewater$Server", "acknowledge", "()V"⟩, 16), (⟨"Tidewater$Server", "makeAck", "()LTidewater$Ack;"⟩, 16), (⟨"Tidewater$Server", "nextTaken", "(IZ)I"⟩, 16), (⟨"Tidewater$Client", "sayHello", "()V"⟩, 19), (⟨"Tidewater$Server", "hear", "(LTidewater$Message;)V"⟩, 16), (⟨"Tidewater$Server", "hearHello", "(LTidewater$Message;)V"⟩, 16), (⟨"Tidewater$Server", "useTicket", "(I)Z"⟩, 16), (⟨"Tidewater$Server", "hearWhenEstablished", "(LTidewater$Message;)V"⟩, 16), (⟨"Tidewater$Server", "hearData", "(LTidewater$Packet;)V"⟩, 16), (⟨"Tidewater$Server", "takesKey", "(I)Z"⟩, 16), (⟨"Tidewater$Client", "hear", "(LTidewater$Message;)V"⟩, 19), (⟨"Tidewater$Client", "hearAccept", "(Z)V"⟩, 19), (⟨"Tidewater$Client", "leaveFlight", "(LTidewater$Packet;I)V"⟩, 19), (⟨"Tidewater$Client", "hearAck", "(LTidewater$Ack;)V"⟩, 19), (⟨"Tidewater$Client", "acknowledge", "(LTidewater$Packet;)V"⟩, 19)]
theorem lw_r1 : ∀ q ∈ lw_privs_1, lw_okq q := List.forall_mem_cons.mpr ⟨lw_p0, List.forall_mem_cons.mpr ⟨lw_p1, List.forall_mem_cons.mpr ⟨lw_p2, List.forall_mem_cons.mpr ⟨lw_p3, List.forall_mem_cons.mpr ⟨lw_p4, List.forall_mem_cons.mpr ⟨lw_p5, List.forall_mem_cons.mpr ⟨lw_p6, List.forall_mem_cons.mpr ⟨lw_p7, List.forall_mem_cons.mpr ⟨lw_p8, List.forall_mem_cons.mpr ⟨lw_p9, List.forall_mem_cons.mpr ⟨lw_p10, List.forall_mem_cons.mpr ⟨lw_p11, List.forall_mem_cons.mpr ⟨lw_p12, List.forall_mem_cons.mpr ⟨lw_p13, List.forall_mem_cons.mpr ⟨lw_p14, List.forall_mem_cons.mpr ⟨lw_p15, fun _ h => absurd h List.not_mem_nil⟩⟩⟩⟩⟩⟩⟩⟩⟩⟩⟩⟩⟩⟩⟩⟩
theorem lw_p16 : lw_okq (⟨"Tidewater$Growth", "keepRate", "(I)V"⟩, 11) := ⟨⟨by decide +kernel, by decide +kernel⟩, List.mem_of_getElem? (i := 304) (by decide +kernel), List.mem_of_getElem? (i := 978) (by decide +kernel), List.mem_of_getElem? (i := 979) (by decide +kernel)⟩
theorem lw_p17 : lw_okq (⟨"Tidewater$Growth", "greatestRate", "()I"⟩, 11) := ⟨⟨by decide +kernel, by decide +kernel⟩, List.mem_of_getElem? (i := 304) (by decide +kernel), List.mem_of_getElem? (i := 982) (by decide +kernel), List.mem_of_getElem? (i := 983) (by decide +kernel)⟩
theorem lw_p18 : lw_okq (⟨"Tidewater$Growth", "cubeStep", "(I)I"⟩, 11) := ⟨⟨by decide +kernel, by decide +kernel⟩, List.mem_of_getElem? (i := 304) (by decide +kernel), List.mem_of_getElem? (i := 986) (by decide +kernel), List.mem_of_getElem? (i := 987) (by decide +kernel)⟩
theorem lw_p19 : lw_okq (⟨"Tidewater$Client", "hearOfGreatest", "(LTidewater$Packet;ZI)V"⟩, 19) := ⟨⟨by decide +kernel, by decide +kernel⟩, List.mem_of_getElem? (i := 292) (by decide +kernel), List.mem_of_getElem? (i := 1004) (by decide +kernel), List.mem_of_getElem? (i := 1005) (by decide +kernel)⟩
theorem lw_p20 : lw_okq (⟨"Tidewater$Client", "takeCredits", "(LTidewater$Ack;)V"⟩, 19) := ⟨⟨by decide +kernel, by decide +kernel⟩, List.mem_of_getElem? (i := 292) (by decide +kernel), List.mem_of_getElem? (i := 1012) (by decide +kernel), List.mem_of_getElem? (i := 1013) (by decide +kernel)⟩
theorem lw_p21 : lw_okq (⟨"Tidewater$Client", "findLosses", "(LTidewater$Route;Z)V"⟩, 19) := ⟨⟨by decide +kernel, by decide +kernel⟩, List.mem_of_getElem? (i := 292) (by decide +kernel), List.mem_of_getElem? (i := 1016) (by decide +kernel), List.mem_of_getElem? (i := 1017) (by decide +kernel)⟩
theorem lw_p22 : lw_okq (⟨"Tidewater$Client", "lowestInFlight", "(LTidewater$Route;)LTidewater$Packet;"⟩, 19) := ⟨⟨by decide +kernel, by decide +kernel⟩, List.mem_of_getElem? (i := 292) (by decide +kernel), List.mem_of_getElem? (i := 1020) (by decide +kernel), List.mem_of_getElem? (i := 1021) (by decide +kernel)⟩
theorem lw_p23 : lw_okq (⟨"Tidewater$Client", "probeInTime", "(LTidewater$Route;)V"⟩, 19) := ⟨⟨by decide +kernel, by decide +kernel⟩, List.mem_of_getElem? (i := 292) (by decide +kernel), List.mem_of_getElem? (i := 1041) (by decide +kernel), List.mem_of_getElem? (i := 1042) (by decide +kernel)⟩
theorem lw_p24 : lw_okq (⟨"Tidewater$Client", "sendPacket", "(LTidewater$Route;IIIZ)V"⟩, 19) := ⟨⟨by decide +kernel, by decide +kernel⟩, List.mem_of_getElem? (i := 292) (by decide +kernel), List.mem_of_getElem? (i := 1049) (by decide +kernel), List.mem_of_getElem? (i := 1050) (by decide +kernel)⟩
theorem lw_p25 : lw_okq (⟨"Tidewater$Client", "routeToSend", "()LTidewater$Route;"⟩, 19) := ⟨⟨by decide +kernel, by decide +kernel⟩, List.mem_of_getElem? (i := 292) (by decide +kernel), List.mem_of_getElem? (i := 1138) (by decide +kernel), List.mem_of_getElem? (i := 1139) (by decide +kernel)⟩
theorem lw_p26 : lw_okq (⟨"Tidewater$Route", "mostPerTick", "()I"⟩, 18) := ⟨⟨by decide +kernel, by decide +kernel⟩, List.mem_of_getElem? (i := 298) (by decide +kernel), List.mem_of_getElem? (i := 1146) (by decide +kernel), List.mem_of_getElem? (i := 1147) (by decide +kernel)⟩
theorem lw_p27 : lw_okq (⟨"Tidewater$Client", "sendLost", "(LTidewater$Route;)Z"⟩, 19) := ⟨⟨by decide +kernel, by decide +kernel⟩, List.mem_of_getElem? (i := 292) (by decide +kernel), List.mem_of_getElem? (i := 1150) (by decide +kernel), List.mem_of_getElem? (i := 1151) (by decide +kernel)⟩
theorem lw_p28 : lw_okq (⟨"Tidewater$Client", "sendNew", "(LTidewater$Route;)Z"⟩, 19) := ⟨⟨by decide +kernel, by decide +kernel⟩, List.mem_of_getElem? (i := 292) (by decide +kernel), List.mem_of_getElem? (i := 1162) (by decide +kernel), List.mem_of_getElem? (i := 1163) (by decide +kernel)⟩
theorem lw_p29 : lw_okq (⟨"Tidewater$Network", "letLeaveLane", "(LTidewater$Lane;)V"⟩, 6) := ⟨⟨by decide +kernel, by decide +kernel⟩, List.mem_of_getElem? (i := 31) (by decide +kernel), List.mem_of_getElem? (i := 1175) (by decide +kernel), List.mem_of_getElem? (i := 1176) (by decide +kernel)⟩
theorem lw_p30 : lw_okq (⟨"Tidewater", "requirePacket", "(I)LTidewater$Packet;"⟩, 5) := ⟨⟨by decide +kernel, by decide +kernel⟩, List.mem_of_getElem? (i := 23) (by decide +kernel), List.mem_of_getElem? (i := 1218) (by decide +kernel), List.mem_of_getElem? (i := 1219) (by decide +kernel)⟩
theorem lw_p31 : lw_okq (⟨"TidewaterModel", "goes", "(ZZZ)Z"⟩, 95) := ⟨⟨by decide +kernel, by decide +kernel⟩, List.mem_of_getElem? (i := 1248) (by decide +kernel), List.mem_of_getElem? (i := 1556) (by decide +kernel), List.mem_of_getElem? (i := 1557) (by decide +kernel)⟩
def lw_privs_2 : List (MethodName × Nat) := [(⟨"Tidewater$Growth", "keepRate", "(I)V"⟩, 11), (⟨"Tidewater$Growth", "greatestRate", "()I"⟩, 11), (⟨"Tidewater$Growth", "cubeStep", "(I)I"⟩, 11), (⟨"Tidewater$Client", "hearOfGreatest", "(LTidewater$Packet;ZI)V"⟩, 19), (⟨"Tidewater$Client", "takeCredits", "(LTidewater$Ack;)V"⟩, 19), (⟨"Tidewater$Client", "findLosses", "(LTidewater$Route;Z)V"⟩, 19), (⟨"Tidewater$Client", "lowestInFlight", "(LTidewater$Route;)LTidewater$Packet;"⟩, 19), (⟨"Tidewater$Client", "probeInTime", "(LTidewater$Route;)V"⟩, 19), (⟨"Tidewater$Client", "sendPacket", "(LTidewater$Route;IIIZ)V"⟩, 19), (⟨"Tidewater$Client", "routeToSend", "()LTidewater$Route;"⟩, 19), (⟨"Tidewater$Route", "mostPerTick", "()I"⟩, 18), (⟨"Tidewater$Client", "sendLost", "(LTidewater$Route;)Z"⟩, 19), (⟨"Tidewater$Client", "sendNew", "(LTidewater$Route;)Z"⟩, 19), (⟨"Tidewater$Network", "letLeaveLane", "(LTidewater$Lane;)V"⟩, 6), (⟨"Tidewater", "requirePacket", "(I)LTidewater$Packet;"⟩, 5), (⟨"TidewaterModel", "goes", "(ZZZ)Z"⟩, 95)]
theorem lw_r2 : ∀ q ∈ lw_privs_2, lw_okq q := List.forall_mem_cons.mpr ⟨lw_p16, List.forall_mem_cons.mpr ⟨lw_p17, List.forall_mem_cons.mpr ⟨lw_p18, List.forall_mem_cons.mpr ⟨lw_p19, List.forall_mem_cons.mpr ⟨lw_p20, List.forall_mem_cons.mpr ⟨lw_p21, List.forall_mem_cons.mpr ⟨lw_p22, List.forall_mem_cons.mpr ⟨lw_p23, List.forall_mem_cons.mpr ⟨lw_p24, List.forall_mem_cons.mpr ⟨lw_p25, List.forall_mem_cons.mpr ⟨lw_p26, List.forall_mem_cons.mpr ⟨lw_p27, List.forall_mem_cons.mpr ⟨lw_p28, List.forall_mem_cons.mpr ⟨lw_p29, List.forall_mem_cons.mpr ⟨lw_p30, List.forall_mem_cons.mpr ⟨lw_p31, fun _ h => absurd h List.not_mem_nil⟩⟩⟩⟩⟩⟩⟩⟩⟩⟩⟩⟩⟩⟩⟩⟩
theorem lw_p32 : lw_okq (⟨"TidewaterModel", "gotOf", "(I)I"⟩, 95) := ⟨⟨by decide +kernel, by decide +kernel⟩, List.mem_of_getElem? (i := 1248) (by decide +kernel), List.mem_of_getElem? (i := 1587) (by decide +kernel), List.mem_of_getElem? (i := 1588) (by decide +kernel)⟩
theorem lw_p33 : lw_okq (⟨"TidewaterModel", "acknowledges", "()V"⟩, 95) := ⟨⟨by decide +kernel, by decide +kernel⟩, List.mem_of_getElem? (i := 1248) (by decide +kernel), List.mem_of_getElem? (i := 1591) (by decide +kernel), List.mem_of_getElem? (i := 1592) (by decide +kernel)⟩
theorem lw_p34 : lw_okq (⟨"TidewaterModel", "answers", "(III)V"⟩, 95) := ⟨⟨by decide +kernel, by decide +kernel⟩, List.mem_of_getElem? (i := 1248) (by decide +kernel), List.mem_of_getElem? (i := 1595) (by decide +kernel), List.mem_of_getElem? (i := 1596) (by decide +kernel)⟩
theorem lw_p35 : lw_okq (⟨"TidewaterModel", "saysHello", "()V"⟩, 95) := ⟨⟨by decide +kernel, by decide +kernel⟩, List.mem_of_getElem? (i := 1248) (by decide +kernel), List.mem_of_getElem? (i := 1607) (by decide +kernel), List.mem_of_getElem? (i := 1608) (by decide +kernel)⟩
theorem lw_p36 : lw_okq (⟨"TidewaterModel", "puts", "(III)V"⟩, 95) := ⟨⟨by decide +kernel, by decide +kernel⟩, List.mem_of_getElem? (i := 1248) (by decide +kernel), List.mem_of_getElem? (i := 1611) (by decide +kernel), List.mem_of_getElem? (i := 1612) (by decide +kernel)⟩
theorem lw_p37 : lw_okq (⟨"TidewaterModel", "passes", "()V"⟩, 95) := ⟨⟨by decide +kernel, by decide +kernel⟩, List.mem_of_getElem? (i := 1248) (by decide +kernel), List.mem_of_getElem? (i := 1643) (by decide +kernel), List.mem_of_getElem? (i := 1644) (by decide +kernel)⟩
theorem lw_p38 : lw_okq (⟨"TidewaterModel", "arrivesAtServer", "(I)V"⟩, 95) := ⟨⟨by decide +kernel, by decide +kernel⟩, List.mem_of_getElem? (i := 1248) (by decide +kernel), List.mem_of_getElem? (i := 1647) (by decide +kernel), List.mem_of_getElem? (i := 1648) (by decide +kernel)⟩
theorem lw_p39 : lw_okq (⟨"TidewaterModel", "hears", "(II)V"⟩, 95) := ⟨⟨by decide +kernel, by decide +kernel⟩, List.mem_of_getElem? (i := 1248) (by decide +kernel), List.mem_of_getElem? (i := 1651) (by decide +kernel), List.mem_of_getElem? (i := 1652) (by decide +kernel)⟩
theorem lw_p40 : lw_okq (⟨"TidewaterModel", "takes", "(I)V"⟩, 95) := ⟨⟨by decide +kernel, by decide +kernel⟩, List.mem_of_getElem? (i := 1248) (by decide +kernel), List.mem_of_getElem? (i := 1655) (by decide +kernel), List.mem_of_getElem? (i := 1656) (by decide +kernel)⟩
theorem lw_p41 : lw_okq (⟨"TidewaterModel", "isByKey", "(I)Z"⟩, 95) := ⟨⟨by decide +kernel, by decide +kernel⟩, List.mem_of_getElem? (i := 1248) (by decide +kernel), List.mem_of_getElem? (i := 1659) (by decide +kernel), List.mem_of_getElem? (i := 1660) (by decide +kernel)⟩
theorem lw_p42 : lw_okq (⟨"TidewaterModel", "arrivesAtClient", "(I)V"⟩, 95) := ⟨⟨by decide +kernel, by decide +kernel⟩, List.mem_of_getElem? (i := 1248) (by decide +kernel), List.mem_of_getElem? (i := 1666) (by decide +kernel), List.mem_of_getElem? (i := 1667) (by decide +kernel)⟩
theorem lw_p43 : lw_okq (⟨"TidewaterModel", "hearsAccept", "(Z)V"⟩, 95) := ⟨⟨by decide +kernel, by decide +kernel⟩, List.mem_of_getElem? (i := 1248) (by decide +kernel), List.mem_of_getElem? (i := 1670) (by decide +kernel), List.mem_of_getElem? (i := 1671) (by decide +kernel)⟩
theorem lw_p44 : lw_okq (⟨"TidewaterModel", "measures", "(II)V"⟩, 95) := ⟨⟨by decide +kernel, by decide +kernel⟩, List.mem_of_getElem? (i := 1248) (by decide +kernel), List.mem_of_getElem? (i := 1674) (by decide +kernel), List.mem_of_getElem? (i := 1675) (by decide +kernel)⟩
theorem lw_p45 : lw_okq (⟨"TidewaterModel", "lands", "(II)V"⟩, 95) := ⟨⟨by decide +kernel, by decide +kernel⟩, List.mem_of_getElem? (i := 1248) (by decide +kernel), List.mem_of_getElem? (i := 1678) (by decide +kernel), List.mem_of_getElem? (i := 1679) (by decide +kernel)⟩
theorem lw_p46 : lw_okq (⟨"TidewaterModel", "hearsAck", "(I)V"⟩, 95) := ⟨⟨by decide +kernel, by decide +kernel⟩, List.mem_of_getElem? (i := 1248) (by decide +kernel), List.mem_of_getElem? (i := 1682) (by decide +kernel), List.mem_of_getElem? (i := 1683) (by decide +kernel)⟩
theorem lw_p47 : lw_okq (⟨"TidewaterModel", "hearsOf", "(I)V"⟩, 95) := ⟨⟨by decide +kernel, by decide +kernel⟩, List.mem_of_getElem? (i := 1248) (by decide +kernel), List.mem_of_getElem? (i := 1686) (by decide +kernel), List.mem_of_getElem? (i := 1687) (by decide +kernel)⟩
def lw_privs_3 : List (MethodName × Nat) := [(⟨"TidewaterModel", "gotOf", "(I)I"⟩, 95), (⟨"TidewaterModel", "acknowledges", "()V"⟩, 95), (⟨"TidewaterModel", "answers", "(III)V"⟩, 95), (⟨"TidewaterModel", "saysHello", "()V"⟩, 95), (⟨"TidewaterModel", "puts", "(III)V"⟩, 95), (⟨"TidewaterModel", "passes", "()V"⟩, 95), (⟨"TidewaterModel", "arrivesAtServer", "(I)V"⟩, 95), (⟨"TidewaterModel", "hears", "(II)V"⟩, 95), (⟨"TidewaterModel", "takes", "(I)V"⟩, 95), (⟨"TidewaterModel", "isByKey", "(I)Z"⟩, 95), (⟨"TidewaterModel", "arrivesAtClient", "(I)V"⟩, 95), (⟨"TidewaterModel", "hearsAccept", "(Z)V"⟩, 95), (⟨"TidewaterModel", "measures", "(II)V"⟩, 95), (⟨"TidewaterModel", "lands", "(II)V"⟩, 95), (⟨"TidewaterModel", "hearsAck", "(I)V"⟩, 95), (⟨"TidewaterModel", "hearsOf", "(I)V"⟩, 95)]
theorem lw_r3 : ∀ q ∈ lw_privs_3, lw_okq q := List.forall_mem_cons.mpr ⟨lw_p32, List.forall_mem_cons.mpr ⟨lw_p33, List.forall_mem_cons.mpr ⟨lw_p34, List.forall_mem_cons.mpr ⟨lw_p35, List.forall_mem_cons.mpr ⟨lw_p36, List.forall_mem_cons.mpr ⟨lw_p37, List.forall_mem_cons.mpr ⟨lw_p38, List.forall_mem_cons.mpr ⟨lw_p39, List.forall_mem_cons.mpr ⟨lw_p40, List.forall_mem_cons.mpr ⟨lw_p41, List.forall_mem_cons.mpr ⟨lw_p42, List.forall_mem_cons.mpr ⟨lw_p43, List.forall_mem_cons.mpr ⟨lw_p44, List.forall_mem_cons.mpr ⟨lw_p45, List.forall_mem_cons.mpr ⟨lw_p46, List.forall_mem_cons.mpr ⟨lw_p47, fun _ h => absurd h List.not_mem_nil⟩⟩⟩⟩⟩⟩⟩⟩⟩⟩⟩⟩⟩⟩⟩⟩
theorem lw_p48 : lw_okq (⟨"TidewaterModel", "grows", "(I)V"⟩, 95) := ⟨⟨by decide +kernel, by decide +kernel⟩, List.mem_of_getElem? (i := 1248) (by decide +kernel), List.mem_of_getElem? (i := 1690) (by decide +kernel), List.mem_of_getElem? (i := 1691) (by decide +kernel)⟩
theorem lw_p49 : lw_okq (⟨"TidewaterModel", "byCube", "(I)I"⟩, 95) := ⟨⟨by decide +kernel, by decide +kernel⟩, List.mem_of_getElem? (i := 1248) (by decide +kernel), List.mem_of_getElem? (i := 1694) (by decide +kernel), List.mem_of_getElem? (i := 1695) (by decide +kernel)⟩
theorem lw_p50 : lw_okq (⟨"TidewaterModel", "harms", "(IIZ)V"⟩, 95) := ⟨⟨by decide +kernel, by decide +kernel⟩, List.mem_of_getElem? (i := 1248) (by decide +kernel), List.mem_of_getElem? (i := 1703) (by decide +kernel), List.mem_of_getElem? (i := 1704) (by decide +kernel)⟩
theorem lw_p51 : lw_okq (⟨"TidewaterModel", "losesByOrder", "(I)V"⟩, 95) := ⟨⟨by decide +kernel, by decide +kernel⟩, List.mem_of_getElem? (i := 1248) (by decide +kernel), List.mem_of_getElem? (i := 1707) (by decide +kernel), List.mem_of_getElem? (i := 1708) (by decide +kernel)⟩
theorem lw_p52 : lw_okq (⟨"TidewaterModel", "loses", "(I)V"⟩, 95) := ⟨⟨by decide +kernel, by decide +kernel⟩, List.mem_of_getElem? (i := 1248) (by decide +kernel), List.mem_of_getElem? (i := 1711) (by decide +kernel), List.mem_of_getElem? (i := 1712) (by decide +kernel)⟩
theorem lw_p53 : lw_okq (⟨"TidewaterModel", "losesByTime", "(I)V"⟩, 95) := ⟨⟨by decide +kernel, by decide +kernel⟩, List.mem_of_getElem? (i := 1248) (by decide +kernel), List.mem_of_getElem? (i := 1715) (by decide +kernel), List.mem_of_getElem? (i := 1716) (by decide +kernel)⟩
theorem lw_p54 : lw_okq (⟨"TidewaterModel", "probesOn", "(I)V"⟩, 95) := ⟨⟨by decide +kernel, by decide +kernel⟩, List.mem_of_getElem? (i := 1248) (by decide +kernel), List.mem_of_getElem? (i := 1719) (by decide +kernel), List.mem_of_getElem? (i := 1720) (by decide +kernel)⟩
theorem lw_p55 : lw_okq (⟨"TidewaterModel", "sends", "(IIIIZ)V"⟩, 95) := ⟨⟨by decide +kernel, by decide +kernel⟩, List.mem_of_getElem? (i := 1248) (by decide +kernel), List.mem_of_getElem? (i := 1723) (by decide +kernel), List.mem_of_getElem? (i := 1724) (by decide +kernel)⟩
theorem lw_p56 : lw_okq (⟨"TidewaterModel", "sendsAll", "()V"⟩, 95) := ⟨⟨by decide +kernel, by decide +kernel⟩, List.mem_of_getElem? (i := 1248) (by decide +kernel), List.mem_of_getElem? (i := 1727) (by decide +kernel), List.mem_of_getElem? (i := 1728) (by decide +kernel)⟩
theorem lw_p57 : lw_okq (⟨"TidewaterModel", "nextPath", "()I"⟩, 95) := ⟨⟨by decide +kernel, by decide +kernel⟩, List.mem_of_getElem? (i := 1248) (by decide +kernel), List.mem_of_getElem? (i := 1731) (by decide +kernel), List.mem_of_getElem? (i := 1732) (by decide +kernel)⟩
theorem lw_p58 : lw_okq (⟨"TidewaterModel", "canTake", "(I)Z"⟩, 95) := ⟨⟨by decide +kernel, by decide +kernel⟩, List.mem_of_getElem? (i := 1248) (by decide +kernel), List.mem_of_getElem? (i := 1735) (by decide +kernel), List.mem_of_getElem? (i := 1736) (by decide +kernel)⟩
theorem lw_p59 : lw_okq (⟨"TidewaterModel", "inFlight", "(I)I"⟩, 95) := ⟨⟨by decide +kernel, by decide +kernel⟩, List.mem_of_getElem? (i := 1248) (by decide +kernel), List.mem_of_getElem? (i := 1739) (by decide +kernel), List.mem_of_getElem? (i := 1740) (by decide +kernel)⟩
theorem lw_p60 : lw_okq (⟨"TidewaterModel", "sendsNext", "(I)Z"⟩, 95) := ⟨⟨by decide +kernel, by decide +kernel⟩, List.mem_of_getElem? (i := 1248) (by decide +kernel), List.mem_of_getElem? (i := 1743) (by decide +kernel), List.mem_of_getElem? (i := 1744) (by decide +kernel)⟩
theorem lw_p61 : lw_okq (⟨"TidewaterModel", "firstLost", "(I)I"⟩, 95) := ⟨⟨by decide +kernel, by decide +kernel⟩, List.mem_of_getElem? (i := 1248) (by decide +kernel), List.mem_of_getElem? (i := 1747) (by decide +kernel), List.mem_of_getElem? (i := 1748) (by decide +kernel)⟩
theorem lw_p62 : lw_okq (⟨"TidewaterModel", "isLost", "(II)Z"⟩, 95) := ⟨⟨by decide +kernel, by decide +kernel⟩, List.mem_of_getElem? (i := 1248) (by decide +kernel), List.mem_of_getElem? (i := 1751) (by decide +kernel), List.mem_of_getElem? (i := 1752) (by decide +kernel)⟩
theorem lw_p63 : lw_okq (⟨"TidewaterModel", "newOf", "(I)I"⟩, 95) := ⟨⟨by decide +kernel, by decide +kernel⟩, List.mem_of_getElem? (i := 1248) (by decide +kernel), List.mem_of_getElem? (i := 1755) (by decide +kernel), List.mem_of_getElem? (i := 1756) (by decide +kernel)⟩
def lw_privs_4 : List (MethodName × Nat) := [(⟨"TidewaterModel", "grows", "(I)V"⟩, 95), (⟨"TidewaterModel", "byCube", "(I)I"⟩, 95), (⟨"TidewaterModel", "harms", "(IIZ)V"⟩, 95), (⟨"TidewaterModel", "losesByOrder", "(I)V"⟩, 95), (⟨"TidewaterModel", "loses", "(I)V"⟩, 95), (⟨"TidewaterModel", "losesByTime", "(I)V"⟩, 95), (⟨"TidewaterModel", "probesOn", "(I)V"⟩, 95), (⟨"TidewaterModel", "sends", "(IIIIZ)V"⟩, 95), (⟨"TidewaterModel", "sendsAll", "()V"⟩, 95), (⟨"TidewaterModel", "nextPath", "()I"⟩, 95), (⟨"TidewaterModel", "canTake", "(I)Z"⟩, 95), (⟨"TidewaterModel", "inFlight", "(I)I"⟩, 95), (⟨"TidewaterModel", "sendsNext", "(I)Z"⟩, 95), (⟨"TidewaterModel", "firstLost", "(I)I"⟩, 95), (⟨"TidewaterModel", "isLost", "(II)Z"⟩, 95), (⟨"TidewaterModel", "newOf", "(I)I"⟩, 95)]
theorem lw_r4 : ∀ q ∈ lw_privs_4, lw_okq q := List.forall_mem_cons.mpr ⟨lw_p48, List.forall_mem_cons.mpr ⟨lw_p49, List.forall_mem_cons.mpr ⟨lw_p50, List.forall_mem_cons.mpr ⟨lw_p51, List.forall_mem_cons.mpr ⟨lw_p52, List.forall_mem_cons.mpr ⟨lw_p53, List.forall_mem_cons.mpr ⟨lw_p54, List.forall_mem_cons.mpr ⟨lw_p55, List.forall_mem_cons.mpr ⟨lw_p56, List.forall_mem_cons.mpr ⟨lw_p57, List.forall_mem_cons.mpr ⟨lw_p58, List.forall_mem_cons.mpr ⟨lw_p59, List.forall_mem_cons.mpr ⟨lw_p60, List.forall_mem_cons.mpr ⟨lw_p61, List.forall_mem_cons.mpr ⟨lw_p62, List.forall_mem_cons.mpr ⟨lw_p63, fun _ h => absurd h List.not_mem_nil⟩⟩⟩⟩⟩⟩⟩⟩⟩⟩⟩⟩⟩⟩⟩⟩
theorem lw_p64 : lw_okq (⟨"TidewaterModel", "sentInAll", "()I"⟩, 95) := ⟨⟨by decide +kernel, by decide +kernel⟩, List.mem_of_getElem? (i := 1248) (by decide +kernel), List.mem_of_getElem? (i := 1759) (by decide +kernel), List.mem_of_getElem? (i := 1760) (by decide +kernel)⟩
theorem lw_p65 : lw_okq (⟨"TidewaterModel", "leaves", "(I)V"⟩, 95) := ⟨⟨by decide +kernel, by decide +kernel⟩, List.mem_of_getElem? (i := 1248) (by decide +kernel), List.mem_of_getElem? (i := 1763) (by decide +kernel), List.mem_of_getElem? (i := 1764) (by decide +kernel)⟩
def lw_privs_5 : List (MethodName × Nat) := [(⟨"TidewaterModel", "sentInAll", "()I"⟩, 95), (⟨"TidewaterModel", "leaves", "(I)V"⟩, 95)]
theorem lw_r5 : ∀ q ∈ lw_privs_5, lw_okq q := List.forall_mem_cons.mpr ⟨lw_p64, List.forall_mem_cons.mpr ⟨lw_p65, fun _ h => absurd h List.not_mem_nil⟩⟩
def lw_privs : List (MethodName × Nat) := lw_privs_1 ++ (lw_privs_2 ++ (lw_privs_3 ++ (lw_privs_4 ++ (lw_privs_5))))
def lw_tbl : List Cond := k2_sels lw_privs ++ tables_1
theorem lw_privs_ok : ∀ q ∈ lw_privs, lw_okq q := by
  show ∀ q ∈ lw_privs_1 ++ (lw_privs_2 ++ (lw_privs_3 ++ (lw_privs_4 ++ (lw_privs_5)))), lw_okq q
  exact List.forall_mem_append.mpr ⟨lw_r1, List.forall_mem_append.mpr ⟨lw_r2, List.forall_mem_append.mpr ⟨lw_r3, List.forall_mem_append.mpr ⟨lw_r4, lw_r5⟩⟩⟩⟩
-- ===== end of PART A; then your names; then what follows =====
/-! ===== BEGIN words of one list among another's, by their places ===== -/
theorem goodIn_r {big : List Cond} (ws : List Cond) (ps : List Nat) (hp : ws = ps.filterMap (fun i => big[i]?)) (h : ws.all goodWord = true) : GoodIn big ws := by
  intro w hw
  have h1 := List.all_eq_true.mp h w hw
  rw [hp] at hw
  obtain ⟨i, -, hi⟩ := List.mem_filterMap.mp hw
  have hm : w ∈ big := by first | exact List.mem_of_getElem? hi | exact List.getElem?_mem hi
  exact ⟨hm, good_of_word h1⟩
theorem goodIn_app {big a b : List Cond} (ha : GoodIn big a) (hb : GoodIn big b) : GoodIn big (a ++ b) := fun w h => (List.mem_append.mp h).elim (ha w) (hb w)
theorem goodIn_ca {big a b : List Cond} {c : Cond} (ha : GoodIn big (c :: a)) (hb : GoodIn big b) : GoodIn big (c :: (a ++ b)) := fun w h => (List.mem_cons.mp h).elim (fun e => ha w (List.mem_cons.mpr (Or.inl e))) (fun h => (List.mem_append.mp h).elim (fun h => ha w (List.mem_cons.mpr (Or.inr h))) (hb w))
theorem goodIn_sub {big ws : List Cond} (hm : ∀ w ∈ ws, w ∈ big) (h : ws.all goodWord = true) : GoodIn big ws := fun w hw => ⟨hm w hw, good_of_word (List.all_eq_true.mp h w hw)⟩
/-! ===== END ===== -/

/-! ===== BEGIN exceptions that leave a method, and their catching by the caller (launches without stack traces) ===== -/
section VXA
/-! The laws vx_back, vx_callV, vx_callS, vx_callSW, vx_throw0, vx_throwS follow proofs of the library, with one case more: JvmDerived/Free/Laws.lean (Back.of_free), Shelf42/LK1.lean (callV, callS), Shelf/KitTraced.lean (throwNew0V, throwNewS). -/
/-- where a method has thrown q: the class by its name, the cell, what was written, the world -/
def vx_T (XC : String → State → State → Prop) (st : State) (q : Addr) (t : State) (mc ms : Nat) (free : Addr → Prop) : Prop :=
  ∃ (E : String) (ce : Cell) (L : List Loc), XC E st t ∧ t.heap[q]? = some ce ∧ ce.vm = .none ∧ st.vm.findClass E = some ce.cls ∧ st.WarmedH t.vm ∧ st.sameButNew ({ t with vm := st.vm } : State) L mc ms ∧ ∀ z ∈ L, free z.base
def vx_Q (Qc : Array Value → State → Outcome → State → Prop) (XC : String → State → State → Prop) (mc ms : Nat) (free : Addr → Prop) : Array Value → State → Outcome → State → Prop := fun a st o t =>
  (Qc a st o t ∧ ∃ L, FrameEnd st o t L mc ms ∧ ∀ q ∈ L, free q.base) ∨ ∃ q, o = .threw q ∧ vx_T XC st q t mc ms free
/-- a callee that returns or throws -/
def vx_Met (l : Launch) (y : MethodName) (ws : List Cond) (rm : Room) (Pc : Array Value → State → Prop) (Qc : Array Value → State → Outcome → State → Prop) (XC : String → State → State → Prop) (mc ms : Nat) (free : Addr → Prop) : Prop :=
  MetFree l y (headSpec ws rm) Pc (fun _ _ _ _ _ => True) (vx_Q Qc XC mc ms free)
def vx_Post (XC : String → State → State → Prop) (mc ms : Nat) (free : Addr → Prop) : Pt → Array Value → Addr → Pt → Prop := fun A a q B =>
  ∃ (g : JFrame) (mk : MethodId) (t : State) (L : List Loc) (E : String) (ce : Cell), B.U.heap = t.heap ∧ B.U.vm = t.vm ∧ XC E (A.U.calling g mk a) t ∧ t.heap[q]? = some ce ∧ ce.vm = .none ∧ A.U.vm.findClass E = some ce.cls ∧ B.locs = A.locs ++ L ∧ (∀ z ∈ L, free z.base) ∧ B.cells = A.cells + mc ∧ B.slots = A.slots + ms
def vx_Back (l : Launch) (R : Room) (p : Program) (e : Env) (below : List Frame) (s : State) (sargs : Array Value) (y : MethodName) (len W9 : Nat)
    (Pre : Pt → Array Value → Prop) (Post : Pt → Array Value → Option Value → Pt → Prop) (PostX : Pt → Array Value → Addr → Pt → Prop) : Prop :=
  ∀ (m : MethodId) (meth : Method) (c : Code) (A : Pt) (g : JFrame) (ig : Instr) (mk : MethodId) (a : Array Value),
    Stand p l e R s m sargs below meth c A.U A.locs A.cells A.slots → g.method = m → g.locals.size = c.maxLocals → decode c.code g.pc = .ok (ig, len) →
    2 * g.monitorRoom + (g.stack.map fun v => v.category).sum ≤ W9 → A.U.methodNamed? y = some mk → Pre A a →
    (∃ (v : Option Value) (B : Pt), Stand p l e R s m sargs below meth c B.U B.locs B.cells B.slots ∧ Post A a v B ∧
      Steps p.tables e below (doInvoke e (A.U.setTop g) [] mk a).1 (B.U.setTop { g with pc := g.pc + len, stack := v.toList ++ g.stack })) ∨
    (∃ (q : Addr) (B : Pt), Stand p l e R s m sargs below meth c B.U B.locs B.cells B.slots ∧ PostX A a q B ∧
      Steps p.tables e below (doInvoke e (A.U.setTop g) [] mk a).1 ((B.U.setTop g).pushFrame (.throwing q)))
section Payer
variable {l : Launch} {R : Room} {p : Program} {e : Env} {below : List Frame} {s : State} {sargs : Array Value} {y : MethodName} {len W9 : Nat}
theorem vx_back {ws : List Cond} {rm : Room} {Pc : Array Value → State → Prop} {Qc : Array Value → State → Outcome → State → Prop} {XC : String → State → State → Prop} {mc ms : Nat} {free : Addr → Prop} {bytes : ByteArray} {maxL : Nat} {ret : Option FieldType}
    (hM : vx_Met l y ws rm Pc Qc XC mc ms free) (hblind : FrameBlind Pc) (hrc : rm.cells = mc) (hrs : rm.slots = ms)
    (hframes : rm.frames + 1 ≤ R.frames) (hlocals : W9 + (maxL + 11) + rm.locals ≤ R.locals)
    (hws : ∀ w ∈ ws, ∀ a' U, s.WarmedH U.vm → w.before a' U = true) (hcode : Cond.code y bytes maxL ret ∈ ws) (hinit : ∀ a' U, s.WarmedH U.vm → (Cond.initialized y.cls).before a' U = true) :
    vx_Back l R p e below s sargs y len W9 (PreOf R mc ms Pc) (PostOf Qc mc ms free) (vx_Post XC mc ms free) := by
  intro m meth c A g ig mk a X hg hsize hdg hW hn hp
  have h1 : (headSpec ws rm).pre.before a A.U = true := atoms_intro fun w hw => hws w hw _ _ X.warmed
  have h2 : (Cond.code y bytes maxL ret).before a A.U = true := hws _ hcode _ _ X.warmed
  have h3 : (Cond.initialized y.cls).before a A.U = true := hinit _ _ X.warmed
  have h4 : A.cells + (headSpec ws rm).room.cells ≤ R.cells := by rw [show (headSpec ws rm).room.cells = mc from hrc]; exact hp.1
  have h5 : A.slots + (headSpec ws rm).room.slots ≤ R.slots := by rw [show (headSpec ws rm).room.slots = ms from hrs]; exact hp.2.1
  have hPc : Pc a (A.U.calling g mk a) := hblind _ _ _ _ hp.2.2
  obtain ⟨U, Ls, c0, s0⟩ := A
  dsimp only [Pt.U, Pt.locs, Pt.cells, Pt.slots] at h1 h2 h3 h4 h5 X hn hPc ⊢
  obtain ⟨methY, cY, hmY, hcY, -, hlY, -, -, -, -⟩ := Cond.code_spec hn h2
  obtain ⟨kY, hkY, -⟩ := className_of_methodNamed hn
  have hinitY : kY.init = .initialized := Cond.initialized_spec (findClass_of_methodNamed hn) hkY h3
  have h : At U g.method c below := by rw [hg]; exact X.here
  have hlocals9 : W9 + (maxL + 11) + (headSpec ws rm).room.locals ≤ R.locals := hlocals
  have happ : (headSpec ws rm).appliesLoose y e.platform (U.calling g mk a) = true :=
    Spec.appliesLoose_calling (g := g) h hdg hn hkY hinitY
      (X.room_calling (g := g) (R' := (headSpec ws rm).room) hsize hmY hcY hframes (by rw [hlY]; omega) h4 h5) h1
  obtain ⟨mid, hmid⟩ := h.above
  have hfr : (U.setTop g).frames = (.java g :: mid) ++ below := by rw [State.frames_setTop' g h.top, hmid]; rfl
  obtain ⟨o, s₂, hsteps, -, hend, hq⟩ := Steps.callFree hM p X.admits X.cas X.clock (acts := []) hfr happ hPc trivial
  have hq' : vx_Q Qc XC mc ms free a (U.calling g mk a) o s₂ := hq
  rw [State.frames_setTop' g h.top] at hend
  obtain ⟨g₀, hg0⟩ := Option.isSome_iff_exists.mp h.top
  obtain ⟨r, hr⟩ := State.topJava?_eq_some.mp hg0
  have hr' : (({ U with heap := s₂.heap, slotsUsed := s₂.slotsUsed } : State).setVm s₂.vm).frames = .java g₀ :: r := hr
  rcases hq' with ⟨hqc, L, hfe, hL⟩ | ⟨q, rfl, E, ce, L, hx, hce, hcv, hcl, hW₂, hsm, hL⟩
  · obtain ⟨⟨v, rfl⟩, hW₂, e2, q2, q3, q4, q5, q6⟩ := id hfe
    have e3 : s₂ = ({ (U.calling g mk a).setFrames s₂.frames with heap := s₂.heap, slotsUsed := s₂.slotsUsed } : State).setVm s₂.vm := by
      have : s₂ = ({ s₂ with vm := (U.calling g mk a).vm } : State).setVm s₂.vm := rfl
      rw [e2] at this
      exact this
    obtain ⟨c₂, i₂, len₂, hc₂, hd₂, hf₂⟩ := hend
    have hW' : U.WarmedH s₂.vm := hW₂
    have hcc : c₂ = c := by
      have h1 : s₂.code? g.method = U.code? g.method := by
        rw [State.code?_eq, State.code?_eq, hW'.alike.method?]
      exact Option.some.inj (hc₂.symm.trans (h1.trans h.code))
    subst hcc
    have hlen : len₂ = len := by rw [hdg] at hd₂; cases hd₂; rfl
    subst hlen
    have hs₂ : s₂ = (({ U with heap := s₂.heap, slotsUsed := s₂.slotsUsed } : State).setVm s₂.vm).setTop { g with pc := g.pc + len₂, stack := v.toList ++ g.stack } := by
      refine e3.trans ?_
      rw [hf₂, State.calling_eq h.top, State.setFrames_setFrames, State.setTop_of_frames _ hr', hr]
      rfl
    have hsame : U.sameButNew ({ U with heap := s₂.heap, slotsUsed := s₂.slotsUsed } : State) L mc ms := by
      refine ⟨?_, q2, q3, q4, q5, q6⟩
      obtain ⟨t, ht, -⟩ := State.frames_cons hr
      show ({ U with heap := s₂.heap, slotsUsed := s₂.slotsUsed } : State) = { U.setFrames U.frames with heap := s₂.heap, slotsUsed := s₂.slotsUsed }
      rw [State.setFrames_self ht]
    subst hg
    refine Or.inl ⟨v, ⟨(({ U with heap := s₂.heap, slotsUsed := s₂.slotsUsed } : State).setVm s₂.vm), Ls ++ L, c0 + mc, s0 + ms⟩,
      ⟨X.admits, X.cas, X.clock, X.frames, X.room, X.hears, X.method, X.code, (X.here.setHeapUsed s₂.heap s₂.slotsUsed).setVm hW'.alike, X.tail, State.WarmedH.trans X.warmed hW', X.limits, X.bytes, X.same.trans (hsame.setVm s.vm)⟩,
      ⟨g, mk, s₂, L, rfl, rfl, hqc, rfl, hL, rfl, rfl⟩, ?_⟩
    show Steps p.tables e below _ ((({ U with heap := s₂.heap, slotsUsed := s₂.slotsUsed } : State).setVm s₂.vm).setTop { g with pc := g.pc + len₂, stack := v.toList ++ g.stack })
    rw [← hs₂]
    exact hsteps
  · obtain ⟨e2, q2, q3, q4, q5, q6⟩ := id hsm
    have e3 : s₂ = ({ (U.calling g mk a).setFrames s₂.frames with heap := s₂.heap, slotsUsed := s₂.slotsUsed } : State).setVm s₂.vm := by
      have : s₂ = ({ s₂ with vm := (U.calling g mk a).vm } : State).setVm s₂.vm := rfl
      rw [e2] at this
      exact this
    have hf₂ : s₂.frames = .throwing q :: .java g :: U.frames.tail := hend
    have hW' : U.WarmedH s₂.vm := hW₂
    have hs₂ : s₂ = ((({ U with heap := s₂.heap, slotsUsed := s₂.slotsUsed } : State).setVm s₂.vm).setTop g).pushFrame (.throwing q) := by
      refine e3.trans ?_
      rw [hf₂, State.calling_eq h.top, State.setFrames_setFrames, State.pushFrame, State.frames_setTop _ hr', State.setTop_of_frames _ hr', State.setFrames_setFrames, hr]
      rfl
    have hsame : U.sameButNew ({ U with heap := s₂.heap, slotsUsed := s₂.slotsUsed } : State) L mc ms := by
      refine ⟨?_, q2, q3, q4, q5, q6⟩
      obtain ⟨t, ht, -⟩ := State.frames_cons hr
      show ({ U with heap := s₂.heap, slotsUsed := s₂.slotsUsed } : State) = { U.setFrames U.frames with heap := s₂.heap, slotsUsed := s₂.slotsUsed }
      rw [State.setFrames_self ht]
    subst hg
    refine Or.inr ⟨q, ⟨(({ U with heap := s₂.heap, slotsUsed := s₂.slotsUsed } : State).setVm s₂.vm), Ls ++ L, c0 + mc, s0 + ms⟩,
      ⟨X.admits, X.cas, X.clock, X.frames, X.room, X.hears, X.method, X.code, (X.here.setHeapUsed s₂.heap s₂.slotsUsed).setVm hW'.alike, X.tail, State.WarmedH.trans X.warmed hW', X.limits, X.bytes, X.same.trans (hsame.setVm s.vm)⟩,
      ⟨g, mk, s₂, L, E, ce, rfl, rfl, hx, hce, hcv, hcl, rfl, hL, rfl, rfl⟩, ?_⟩
    show Steps p.tables e below _ (((({ U with heap := s₂.heap, slotsUsed := s₂.slotsUsed } : State).setVm s₂.vm).setTop g).pushFrame (.throwing q))
    rw [← hs₂]
    exact hsteps
end Payer
section Calls
variable {p : Program} {l : Launch} {e : Env} {R : Room} {s : State} {m : MethodId} {args : Array Value} {below : List Frame} {meth : Method} {c : Code} {T : State} {locs : List Loc} {cells slots : Nat}
theorem vx_callV (X : Stand p l e R s m args below meth c T locs cells slots) (hexec : p.tables.exec = Jvm.exec) {own C : String} {index : Nat} {y : MethodName} {bytes : ByteArray} {maxL : Nat} {ret : Option FieldType}
    (hown : s.vm.findClass own = some m.cls) (hlink : (Cond.methodLink own index y).before args s = true) (hinst : (Cond.instanceMethod y).before args s = true) (hsel : (Cond.selects C y y).before args s = true)
    (hcode : (Cond.code y bytes maxL ret).before args s = true) (hy : y.cls ≠ "java/lang/invoke/MethodHandle" ∧ y.cls ≠ "java/lang/invoke/VarHandle")
    {W9 : Nat} {Pre : Pt → Array Value → Prop} {Post : Pt → Array Value → Option Value → Pt → Prop} {PostX : Pt → Array Value → Addr → Pt → Prop} (hK : vx_Back l R p e below s args y 3 W9 Pre Post PostX)
    {b : Addr} {cellB : Cell} (hcell : T.heap[b]? = some cellB) (hobj : cellB.vm.isStatics = false) (hcls : s.vm.findClass C = some cellB.cls)
    {g : JFrame} (hg : g.method = m) (hsize : g.locals.size = c.maxLocals) {argsL rest : List Value} (hlen : ∀ sig, parseMethodDescriptor y.desc = some sig → argsL.length = sig.parameters.length)
    (hstack : g.stack = argsL.reverse ++ .ref b :: rest) (hW : 2 * g.monitorRoom + (rest.map fun v => v.category).sum ≤ W9) (hdg : decode c.code g.pc = .ok (.invokevirtual index, 3))
    (hpre : ∀ vm₁, s.WarmedH vm₁ → Pre ⟨T.setVm vm₁, locs, cells, slots⟩ (Value.ref b :: argsL).toArray) :
    (∃ (v : Option Value) (vm₁ : Vm) (B : Pt), s.WarmedH vm₁ ∧ Stand p l e R s m args below meth c B.U B.locs B.cells B.slots ∧ Post ⟨T.setVm vm₁, locs, cells, slots⟩ (Value.ref b :: argsL).toArray v B ∧
      ∀ target, Steps p.tables e below (B.U.setTop { g with pc := g.pc + 3, stack := v.toList ++ rest }) target → Steps p.tables e below (T.setTop g) target) ∨
    (∃ (q : Addr) (vm₁ : Vm) (B : Pt), s.WarmedH vm₁ ∧ Stand p l e R s m args below meth c B.U B.locs B.cells B.slots ∧ PostX ⟨T.setVm vm₁, locs, cells, slots⟩ (Value.ref b :: argsL).toArray q B ∧
      Steps p.tables e below (T.setTop g) ((B.U.setTop { g with stack := rest }).pushFrame (.throwing q))) := by
  obtain ⟨mk, methM, hnamed, hmethM, hstM, habM⟩ := Cond.instanceMethod_spec hinst
  obtain ⟨methM', cM, hmethM', -, -, -, -, -, -, hsigM⟩ := Cond.code_spec hnamed hcode
  cases hmethM.symm.trans hmethM'
  obtain ⟨c2, r2, m2, q1, q2, q3, q4, kP, hkP, hkPi⟩ := Cond.selects_spec hsel
  cases hcls.symm.trans q1
  cases (State.methodFound?_of_named hnamed hy).symm.trans q2
  cases hnamed.symm.trans q3
  have hselP : selectMethod e.platform s.vm cellB.cls mk = .method mk := by rw [Launch.admits_selectMethod X.admits]; exact q4
  obtain ⟨vm₁, X₁, hstep₁⟩ := X.invokevirtual hexec hown hlink hnamed hmethM hstM hkP hkPi hy (a := b) (cell := cellB) hcell
    (fun z h => by rw [h] at hobj; cases hobj) hselP hmethM habM hkP hkPi (g := g) hg (argsL := argsL) (rest := rest) (hlen _ hsigM) hstack hdg
  rcases hK m meth c ⟨T.setVm vm₁, locs, cells, slots⟩ { g with stack := rest } (.invokevirtual index) mk (Value.ref b :: argsL).toArray X₁ hg hsize hdg hW (X₁.named hnamed) (hpre vm₁ X₁.warmed) with ⟨v, B, X', hpost, hsteps⟩ | ⟨q, B, X', hpost, hsteps⟩
  · exact Or.inl ⟨v, vm₁, B, X₁.warmed, X', hpost, fun target h => hstep₁ _ fun acts => by rw [doInvoke_state]; exact hsteps.trans h⟩
  · exact Or.inr ⟨q, vm₁, B, X₁.warmed, X', hpost, hstep₁ _ fun acts => by rw [doInvoke_state]; exact hsteps⟩
theorem vx_callS (X : Stand p l e R s m args below meth c T locs cells slots) (hexec : p.tables.exec = Jvm.exec) {own : String} {index : Nat} {y : MethodName} {bytes : ByteArray} {maxL : Nat} {ret : Option FieldType}
    (hown : s.vm.findClass own = some m.cls) (hlink : (Cond.methodLink own index y).before args s = true) (hstat : (Cond.static y).before args s = true) (hinit : (Cond.initialized y.cls).before args s = true)
    (hcode : (Cond.code y bytes maxL ret).before args s = true) (hy : y.cls ≠ "java/lang/invoke/MethodHandle" ∧ y.cls ≠ "java/lang/invoke/VarHandle")
    {W9 : Nat} {Pre : Pt → Array Value → Prop} {Post : Pt → Array Value → Option Value → Pt → Prop} {PostX : Pt → Array Value → Addr → Pt → Prop} (hK : vx_Back l R p e below s args y 3 W9 Pre Post PostX)
    {g : JFrame} (hg : g.method = m) (hsize : g.locals.size = c.maxLocals) {argsL rest : List Value} (hlen : ∀ sig, parseMethodDescriptor y.desc = some sig → argsL.length = sig.parameters.length)
    (hstack : g.stack = argsL.reverse ++ rest) (hW : 2 * g.monitorRoom + (rest.map fun v => v.category).sum ≤ W9) (hdg : decode c.code g.pc = .ok (.invokestatic index, 3))
    (hpre : ∀ vm₁, s.WarmedH vm₁ → Pre ⟨T.setVm vm₁, locs, cells, slots⟩ argsL.toArray) :
    (∃ (v : Option Value) (vm₁ : Vm) (B : Pt), s.WarmedH vm₁ ∧ Stand p l e R s m args below meth c B.U B.locs B.cells B.slots ∧ Post ⟨T.setVm vm₁, locs, cells, slots⟩ argsL.toArray v B ∧
      ∀ target, Steps p.tables e below (B.U.setTop { g with pc := g.pc + 3, stack := v.toList ++ rest }) target → Steps p.tables e below (T.setTop g) target) ∨
    (∃ (q : Addr) (vm₁ : Vm) (B : Pt), s.WarmedH vm₁ ∧ Stand p l e R s m args below meth c B.U B.locs B.cells B.slots ∧ PostX ⟨T.setVm vm₁, locs, cells, slots⟩ argsL.toArray q B ∧
      Steps p.tables e below (T.setTop g) ((B.U.setTop { g with stack := rest }).pushFrame (.throwing q))) := by
  obtain ⟨mk, hnamed⟩ := Cond.code_named hcode
  obtain ⟨methM, cM, hmethM, -, -, -, -, -, -, hsigM⟩ := Cond.code_spec hnamed hcode
  have hstatic : methM.isStatic = true := Cond.static_spec hnamed hmethM hstat
  obtain ⟨kP, hkP, -⟩ := className_of_methodNamed hnamed
  have hinitP : kP.init = .initialized := Cond.initialized_spec (findClass_of_methodNamed hnamed) hkP hinit
  obtain ⟨vm₁, X₁, hstep₁⟩ := X.invokestatic hexec hown hlink hnamed hmethM hstatic hkP hinitP hy (g := g) hg (argsL := argsL) (rest := rest) (hlen _ hsigM) hstack hdg
  rcases hK m meth c ⟨T.setVm vm₁, locs, cells, slots⟩ { g with stack := rest } (.invokestatic index) mk argsL.toArray X₁ hg hsize hdg hW (X₁.named hnamed) (hpre vm₁ X₁.warmed) with ⟨v, B, X', hpost, hsteps⟩ | ⟨q, B, X', hpost, hsteps⟩
  · exact Or.inl ⟨v, vm₁, B, X₁.warmed, X', hpost, fun target h => hstep₁ _ fun acts => by rw [doInvoke_state]; exact hsteps.trans h⟩
  · exact Or.inr ⟨q, vm₁, B, X₁.warmed, X', hpost, hstep₁ _ fun acts => by rw [doInvoke_state]; exact hsteps⟩
end Calls
theorem vx_cls {s : State} {T : State} {vm₁ : Vm} {E : String} {k : ClassId} (hW : s.WarmedH vm₁) (h : (T.setVm vm₁).vm.findClass E = some k) : s.vm.findClass E = some k := by
  have h1 : vm₁.findClass E = some k := h
  rw [hW.alike.findClass] at h1
  exact h1
/-- the method's frame g, with q thrown over it -/
def vx_W (p : Program) (l : Launch) (e : Env) (R : Room) (s : State) (m : MethodId) (args : Array Value) (below : List Frame) (meth : Method) (c : Code) (H : Heap) (locs : List Loc) (cells slots : Nat) (Q : State → Prop) (g : JFrame) (q : Addr) : Prop :=
  ∀ T : State, T.heap = H → Stand p l e R s m args below meth c T locs cells slots → ∃ t, Steps p.tables e below ((T.setTop g).pushFrame (.throwing q)) t ∧ Q t
def vx_Run (p : Program) (l : Launch) (e : Env) (R : Room) (s : State) (m : MethodId) (args : Array Value) (below : List Frame) (meth : Method) (c : Code) (H : Heap) (locs : List Loc) (cells slots mc ms : Nat) (g : JFrame) (rest : List Value) (Qa : State → Outcome → State → Prop) (XC : String → State → State → Prop) (free : Addr → Prop) : Prop :=
  ∀ T : State, T.heap = H → Stand p l e R s m args below meth c T locs cells slots →
    (∃ (v : Option Value) (st₀ t T' : State) (L : List Loc), st₀.heap = H ∧ Stand p l e R s m args below meth c T' (locs ++ L) (cells + mc) (slots + ms) ∧ (∀ q ∈ L, free q.base) ∧ T'.heap = t.heap ∧ T'.vm = t.vm ∧ Qa st₀ (.returned v) t ∧
      Goes p e below T g T' { g with pc := g.pc + 3, stack := v.toList ++ rest }) ∨
    (∃ (q : Addr) (st₀ t T' : State) (L : List Loc) (E : String) (ce : Cell), st₀.heap = H ∧ Stand p l e R s m args below meth c T' (locs ++ L) (cells + mc) (slots + ms) ∧ (∀ z ∈ L, free z.base) ∧ T'.heap = t.heap ∧ T'.vm = t.vm ∧ XC E st₀ t ∧ t.heap[q]? = some ce ∧ ce.vm = .none ∧ s.vm.findClass E = some ce.cls ∧
      Steps p.tables e below (T.setTop g) ((T'.setTop { g with stack := rest }).pushFrame (.throwing q)))
def vx_X {S : Type} (px : S → Prop) (B : String → S → State → Prop) (A : Nat → Prop) : String → State → State → Prop := fun E st t => ∃ u : S, px u ∧ B E u t ∧ va_F A st t
section Runs
variable {p : Program} {l : Launch} {e : Env} {R : Room} {s : State} {m : MethodId} {args : Array Value} {below : List Frame} {meth : Method} {c : Code} {H : Heap} {locs : List Loc} {cells slots : Nat}
variable {y : MethodName} {bytes cc : ByteArray} {maxL nL mc ms n index : Nat} {ret : Option FieldType} {ws : List Cond} {rm : Room} {Pc : Array Value → State → Prop} {Qc : Array Value → State → Outcome → State → Prop} {XC : String → State → State → Prop} {free : Addr → Prop} {Ts : List Cond} {own C : String} {b : Addr} {As rest : List Value} {g : JFrame}
theorem vx_callBack (cb : CallB R s args own index y bytes maxL ret ws rm mc ms n) (hM : vx_Met l y ws rm Pc Qc XC mc ms free) (hbl : FrameBlind Pc) : vx_Back l R p e below s args y 3 8 (PreOf R mc ms Pc) (PostOf Qc mc ms free) (vx_Post XC mc ms free) := by
  obtain ⟨hrc, hrs, hfr, hlo, hws, hcw, -, hini, -⟩ := cb
  exact vx_back (bytes := bytes) (maxL := maxL) (ret := ret) hM hbl hrc hrs hfr hlo hws hcw (fun a' U hW => word_at hW (Or.inl (by first | rfl | simp [Cond.onTables, Cond.keeps, Cond.steady])) hini)
theorem vx_runV (S : CallFix p m c cc nL s args Ts own) (hM : vx_Met l y ws rm Pc Qc XC mc ms free) (cw : CallW R s args own C index y bytes maxL ret ws rm mc ms n) (hp : PreV s H C b Pc As)
    (hg : g.method = m) (hn : As.length = n) (hsize : g.locals.size = nL) (hstack : g.stack = As.reverse ++ .ref b :: rest) (hW : 2 * g.monitorRoom + (rest.map fun v => v.category).sum ≤ 8) (hdg : decode cc g.pc = .ok (.invokevirtual index, 3)) (hf : cells + mc ≤ R.cells ∧ slots + ms ≤ R.slots) :
    vx_Run p l e R s m args below meth c H locs cells slots mc ms g rest (Qc (Value.ref b :: As).toArray) XC free := by
  have hK : vx_Back l R p e below s args y 3 8 (PreOf R mc ms Pc) (PostOf Qc mc ms free) (vx_Post XC mc ms free) := vx_callBack cw.1 hM hp.1
  obtain ⟨⟨-, -, -, -, -, -, hcode, -, hy, hlen, hl⟩, hin, hse⟩ := cw
  obtain ⟨hx, hb, hml, ho, -⟩ := S
  obtain ⟨-, ⟨cellB, hcB, hoB, hclB⟩, hPc⟩ := hp
  intro T hT X
  rcases vx_callV X hx (C := C) (bytes := bytes) (maxL := maxL) (ret := ret) ho hl hin hse hcode hy hK (by rw [hT]; exact hcB) hoB hclB hg (hsize.trans hml.symm) (argsL := As) (rest := rest) (fun sig h => hn.trans (hlen sig h)) hstack hW (by rw [hb]; exact hdg)
    (fun vm₁ hW₁ => ⟨hf.1, hf.2, hPc (T.setVm vm₁) hT hW₁⟩) with ⟨v, vm₁, ⟨U', l2, c2, s2⟩, hW₁, X', ⟨g', mk, t, L, e1, e2, hq, h1, hL, h2, h3⟩, st⟩ | ⟨q, vm₁, ⟨U', l2, c2, s2⟩, hW₁, X', ⟨g', mk, t, L, E, ce, e1, e2, hq, hce, hcv, hcl, h1, hL, h2, h3⟩, st⟩
  · dsimp only [Pt.U, Pt.locs, Pt.cells, Pt.slots] at X' e1 e2 h1 h2 h3 st
    subst h1; subst h2; subst h3
    exact Or.inl ⟨v, (T.setVm vm₁).calling g' mk (Value.ref b :: As).toArray, t, U', L, hT, X', hL, e1, e2, hq, st⟩
  · dsimp only [Pt.U, Pt.locs, Pt.cells, Pt.slots] at X' e1 e2 h1 h2 h3 st hcl
    subst h1; subst h2; subst h3
    exact Or.inr ⟨q, (T.setVm vm₁).calling g' mk (Value.ref b :: As).toArray, t, U', L, E, ce, hT, X', hL, e1, e2, hq, hce, hcv, vx_cls hW₁ hcl, st⟩
theorem vx_runS (S : CallFix p m c cc nL s args Ts own) (hM : vx_Met l y ws rm Pc Qc XC mc ms free) (cw : CallB R s args own index y bytes maxL ret ws rm mc ms n ∧ (Cond.static y).before args s = true) (hp : PreS s H Pc As)
    (hg : g.method = m) (hn : As.length = n) (hsize : g.locals.size = nL) (hstack : g.stack = As.reverse ++ rest) (hW : 2 * g.monitorRoom + (rest.map fun v => v.category).sum ≤ 8) (hdg : decode cc g.pc = .ok (.invokestatic index, 3)) (hf : cells + mc ≤ R.cells ∧ slots + ms ≤ R.slots) :
    vx_Run p l e R s m args below meth c H locs cells slots mc ms g rest (Qc As.toArray) XC free := by
  have hK : vx_Back l R p e below s args y 3 8 (PreOf R mc ms Pc) (PostOf Qc mc ms free) (vx_Post XC mc ms free) := vx_callBack cw.1 hM hp.1
  obtain ⟨⟨-, -, -, -, -, -, hcode, hini, hy, hlen, hl⟩, hstt⟩ := cw
  obtain ⟨hx, hb, hml, ho, -⟩ := S
  intro T hT X
  rcases vx_callS X hx (bytes := bytes) (maxL := maxL) (ret := ret) ho hl hstt hini hcode hy hK hg (hsize.trans hml.symm) (argsL := As) (rest := rest) (fun sig h => hn.trans (hlen sig h)) hstack hW (by rw [hb]; exact hdg)
    (fun vm₁ hW₁ => ⟨hf.1, hf.2, hp.2 (T.setVm vm₁) hT hW₁⟩) with ⟨v, vm₁, ⟨U', l2, c2, s2⟩, hW₁, X', ⟨g', mk, t, L, e1, e2, hq, h1, hL, h2, h3⟩, st⟩ | ⟨q, vm₁, ⟨U', l2, c2, s2⟩, hW₁, X', ⟨g', mk, t, L, E, ce, e1, e2, hq, hce, hcv, hcl, h1, hL, h2, h3⟩, st⟩
  · dsimp only [Pt.U, Pt.locs, Pt.cells, Pt.slots] at X' e1 e2 h1 h2 h3 st
    subst h1; subst h2; subst h3
    exact Or.inl ⟨v, (T.setVm vm₁).calling g' mk As.toArray, t, U', L, hT, X', hL, e1, e2, hq, st⟩
  · dsimp only [Pt.U, Pt.locs, Pt.cells, Pt.slots] at X' e1 e2 h1 h2 h3 st hcl
    subst h1; subst h2; subst h3
    exact Or.inr ⟨q, (T.setVm vm₁).calling g' mk As.toArray, t, U', L, E, ce, hT, X', hL, e1, e2, hq, hce, hcv, vx_cls hW₁ hcl, st⟩
end Runs
section Rows
variable {p : Program} {l : Launch} {e : Env} {R : Room} {s : State} {m : MethodId} {args : Array Value} {below : List Frame} {meth : Method} {c : Code} {H : Heap} {locs : List Loc} {cells slots : Nat} {Q : State → Prop}
variable {mc ms : Nat} {free : Addr → Prop} {A0 A1 : Nat → Prop} {H0 : Heap} {a : Array Value} {pc : Nat} {ls : Array Slot} {st0 rest : List Value}
theorem vx_keep {st₀ t T' : State} {L : List Loc} (h0 : st₀.heap = H) (e1 : T'.heap = t.heap) (hS : va_S A0 H0 H locs) (hA : ∀ q, q < H.size → A1 q → A0 q) (hf : ∀ q, free q → A0 q) (hL : ∀ q ∈ L, free q.base) (hF : va_F A1 st₀ t) :
    H.size ≤ T'.heap.size ∧ (∀ q : Nat, q < H.size → ¬ A1 q → T'.heap[q]? = H[q]?) ∧ va_S A0 H0 T'.heap (locs ++ L) := by
  obtain ⟨hz, hk⟩ := hF
  rw [h0] at hz hk
  exact ⟨by rw [e1]; exact hz, fun q h1 h2 => by rw [e1]; exact hk q h1 h2,
    ⟨Nat.le_trans hS.1 (by rw [e1]; exact hz), fun q h1 h2 => by rw [e1, hk q (Nat.lt_of_lt_of_le h1 hS.1) (fun z => h2 (hA q (Nat.lt_of_lt_of_le h1 hS.1) z))]; exact hS.2.1 q h1 h2, fun q hq => by
      rcases List.mem_append.mp hq with h | h
      · exact hS.2.2 q h
      · exact hf _ (hL q h)⟩⟩
theorem vx_calli {S SX : Type} {post : Int32 → S → Prop} {px : SX → Prop} {B : S → State → Prop} {BX : String → SX → State → Prop} {AX : Nat → Prop} (hr : vx_Run p l e R s m args below meth c H locs cells slots mc ms (F0 m pc ls st0) rest (va_Qi post B A1 a) (vx_X px BX AX) free) (hS : va_S A0 H0 H locs) (hA : ∀ q, q < H.size → A1 q → A0 q) (hf : ∀ q, free q → A0 q) (hAX : ∀ q, q < H.size → AX q → A0 q)
    (kx : ∀ (E : String) (ce : Cell) (q9 : Addr) (u : SX) (t : State) (H1 : Heap) (locs1 : List Loc), t.heap = H1 → s.vm.Alike t.vm → px u → BX E u t → H.size ≤ H1.size → (∀ q : Nat, q < H.size → ¬ AX q → H1[q]? = H[q]?) → va_S A0 H0 H1 locs1 → H1[q9]? = some ce → ce.vm = .none → s.vm.findClass E = some ce.cls → vx_W p l e R s m args below meth c H1 locs1 (cells + mc) (slots + ms) Q (F0 m pc ls rest) q9)
    (kk : ∀ (r : Int32) (u : S) (t : State) (H1 : Heap) (locs1 : List Loc), t.heap = H1 → s.vm.Alike t.vm → post r u → B u t → H.size ≤ H1.size → (∀ q : Nat, q < H.size → ¬ A1 q → H1[q]? = H[q]?) → va_S A0 H0 H1 locs1 → W p l e R s m args below meth c H1 locs1 (cells + mc) (slots + ms) Q (F0 m (pc + 3) ls (.int r :: rest))) : W p l e R s m args below meth c H locs cells slots Q (F0 m pc ls st0) := by
  intro T hT X
  rcases hr T hT X with ⟨v, st₀, t, T', L, h0, X', hL, e1, e2, ⟨⟨r, u, hv, hp, hb⟩, hF⟩, st⟩ | ⟨q, st₀, t, T', L, E, ce, h0, X', hL, e1, e2, ⟨u, hp, hb, hF⟩, hce, hcv, hcl, st⟩
  · cases hv
    obtain ⟨k1, k2, k3⟩ := vx_keep h0 e1 hS hA hf hL hF
    obtain ⟨t2, a1, b1⟩ := kk r u t T'.heap (locs ++ L) e1.symm (by rw [← e2]; exact X'.warmed.alike) hp hb k1 k2 k3 T' rfl X'
    exact ⟨t2, st t2 a1, b1⟩
  · obtain ⟨k1, k2, k3⟩ := vx_keep h0 e1 hS hAX hf hL hF
    obtain ⟨t2, a1, b1⟩ := kx E ce q u t T'.heap (locs ++ L) e1.symm (by rw [← e2]; exact X'.warmed.alike) hp hb k1 k2 k3 (by rw [e1]; exact hce) hcv hcl T' rfl X'
    exact ⟨t2, st.trans a1, b1⟩
theorem vx_calll {S SX : Type} {post : Int64 → S → Prop} {px : SX → Prop} {B : S → State → Prop} {BX : String → SX → State → Prop} {AX : Nat → Prop} (hr : vx_Run p l e R s m args below meth c H locs cells slots mc ms (F0 m pc ls st0) rest (va_Ql post B A1 a) (vx_X px BX AX) free) (hS : va_S A0 H0 H locs) (hA : ∀ q, q < H.size → A1 q → A0 q) (hf : ∀ q, free q → A0 q) (hAX : ∀ q, q < H.size → AX q → A0 q)
    (kx : ∀ (E : String) (ce : Cell) (q9 : Addr) (u : SX) (t : State) (H1 : Heap) (locs1 : List Loc), t.heap = H1 → s.vm.Alike t.vm → px u → BX E u t → H.size ≤ H1.size → (∀ q : Nat, q < H.size → ¬ AX q → H1[q]? = H[q]?) → va_S A0 H0 H1 locs1 → H1[q9]? = some ce → ce.vm = .none → s.vm.findClass E = some ce.cls → vx_W p l e R s m args below meth c H1 locs1 (cells + mc) (slots + ms) Q (F0 m pc ls rest) q9)
    (kk : ∀ (r : Int64) (u : S) (t : State) (H1 : Heap) (locs1 : List Loc), t.heap = H1 → s.vm.Alike t.vm → post r u → B u t → H.size ≤ H1.size → (∀ q : Nat, q < H.size → ¬ A1 q → H1[q]? = H[q]?) → va_S A0 H0 H1 locs1 → W p l e R s m args below meth c H1 locs1 (cells + mc) (slots + ms) Q (F0 m (pc + 3) ls (.long r :: rest))) : W p l e R s m args below meth c H locs cells slots Q (F0 m pc ls st0) := by
  intro T hT X
  rcases hr T hT X with ⟨v, st₀, t, T', L, h0, X', hL, e1, e2, ⟨⟨r, u, hv, hp, hb⟩, hF⟩, st⟩ | ⟨q, st₀, t, T', L, E, ce, h0, X', hL, e1, e2, ⟨u, hp, hb, hF⟩, hce, hcv, hcl, st⟩
  · cases hv
    obtain ⟨k1, k2, k3⟩ := vx_keep h0 e1 hS hA hf hL hF
    obtain ⟨t2, a1, b1⟩ := kk r u t T'.heap (locs ++ L) e1.symm (by rw [← e2]; exact X'.warmed.alike) hp hb k1 k2 k3 T' rfl X'
    exact ⟨t2, st t2 a1, b1⟩
  · obtain ⟨k1, k2, k3⟩ := vx_keep h0 e1 hS hAX hf hL hF
    obtain ⟨t2, a1, b1⟩ := kx E ce q u t T'.heap (locs ++ L) e1.symm (by rw [← e2]; exact X'.warmed.alike) hp hb k1 k2 k3 (by rw [e1]; exact hce) hcv hcl T' rfl X'
    exact ⟨t2, st.trans a1, b1⟩
theorem vx_callf {S SX : Type} {post : UInt32 → S → Prop} {px : SX → Prop} {B : S → State → Prop} {BX : String → SX → State → Prop} {AX : Nat → Prop} (hr : vx_Run p l e R s m args below meth c H locs cells slots mc ms (F0 m pc ls st0) rest (va_Qf post B A1 a) (vx_X px BX AX) free) (hS : va_S A0 H0 H locs) (hA : ∀ q, q < H.size → A1 q → A0 q) (hf : ∀ q, free q → A0 q) (hAX : ∀ q, q < H.size → AX q → A0 q)
    (kx : ∀ (E : String) (ce : Cell) (q9 : Addr) (u : SX) (t : State) (H1 : Heap) (locs1 : List Loc), t.heap = H1 → s.vm.Alike t.vm → px u → BX E u t → H.size ≤ H1.size → (∀ q : Nat, q < H.size → ¬ AX q → H1[q]? = H[q]?) → va_S A0 H0 H1 locs1 → H1[q9]? = some ce → ce.vm = .none → s.vm.findClass E = some ce.cls → vx_W p l e R s m args below meth c H1 locs1 (cells + mc) (slots + ms) Q (F0 m pc ls rest) q9)
    (kk : ∀ (r : UInt32) (u : S) (t : State) (H1 : Heap) (locs1 : List Loc), t.heap = H1 → s.vm.Alike t.vm → post r u → B u t → H.size ≤ H1.size → (∀ q : Nat, q < H.size → ¬ A1 q → H1[q]? = H[q]?) → va_S A0 H0 H1 locs1 → W p l e R s m args below meth c H1 locs1 (cells + mc) (slots + ms) Q (F0 m (pc + 3) ls (.float r :: rest))) : W p l e R s m args below meth c H locs cells slots Q (F0 m pc ls st0) := by
  intro T hT X
  rcases hr T hT X with ⟨v, st₀, t, T', L, h0, X', hL, e1, e2, ⟨⟨r, u, hv, hp, hb⟩, hF⟩, st⟩ | ⟨q, st₀, t, T', L, E, ce, h0, X', hL, e1, e2, ⟨u, hp, hb, hF⟩, hce, hcv, hcl, st⟩
  · cases hv
    obtain ⟨k1, k2, k3⟩ := vx_keep h0 e1 hS hA hf hL hF
    obtain ⟨t2, a1, b1⟩ := kk r u t T'.heap (locs ++ L) e1.symm (by rw [← e2]; exact X'.warmed.alike) hp hb k1 k2 k3 T' rfl X'
    exact ⟨t2, st t2 a1, b1⟩
  · obtain ⟨k1, k2, k3⟩ := vx_keep h0 e1 hS hAX hf hL hF
    obtain ⟨t2, a1, b1⟩ := kx E ce q u t T'.heap (locs ++ L) e1.symm (by rw [← e2]; exact X'.warmed.alike) hp hb k1 k2 k3 (by rw [e1]; exact hce) hcv hcl T' rfl X'
    exact ⟨t2, st.trans a1, b1⟩
theorem vx_calld {S SX : Type} {post : UInt64 → S → Prop} {px : SX → Prop} {B : S → State → Prop} {BX : String → SX → State → Prop} {AX : Nat → Prop} (hr : vx_Run p l e R s m args below meth c H locs cells slots mc ms (F0 m pc ls st0) rest (va_Qd post B A1 a) (vx_X px BX AX) free) (hS : va_S A0 H0 H locs) (hA : ∀ q, q < H.size → A1 q → A0 q) (hf : ∀ q, free q → A0 q) (hAX : ∀ q, q < H.size → AX q → A0 q)
    (kx : ∀ (E : String) (ce : Cell) (q9 : Addr) (u : SX) (t : State) (H1 : Heap) (locs1 : List Loc), t.heap = H1 → s.vm.Alike t.vm → px u → BX E u t → H.size ≤ H1.size → (∀ q : Nat, q < H.size → ¬ AX q → H1[q]? = H[q]?) → va_S A0 H0 H1 locs1 → H1[q9]? = some ce → ce.vm = .none → s.vm.findClass E = some ce.cls → vx_W p l e R s m args below meth c H1 locs1 (cells + mc) (slots + ms) Q (F0 m pc ls rest) q9)
    (kk : ∀ (r : UInt64) (u : S) (t : State) (H1 : Heap) (locs1 : List Loc), t.heap = H1 → s.vm.Alike t.vm → post r u → B u t → H.size ≤ H1.size → (∀ q : Nat, q < H.size → ¬ A1 q → H1[q]? = H[q]?) → va_S A0 H0 H1 locs1 → W p l e R s m args below meth c H1 locs1 (cells + mc) (slots + ms) Q (F0 m (pc + 3) ls (.double r :: rest))) : W p l e R s m args below meth c H locs cells slots Q (F0 m pc ls st0) := by
  intro T hT X
  rcases hr T hT X with ⟨v, st₀, t, T', L, h0, X', hL, e1, e2, ⟨⟨r, u, hv, hp, hb⟩, hF⟩, st⟩ | ⟨q, st₀, t, T', L, E, ce, h0, X', hL, e1, e2, ⟨u, hp, hb, hF⟩, hce, hcv, hcl, st⟩
  · cases hv
    obtain ⟨k1, k2, k3⟩ := vx_keep h0 e1 hS hA hf hL hF
    obtain ⟨t2, a1, b1⟩ := kk r u t T'.heap (locs ++ L) e1.symm (by rw [← e2]; exact X'.warmed.alike) hp hb k1 k2 k3 T' rfl X'
    exact ⟨t2, st t2 a1, b1⟩
  · obtain ⟨k1, k2, k3⟩ := vx_keep h0 e1 hS hAX hf hL hF
    obtain ⟨t2, a1, b1⟩ := kx E ce q u t T'.heap (locs ++ L) e1.symm (by rw [← e2]; exact X'.warmed.alike) hp hb k1 k2 k3 (by rw [e1]; exact hce) hcv hcl T' rfl X'
    exact ⟨t2, st.trans a1, b1⟩
theorem vx_callv {S SX : Type} {post : S → Prop} {px : SX → Prop} {B : S → State → Prop} {BX : String → SX → State → Prop} {AX : Nat → Prop} (hr : vx_Run p l e R s m args below meth c H locs cells slots mc ms (F0 m pc ls st0) rest (va_Qv post B A1 a) (vx_X px BX AX) free) (hS : va_S A0 H0 H locs) (hA : ∀ q, q < H.size → A1 q → A0 q) (hf : ∀ q, free q → A0 q) (hAX : ∀ q, q < H.size → AX q → A0 q)
    (kx : ∀ (E : String) (ce : Cell) (q9 : Addr) (u : SX) (t : State) (H1 : Heap) (locs1 : List Loc), t.heap = H1 → s.vm.Alike t.vm → px u → BX E u t → H.size ≤ H1.size → (∀ q : Nat, q < H.size → ¬ AX q → H1[q]? = H[q]?) → va_S A0 H0 H1 locs1 → H1[q9]? = some ce → ce.vm = .none → s.vm.findClass E = some ce.cls → vx_W p l e R s m args below meth c H1 locs1 (cells + mc) (slots + ms) Q (F0 m pc ls rest) q9)
    (kk : ∀ (u : S) (t : State) (H1 : Heap) (locs1 : List Loc), t.heap = H1 → s.vm.Alike t.vm → post u → B u t → H.size ≤ H1.size → (∀ q : Nat, q < H.size → ¬ A1 q → H1[q]? = H[q]?) → va_S A0 H0 H1 locs1 → W p l e R s m args below meth c H1 locs1 (cells + mc) (slots + ms) Q (F0 m (pc + 3) ls (rest))) : W p l e R s m args below meth c H locs cells slots Q (F0 m pc ls st0) := by
  intro T hT X
  rcases hr T hT X with ⟨v, st₀, t, T', L, h0, X', hL, e1, e2, ⟨⟨u, hv, hp, hb⟩, hF⟩, st⟩ | ⟨q, st₀, t, T', L, E, ce, h0, X', hL, e1, e2, ⟨u, hp, hb, hF⟩, hce, hcv, hcl, st⟩
  · cases hv
    obtain ⟨k1, k2, k3⟩ := vx_keep h0 e1 hS hA hf hL hF
    obtain ⟨t2, a1, b1⟩ := kk u t T'.heap (locs ++ L) e1.symm (by rw [← e2]; exact X'.warmed.alike) hp hb k1 k2 k3 T' rfl X'
    exact ⟨t2, st t2 a1, b1⟩
  · obtain ⟨k1, k2, k3⟩ := vx_keep h0 e1 hS hAX hf hL hF
    obtain ⟨t2, a1, b1⟩ := kx E ce q u t T'.heap (locs ++ L) e1.symm (by rw [← e2]; exact X'.warmed.alike) hp hb k1 k2 k3 (by rw [e1]; exact hce) hcv hcl T' rfl X'
    exact ⟨t2, st.trans a1, b1⟩
/-- caught by the row x of this method's table; the rows ahead don't take it -/
theorem vx_catch {own name : String} {E : String} {ce : Cell} {q : Addr} (hown : s.vm.findClass own = some m.cls) (pre : List ExceptionTableEntry) (x : ExceptionTableEntry) (suf : List ExceptionTableEntry) (hsplit : c.exceptionTable.toList = pre ++ x :: suf)
    (hpass : ∀ z ∈ pre, covers z pc = false ∨ (z.catchType ≠ 0 ∧ ∃ nm : String, (Cond.classLink own z.catchType nm).before args s = true ∧ va_Nc E nm s)) (hx : covers x pc = true) (h0 : x.catchType ≠ 0)
    (hlink : (Cond.classLink own x.catchType name).before args s = true) (hcast : (Cond.castable E name).before args s = true) (hcell : H[q]? = some ce) (hv : ce.vm = .none) (hcl : s.vm.findClass E = some ce.cls)
    (kk : W p l e R s m args below meth c H locs cells slots Q (F0 m x.handlerPc ls [.ref q])) : vx_W p l e R s m args below meth c H locs cells slots Q (F0 m pc ls rest) q := by
  intro T hT X
  have hpl : e.platform.magicAccessors = ({} : Platform).magicAccessors := by rw [X.admits.platform]
  obtain ⟨c3, c4, hc3, hc4, hasg⟩ := Cond.castable_spec hcast
  cases Option.some.inj (hc3.symm.trans hcl)
  obtain ⟨c5, hc5, hcl5⟩ := Cond.classLink_spec hown hlink e.platform hpl
  cases Option.some.inj (hc4.symm.trans hc5)
  obtain ⟨vm', X', st⟩ := X.thenCaughtThrough q (g := F0 m pc ls rest) rfl (Steps.refl _) (by rw [hT]; exact hcell) (by rw [hv]; rfl) (by obtain ⟨k9, h9, -⟩ := Vm.findClass_spec hcl; exact ⟨k9, h9⟩) pre x suf hsplit
    (fun z hz => by
      rcases hpass z hz with h | ⟨hz0, nm, hl1, hn1⟩
      · exact Or.inl h
      · obtain ⟨c6, hc6, hcl6⟩ := Cond.classLink_spec hown hl1 e.platform hpl
        obtain ⟨a8, b8, h1, h2, h3⟩ := hn1
        cases Option.some.inj (h1.symm.trans hcl)
        cases Option.some.inj (h2.symm.trans hc6)
        exact Or.inr ⟨hz0, _, hcl6, h3⟩) hx (Or.inr ⟨h0, c4, hcl5, hasg⟩)
  obtain ⟨t, a1, b1⟩ := kk (T.setVm vm') hT X'
  exact ⟨t, st.trans a1, b1⟩
end Rows
section Ends
variable {p : Program} {l : Launch} {e : Env} {R : Room} {s : State} {m : MethodId} {args : Array Value} {below : List Frame} {meth : Method} {c : Code} {H : Heap} {locs : List Loc} {cells slots : Nat} {Q : State → Prop}
variable {mc ms : Nat} {free : Addr → Prop} {A0 A1 : Nat → Prop} {H0 : Heap} {a : Array Value} {ls : Array Slot} {st0 rest : List Value}
variable {Qc : Array Value → State → Outcome → State → Prop} {XC : String → State → State → Prop}
/-- what a body that may throw owes at its end -/
def vx_MQ (below : List Frame) (Qc : Array Value → State → Outcome → State → Prop) (XC : String → State → State → Prop) (a : Array Value) (s : State) (mc ms : Nat) (free : Addr → Prop) : State → Prop := fun t =>
  ∃ o, t.status = .running ∧ Ended t below o ∧ vx_Q Qc XC mc ms free a s o t
theorem vx_ret {g : JFrame} {mc ms : Nat} (k : W p l e R s m args below meth c H locs cells slots (MQ below Qc args s mc ms free) g) : W p l e R s m args below meth c H locs cells slots (vx_MQ below Qc XC args s mc ms free) g := by
  intro T hT X
  obtain ⟨t, a1, o, b1, b2, b3, b4⟩ := k T hT X
  exact ⟨t, a1, o, b1, b2, Or.inl ⟨b3, b4⟩⟩
/-- not caught here: it goes on to the caller -/
theorem vx_widen {g : JFrame} {q : Addr} {k n : Nat} (h1 : cells ≤ k) (h2 : slots ≤ n) (kk : vx_W p l e R s m args below meth c H locs k n Q g q) : vx_W p l e R s m args below meth c H locs cells slots Q g q := fun T hT X => kk T hT (stand_widen X h1 h2)
theorem vx_out {pc : Nat} {E : String} {ce : Cell} {q : Addr} {mc ms : Nat} (hout : ∀ x ∈ c.exceptionTable.toList, covers x pc = false) (hlocks : meth.locks = false) (hcell : H[q]? = some ce) (hv : ce.vm = .none) (hcl : s.vm.findClass E = some ce.cls)
    (hx : ∀ t : State, t.heap = H → s.vm.Alike t.vm → XC E s t) (hf : ∀ z ∈ locs, free z.base) (hc : cells ≤ mc) (hs : slots ≤ ms) :
    vx_W p l e R s m args below meth c H locs cells slots (vx_MQ below Qc XC args s mc ms free) (F0 m pc ls rest) q := by
  intro T hT X
  obtain ⟨st1, hrun, hend, hW, hsm⟩ := X.leaveThrown q (g := F0 m pc ls rest) rfl rfl rfl hout hlocks
  have hcell9 : (T.setFrames (.throwing q :: below)).heap[q]? = some ce := by
    show T.heap[q]? = some ce
    rw [hT]; exact hcell
  exact ⟨_, st1, .threw q, hrun, hend, Or.inr ⟨q, rfl, E, ce, locs, hx _ hT hW.alike, hcell9, hv, hcl, hW, hsm.mono hc hs, hf⟩⟩
theorem vx_frame {U : State} {k n : Nat} (h : s.sameButNew ({ U with vm := s.vm } : State) locs k n) : s.heap.size ≤ U.heap.size ∧ ∀ q : Nat, q < s.heap.size → (∀ z ∈ locs, z.base ≠ q) → U.heap[q]? = s.heap[q]? := by
  obtain ⟨-, h2, -, -, -, h6⟩ := h
  refine ⟨h2, fun q hq hz => ?_⟩
  obtain ⟨c9, e1, e2, e3, e4⟩ := h6 q _ (Array.getElem?_eq_getElem hq)
  have hs : c9.slots = (s.heap[q]).slots := Array.ext_getElem? fun i => e4 i fun hm => hz _ hm rfl
  have h9 : c9 = s.heap[q] := by
    rw [hs] at e2
    exact e2
  have e5 : U.heap[q]? = some c9 := e1
  rw [e5, h9, Array.getElem?_eq_getElem hq]
/-- the words of a throw but the four that speak of the heap -/
def vx_no (w : Cond) : Bool := decide (w ≠ .isRef (.static Bundle.tN "UNASSIGNED_STACK" Bundle.steD)) && decide (w ≠ .isRef (.static Bundle.tN "SUPPRESSED_SENTINEL" Bundle.listD)) && decide (w ≠ .laysStatic Bundle.tN "UNASSIGNED_STACK" Bundle.steD) && decide (w ≠ .laysStatic Bundle.tN "SUPPRESSED_SENTINEL" Bundle.listD)
def vx_at0 (own : String) (ic : Nat) (X : String) (names : List String) : List Cond := (Bundle.ownAtoms0 own ic X names).filter vx_no
def vx_atS (own : String) (ic : Nat) (X : String) (names : List String) : List Cond := (Bundle.ownAtoms own ic X names).filter vx_no
/-- a word that the tables alone decide, or a good one -/
def vx_ot (w : Cond) : Bool := w.onTables || goodWord w
theorem vx_ot_at {args a' : Array Value} {s U : State} {w : Cond} (hW : s.WarmedH U.vm) (hvm : s.vm = U.vm) (hg : vx_ot w = true) (h : w.before args s = true) : w.before a' U = true := by
  simp only [vx_ot, Bool.or_eq_true] at hg
  rcases hg with hg | hg
  · exact va_tabs hg hvm h
  · exact word_at hW (good_of_word hg) h
/-- a list's words: the good ones out of the method's own list, the others by premises of their own -/
theorem vx_hat {args : Array Value} {s : State} {L B : List Cond} (h1 : ∀ w ∈ L.filter goodWord, w.before args s = true) (h2 : ∀ w ∈ L.filter (fun w => !goodWord w), w ∈ B) (h3 : ∀ w ∈ B, w.before args s = true) : ∀ w ∈ L, w.before args s = true := by
  intro w hw
  by_cases g : goodWord w = true
  · exact h1 w (List.mem_filter.mpr ⟨hw, g⟩)
  · refine h3 w (h2 w (List.mem_filter.mpr ⟨hw, ?_⟩))
    show (!goodWord w) = true
    cases hgw : goodWord w
    · rfl
    · exact absurd hgw g
theorem vx_c {args : Array Value} {s : State} {w : Cond} {B : List Cond} (h : w.before args s = true) (t : ∀ w ∈ B, w.before args s = true) : ∀ w' ∈ w :: B, w'.before args s = true := fun w' h' => (List.mem_cons.mp h').elim (fun e => by rw [e]; exact h) (t w')
theorem vx_n {args : Array Value} {s : State} : ∀ w ∈ ([] : List Cond), w.before args s = true := fun _ h => nomatch h
theorem vx_own {args : Array Value} {s : State} {L : List Cond} (h1 : ∀ w ∈ L.filter vx_no, w.before args s = true)
    (hU : (Cond.isRef (.static Bundle.tN "UNASSIGNED_STACK" Bundle.steD)).before args s = true) (hN : (Cond.isRef (.static Bundle.tN "SUPPRESSED_SENTINEL" Bundle.listD)).before args s = true)
    (lU : (Cond.laysStatic Bundle.tN "UNASSIGNED_STACK" Bundle.steD).before args s = true) (lN : (Cond.laysStatic Bundle.tN "SUPPRESSED_SENTINEL" Bundle.listD).before args s = true) : ∀ w ∈ L, w.before args s = true := by
  intro w hw
  by_cases e1 : w = .isRef (.static Bundle.tN "UNASSIGNED_STACK" Bundle.steD)
  · rw [e1]; exact hU
  · by_cases e2 : w = .isRef (.static Bundle.tN "SUPPRESSED_SENTINEL" Bundle.listD)
    · rw [e2]; exact hN
    · by_cases e3 : w = .laysStatic Bundle.tN "UNASSIGNED_STACK" Bundle.steD
      · rw [e3]; exact lU
      · by_cases e4 : w = .laysStatic Bundle.tN "SUPPRESSED_SENTINEL" Bundle.listD
        · rw [e4]; exact lN
        · exact h1 w (List.mem_filter.mpr ⟨hw, by unfold vx_no; rw [decide_eq_true e1, decide_eq_true e2, decide_eq_true e3, decide_eq_true e4]; rfl⟩)
/-- where a static field lies, its class's statics cell in H -/
def vx_L (C n d : String) (A : Nat → Prop) (U : State) (H : Heap) : Prop := ∃ (c : ClassId) (k : Class) (i : Nat) (f : Field) (a : Nat) (cell : Cell), U.vm.findClass C = some c ∧ U.fieldFound? C n d = some (c, k, i, f) ∧ f.isStatic = true ∧ k.statics = some a ∧ H[a]? = some cell ∧ cell.vm.isStatics = true ∧ cell.cls = c ∧ f.slot < cell.slots.size ∧ k.staticTypes[f.slot]? = some f.type ∧ ¬ A a
theorem vx_L.moved {C n d : String} {A : Nat → Prop} {u U : State} {H : Heap} (hvm : u.vm.Alike U.vm) (h : vx_L C n d A u H) : vx_L C n d A U H := by
  obtain ⟨c, k, i, f, a, cell, h1, h2, h3, h4, h5, h6, h7, h8, h9, h10⟩ := h
  obtain ⟨k', hi', he⟩ := State.fieldFound?_setVm hvm h2
  exact ⟨c, k', i, f, a, cell, by rw [hvm.findClass]; exact h1, hi', h3, by rw [he]; exact h4, h5, h6, h7, h8, by rw [he]; exact h9, h10⟩
theorem vx_L.kept {C n d : String} {A : Nat → Prop} {U : State} {H H1 : Heap} (h : vx_L C n d A U H) (hq : ∀ a : Nat, a < H.size → ¬ A a → H1[a]? = H[a]?) : vx_L C n d A U H1 := by
  obtain ⟨c, k, i, f, a, cell, h1, h2, h3, h4, h5, h6, h7, h8, h9, h10⟩ := h
  exact ⟨c, k, i, f, a, cell, h1, h2, h3, h4, by rw [hq a (Array.getElem?_eq_some_iff.mp h5).1 h10]; exact h5, h6, h7, h8, h9, h10⟩
theorem vx_L.narrow {C n d : String} {A B : Nat → Prop} {U : State} {H : Heap} (h : vx_L C n d A U H) (hAB : ∀ q, B q → A q) : vx_L C n d B U H := by
  obtain ⟨c, k, i, f, a, cell, h1, h2, h3, h4, h5, h6, h7, h8, h9, h10⟩ := h
  exact ⟨c, k, i, f, a, cell, h1, h2, h3, h4, h5, h6, h7, h8, h9, fun z => h10 (hAB _ z)⟩
theorem vx_L.word {C n d : String} {A : Nat → Prop} {s : State} {args : Array Value} (h : vx_L C n d A s s.heap) : (Cond.laysStatic C n d).before args s = true := by
  obtain ⟨c, k, i, f, a, cell, h1, h2, h3, h4, h5, h6, h7, h8, h9, -⟩ := h
  show (Cond.laysStatic C n d).holds args s none s [] = true
  exact Cond.laysStatic_of h1 h2 h3 h4 h5 h6 h7 h8 h9
/-- .. and what it holds: null or some reference -/
def vx_Zq (C n d : String) (A : Nat → Prop) (U : State) (H : Heap) : Prop := va_Zq C n d A U H ∧ vx_L C n d A U H
theorem vx_Zq.moved {C n d : String} {A : Nat → Prop} {u U : State} {H : Heap} (hvm : u.vm.Alike U.vm) (h : vx_Zq C n d A u H) : vx_Zq C n d A U H := ⟨va_Zq.moved hvm h.1, vx_L.moved hvm h.2⟩
theorem vx_Zq.kept {C n d : String} {A : Nat → Prop} {U : State} {H H1 : Heap} (h : vx_Zq C n d A U H) (hq : ∀ a : Nat, a < H.size → ¬ A a → H1[a]? = H[a]?) : vx_Zq C n d A U H1 := ⟨va_Zq.kept h.1 hq, vx_L.kept h.2 hq⟩
theorem vx_Zq.narrow {C n d : String} {A B : Nat → Prop} {U : State} {H : Heap} (h : vx_Zq C n d A U H) (hAB : ∀ q, B q → A q) : vx_Zq C n d B U H := ⟨va_Zq.narrow h.1 hAB, vx_L.narrow h.2 hAB⟩
theorem vx_Zqof {args : Array Value} {s : State} {C n d : String} {A : Nat → Prop} (hl : (Cond.laysStatic C n d).before args s = true) (hini : (Cond.initialized C).before args s = true) (h : (Cond.isRef (.static C n d)).before args s = true) (hA : ∀ a : Nat, a < s.heap.size → ¬ A a) : vx_Zq C n d A s s.heap := by
  refine ⟨va_Zqof hl hini h hA, ?_⟩
  obtain ⟨c, k, i, f, a, cell, h1, h2, h3, h4, h5, h6, h7, h8, h9⟩ := Cond.laysStatic_spec hl
  exact ⟨c, k, i, f, a, cell, h1, h2, h3, h4, h5, h6, h7, h8, h9, hA a (Array.getElem?_eq_some_iff.mp h5).1⟩
theorem vx_isRef {C n d : String} {v : Value} {A : Nat → Prop} {s : State} {args : Array Value} (h : va_Z C n d v A s s.heap) (hv : v.isRef = true) : (Cond.isRef (.static C n d)).before args s = true := by
  obtain ⟨cf, kf, fi, f, a, cell, h1, h2, h3, h4, h5, h6, h7, -⟩ := h
  have he : (Term.static C n d).eval args s none [] s = some v := by
    simp [Term.eval, State.fieldNamed?, h1, h2, h4, h5, h6, h7]
  simp only [Cond.before, Cond.holds, Cond.value, he]
  cases v <;> simp_all [Value.isRef]
theorem vx_isRefq {C n d : String} {A : Nat → Prop} {s : State} {args : Array Value} (h : va_Zq C n d A s s.heap) : (Cond.isRef (.static C n d)).before args s = true := by
  rcases h with h | ⟨t, h⟩
  · exact vx_isRef h rfl
  · exact vx_isRef h rfl
/-- the same frame, seen from here: as if the method were called anew in this heap -/
theorem vx_rebase {T : State} (X : Stand p l e R s m args below meth c T locs cells slots) {R' : Room} (hf : R'.frames ≤ R.frames) (hl : R'.locals ≤ R.locals) (hc : cells + R'.cells ≤ R.cells) (hs : slots + R'.slots ≤ R.slots) :
    Stand p l e R' ((T.setVm s.vm).setFrames (.invoking m args :: below)) m args below meth c T [] 0 0 := by
  have htop : (T.setVm s.vm).topJava?.isSome := X.here.top
  have hF : ((T.setVm s.vm).setFrames (.invoking m args :: below)).frames = .invoking m args :: below := State.frames_setFrames _ (State.cur_lt_of_top htop)
  obtain ⟨g₀, hg0⟩ := Option.isSome_iff_exists.mp htop
  obtain ⟨r, hr⟩ := State.topJava?_eq_some.mp hg0
  have hl9 : e.platform.stackLimits (T.setVm s.vm).me = e.platform.stackLimits s.me := X.limits
  have hb9 : (T.setVm s.vm).me.stackBytes = s.me.stackBytes := X.bytes
  refine ⟨X.admits, X.cas, X.clock, hF, ?_, X.hears, X.method, X.code, X.here, X.tail, X.warmed, ?_, ?_, ?_⟩
  · have h := X.room
    have hU : ((T.setVm s.vm).setFrames (.invoking m args :: below)).localsInUse = s.localsInUse := by
      rw [State.localsInUse_invoking hF (meth := meth) (c := c) X.method X.code, State.localsInUse_invoking X.frames X.method X.code]
    simp only [State.hasRoom, Bool.and_eq_true, decide_eq_true_eq] at h ⊢
    obtain ⟨⟨⟨⟨h1, h2, h3, h4, h5, h6⟩, h7⟩, h8⟩, h9⟩ := h
    rw [X.frames, List.length_cons] at h2 h3
    have q1 := X.heapSize
    have q2 := X.used
    simp only [hF, hU, List.length_cons, State.stackLimits_setFrames, State.stackBytes_setFrames, hl9, hb9]
    refine ⟨⟨⟨⟨by omega, by omega, by omega, by omega, by omega, h6⟩, ?_⟩, ?_⟩, X.book⟩
    · show T.heap.size + R'.cells ≤ e.platform.maxCells
      omega
    · show T.slotsUsed + R'.slots ≤ e.platform.maxSlots
      omega
  · rw [State.stackLimits_setFrames]; rfl
  · rw [State.stackBytes_setFrames]; rfl
  · refine ⟨?_, Nat.le_refl _, Nat.le_refl _, ?_, ?_, fun a c9 h9 => ⟨c9, h9, rfl, rfl, fun _ _ => rfl⟩⟩
    · obtain ⟨t, ht, -⟩ := State.frames_cons hr
      show T.setVm s.vm = { ((T.setVm s.vm).setFrames (.invoking m args :: below)).setFrames (T.setVm s.vm).frames with heap := T.heap, slotsUsed := T.slotsUsed }
      rw [State.setFrames_setFrames, State.setFrames_self ht]
      rfl
    · show T.slotsUsed = T.slotsUsed + ((T.heap.toList.drop T.heap.size).map (·.slots.size)).sum
      rw [List.drop_eq_nil_of_le (Nat.le_of_eq Array.length_toList)]
      rfl
    · show ((T.heap.toList.drop T.heap.size).map (·.slots.size)).sum ≤ 0
      rw [List.drop_eq_nil_of_le (Nat.le_of_eq Array.length_toList)]
      exact Nat.le_refl _
/-- 'throw new E()': new; dup; invokespecial; athrow -/
theorem vx_throw0 {cc : ByteArray} {pc : Nat} (hexec : p.tables.exec = Jvm.exec) (hb : c.code = cc) (hl : l.stackTraces = false) {own cls : String} {names : List String} {ik ic mc ms : Nat} {A : Nat → Prop}
    (hown : s.vm.findClass own = some m.cls) (hcls : Bundle.fit cls = true) (hnames : ∀ n ∈ names, Bundle.fit n = true)
    (hk : (Cond.classLink own ik cls).before args s = true) (hini : (Cond.initialized cls).before args s = true) (hat : ∀ w ∈ vx_at0 own ic cls names, w.before args s = true)
    (hgood : ∀ w ∈ Cond.classLink own ik cls :: Cond.initialized cls :: vx_at0 own ic cls names, vx_ot w = true)
    (hU : vx_Zq Bundle.tN "UNASSIGNED_STACK" Bundle.steD A s s.heap) (hN : vx_Zq Bundle.tN "SUPPRESSED_SENTINEL" Bundle.listD A s s.heap) (hS : va_S A s.heap H locs) (hsize : ls.size = c.maxLocals)
    (d0 : decode cc pc = .ok (.new ik, 3)) (d3 : decode cc (pc + 3) = .ok (.dup, 1)) (d4 : decode cc (pc + 4) = .ok (.invokespecial ic, 3)) (d7 : decode cc (pc + 7) = .ok (.athrow, 1))
    (hout : ∀ x ∈ c.exceptionTable.toList, covers x (pc + 7) = false)
    (hRframes : names.length + 3 < R.frames) (hRlocals : (rest.map fun v => v.category).sum + (13 * (names.length + 1) + 42) ≤ R.locals) (hRcells : cells + 1 ≤ R.cells) (hRslots : slots + 6 ≤ R.slots) (hlocks : meth.locks = false)
    (hx : ∀ t : State, s.vm.Alike t.vm → H.size ≤ t.heap.size → (∀ q : Nat, q < H.size → t.heap[q]? = H[q]?) → XC cls s t)
    (hf : ∀ z ∈ locs, free z.base) (hc : cells + 1 ≤ mc) (hs : slots + 6 ≤ ms) :
    W p l e R s m args below meth c H locs cells slots (vx_MQ below Qc XC args s mc ms free) (F0 m pc ls rest) := by
  intro T hT X
  have htr : e.platform.stackTraces = false := (show e.platform.stackTraces = l.stackTraces by rw [X.admits.platform]).trans hl
  have Y := vx_rebase X (R' := { frames := R.frames, locals := R.locals, cells := 1, slots := 6 }) (Nat.le_refl _) (Nat.le_refl _) hRcells hRslots
  obtain ⟨s', hA⟩ : ∃ z, z = (T.setVm s.vm).setFrames (.invoking m args :: below) := ⟨_, rfl⟩
  rw [← hA] at Y
  have hvm : s'.vm = s.vm := by rw [hA]; rfl
  have hhp : s'.heap = H := by rw [hA]; exact hT
  have hW0 : s.WarmedH s'.vm := by rw [hvm]; exact State.WarmedH.refl s
  have hat' : ∀ w ∈ vx_at0 own ic cls names, w.before args s' = true := fun w hw => vx_ot_at hW0 hvm.symm (hgood w (List.mem_cons_of_mem _ (List.mem_cons_of_mem _ hw))) (hat w hw)
  have hk' : (Cond.classLink own ik cls).before args s' = true := vx_ot_at hW0 hvm.symm (hgood _ List.mem_cons_self) hk
  have hini' : (Cond.initialized cls).before args s' = true := vx_ot_at hW0 hvm.symm (hgood _ (List.mem_cons_of_mem _ List.mem_cons_self)) hini
  have hU' : vx_Zq Bundle.tN "UNASSIGNED_STACK" Bundle.steD A s' s'.heap := by rw [hhp]; exact vx_Zq.moved hW0.alike (hU.kept hS.2.1)
  have hN' : vx_Zq Bundle.tN "SUPPRESSED_SENTINEL" Bundle.listD A s' s'.heap := by rw [hhp]; exact vx_Zq.moved hW0.alike (hN.kept hS.2.1)
  have h : ∀ w ∈ Bundle.ownAtoms0 own ic cls names, w.before args s' = true := vx_own hat' (vx_isRefq hU'.1) (vx_isRefq hN'.1) hU'.2.word hN'.2.word
  have hown' : s'.vm.findClass own = some m.cls := by rw [hvm]; exact hown
  have hins : (Cond.instantiable cls 6).before args s' = true := h _ (by simp [Bundle.ownAtoms0])
  obtain ⟨vm₁, cX, kX, hfX, hkX, -, -, X₁, st1⟩ := Y.newCold hexec (own := own) (C := cls) (index := ik) (n := 6) hown' hk' hins hini'
    (g := F0 m pc ls rest) rfl (by rw [hb]; exact d0) (Nat.le_refl _) (Nat.le_refl _)
  generalize hT1 : (T.setVm vm₁).pushCell { cls := cX, slots := kX.instanceTypes.map defaultValue, vm := .none } = T1 at X₁ st1
  have hcat : (Value.ref T.heap.size).category = 1 := rfl
  have hcellA : T1.heap[T.heap.size]? = some (freshCell cX kX) := by rw [← hT1]; exact State.heap_pushCell_size _ _
  have d3' : decode c.code (pc + 3) = .ok (.dup, 1) := by rw [hb]; exact d3
  obtain ⟨U, hsteps, hrun, hend, hW, hsame, ce, hce, hO⟩ := X₁.ctorThrow0 hexec htr (own := own) (cls := cls) (names := names) (ic := ic) hown' hcls hnames h (fun x hx => nomatch hx) hfX hkX hcellA (by rw [hhp, hT]; exact Nat.le_refl _)
    (g := { method := m, pc := pc + 4, locals := ls, stack := .ref T.heap.size :: .ref T.heap.size :: rest, locked := none }) rfl hsize rfl rfl (rest := rest) rfl
    (by rw [hb]; exact d4) (by rw [hb]; exact d7) hout hRframes (by simp only [List.map_cons, List.sum_cons, hcat]; omega) hlocks
  obtain ⟨f1, f2⟩ := vx_frame hsame
  rw [hhp] at f1 f2
  have hWs : s.WarmedH U.vm := State.WarmedH.trans hW0 hW
  have hcl : s.vm.findClass cls = some ce.cls := by
    have h9 := hO.cls
    rw [hvm] at h9
    exact h9
  have hall : s.sameButNew ({ U with vm := s.vm } : State) locs mc ms := by
    subst hA
    obtain ⟨e1, e2⟩ := hsame
    rw [State.setFrames_setFrames] at e1
    have h2 : (T.setVm s.vm).sameButNew ({ U with vm := s.vm } : State) [] (0 + 1) (0 + 6) := ⟨e1, e2⟩
    have h3 := X.same.trans h2
    rw [List.append_nil] at h3
    exact h3.mono hc hs
  refine ⟨U, ?_, .threw T.heap.size, hrun, hend, Or.inr ⟨T.heap.size, rfl, cls, ce, locs, hx U hWs.alike f1 (fun q hq => f2 q hq (fun z hz => nomatch hz)), hce, hO.vm, hcl, hWs, hall, hf⟩⟩
  refine st1 _ ?_
  show Steps p.tables e below (T1.setTop { method := m, pc := pc + 3, locals := ls, stack := .ref T.heap.size :: rest, locked := none }) _
  jvm_step X₁.here [X₁.here.top, hexec, d3', Value.category]
  exact hsteps
/-- 'throw new E("text")': new; dup; ldc; invokespecial; athrow -/
theorem vx_throwS {cc : ByteArray} {pc : Nat} (hexec : p.tables.exec = Jvm.exec) (hb : c.code = cc) (hl : l.stackTraces = false) {own cls text : String} {names : List String} {ik is ic mc ms sa : Nat} {A : Nat → Prop}
    (hown : s.vm.findClass own = some m.cls) (hcls : Bundle.fit cls = true) (hnames : ∀ n ∈ names, Bundle.fit n = true)
    (hk : (Cond.classLink own ik cls).before args s = true) (hini : (Cond.initialized cls).before args s = true) (hstr : vk_R own is text sa s) (hat : ∀ w ∈ vx_atS own ic cls names, w.before args s = true)
    (hgood : ∀ w ∈ Cond.classLink own ik cls :: Cond.initialized cls :: vx_atS own ic cls names, vx_ot w = true)
    (hU : vx_Zq Bundle.tN "UNASSIGNED_STACK" Bundle.steD A s s.heap) (hN : vx_Zq Bundle.tN "SUPPRESSED_SENTINEL" Bundle.listD A s s.heap) (hS : va_S A s.heap H locs) (hsize : ls.size = c.maxLocals)
    (d0 : decode cc pc = .ok (.new ik, 3)) (d3 : decode cc (pc + 3) = .ok (.dup, 1)) (d4 : decode cc (pc + 4) = .ok (.ldc is, 2)) (d6 : decode cc (pc + 6) = .ok (.invokespecial ic, 3)) (d9 : decode cc (pc + 9) = .ok (.athrow, 1))
    (hout : ∀ x ∈ c.exceptionTable.toList, covers x (pc + 9) = false)
    (hRframes : names.length + 3 < R.frames) (hRlocals : (rest.map fun v => v.category).sum + (13 * (names.length + 1) + 43) ≤ R.locals) (hRcells : cells + 1 ≤ R.cells) (hRslots : slots + 6 ≤ R.slots) (hlocks : meth.locks = false)
    (hx : ∀ t : State, s.vm.Alike t.vm → H.size ≤ t.heap.size → (∀ q : Nat, q < H.size → t.heap[q]? = H[q]?) → XC cls s t)
    (hf : ∀ z ∈ locs, free z.base) (hc : cells + 1 ≤ mc) (hs : slots + 6 ≤ ms) :
    W p l e R s m args below meth c H locs cells slots (vx_MQ below Qc XC args s mc ms free) (F0 m pc ls rest) := by
  intro T hT X
  have htr : e.platform.stackTraces = false := (show e.platform.stackTraces = l.stackTraces by rw [X.admits.platform]).trans hl
  have Y := vx_rebase X (R' := { frames := R.frames, locals := R.locals, cells := 1, slots := 6 }) (Nat.le_refl _) (Nat.le_refl _) hRcells hRslots
  obtain ⟨s', hA⟩ : ∃ z, z = (T.setVm s.vm).setFrames (.invoking m args :: below) := ⟨_, rfl⟩
  rw [← hA] at Y
  have hvm : s'.vm = s.vm := by rw [hA]; rfl
  have hhp : s'.heap = H := by rw [hA]; exact hT
  have hW0 : s.WarmedH s'.vm := by rw [hvm]; exact State.WarmedH.refl s
  have hat' : ∀ w ∈ vx_atS own ic cls names, w.before args s' = true := fun w hw => vx_ot_at hW0 hvm.symm (hgood w (List.mem_cons_of_mem _ (List.mem_cons_of_mem _ hw))) (hat w hw)
  have hk' : (Cond.classLink own ik cls).before args s' = true := vx_ot_at hW0 hvm.symm (hgood _ List.mem_cons_self) hk
  have hini' : (Cond.initialized cls).before args s' = true := vx_ot_at hW0 hvm.symm (hgood _ (List.mem_cons_of_mem _ List.mem_cons_self)) hini
  have hU' : vx_Zq Bundle.tN "UNASSIGNED_STACK" Bundle.steD A s' s'.heap := by rw [hhp]; exact vx_Zq.moved hW0.alike (hU.kept hS.2.1)
  have hN' : vx_Zq Bundle.tN "SUPPRESSED_SENTINEL" Bundle.listD A s' s'.heap := by rw [hhp]; exact vx_Zq.moved hW0.alike (hN.kept hS.2.1)
  have h : ∀ w ∈ Bundle.ownAtoms own ic cls names, w.before args s' = true := vx_own hat' (vx_isRefq hU'.1) (vx_isRefq hN'.1) hU'.2.word hN'.2.word
  have hown' : s'.vm.findClass own = some m.cls := by rw [hvm]; exact hown
  have hins : (Cond.instantiable cls 6).before args s' = true := h _ (by simp [Bundle.ownAtoms])
  obtain ⟨vm₁, cX, kX, hfX, hkX, -, -, X₁, st1⟩ := Y.newCold hexec (own := own) (C := cls) (index := ik) (n := 6) hown' hk' hins hini'
    (g := F0 m pc ls rest) rfl (by rw [hb]; exact d0) (Nat.le_refl _) (Nat.le_refl _)
  generalize hT1 : (T.setVm vm₁).pushCell { cls := cX, slots := kX.instanceTypes.map defaultValue, vm := .none } = T1 at X₁ st1
  have hcat : (Value.ref T.heap.size).category = 1 := rfl
  have hcellA : T1.heap[T.heap.size]? = some (freshCell cX kX) := by rw [← hT1]; exact State.heap_pushCell_size _ _
  have d3' : decode c.code (pc + 3) = .ok (.dup, 1) := by rw [hb]; exact d3
  have d4' : decode c.code (pc + 4) = .ok (.ldc is, 2) := by rw [hb]; exact d4
  have hstr' : vk_R own is text sa s' := vk_R.warm hW0 hstr
  obtain ⟨U, hsteps, hrun, hend, hW, hsame, ce, hce, hO⟩ := X₁.ctorThrowS hexec htr (own := own) (cls := cls) (names := names) (ic := ic) hown' hcls hnames h (fun x hx => nomatch hx) hfX hkX hcellA (by rw [hhp, hT]; exact Nat.le_refl _) (msg := .ref sa) rfl
    (g := { method := m, pc := pc + 6, locals := ls, stack := .ref sa :: .ref T.heap.size :: .ref T.heap.size :: rest, locked := none }) rfl hsize rfl rfl (rest := rest) rfl
    (by rw [hb]; exact d6) (by rw [hb]; exact d9) hout hRframes (by simp only [List.map_cons, List.sum_cons, hcat]; omega) hlocks
  obtain ⟨f1, f2⟩ := vx_frame hsame
  rw [hhp] at f1 f2
  have hWs : s.WarmedH U.vm := State.WarmedH.trans hW0 hW
  have hcl : s.vm.findClass cls = some ce.cls := by
    have h9 := hO.cls
    rw [hvm] at h9
    exact h9
  have hall : s.sameButNew ({ U with vm := s.vm } : State) locs mc ms := by
    subst hA
    obtain ⟨e1, e2⟩ := hsame
    rw [State.setFrames_setFrames] at e1
    have h2 : (T.setVm s.vm).sameButNew ({ U with vm := s.vm } : State) [] (0 + 1) (0 + 6) := ⟨e1, e2⟩
    have h3 := X.same.trans h2
    rw [List.append_nil] at h3
    exact h3.mono hc hs
  refine ⟨U, ?_, .threw T.heap.size, hrun, hend, Or.inr ⟨T.heap.size, rfl, cls, ce, locs, hx U hWs.alike f1 (fun q hq => f2 q hq (fun z hz => nomatch hz)), hce, hO.vm, hcl, hWs, hall, hf⟩⟩
  refine st1 _ ?_
  show Steps p.tables e below (T1.setTop { method := m, pc := pc + 3, locals := ls, stack := .ref T.heap.size :: rest, locked := none }) _
  jvm_step X₁.here [X₁.here.top, hexec, d3', Value.category]
  exact X₁.ldcString hexec (own := own) (text := text) (index := is) (a := sa) hown' hstr'.1 hstr'.2
    (g := { method := m, pc := pc + 4, locals := ls, stack := .ref T.heap.size :: .ref T.heap.size :: rest, locked := none }) rfl d4' _ hsteps
/-- 'throw new E("text")', the text by a wide index -/
theorem vx_throwSW {cc : ByteArray} {pc : Nat} (hexec : p.tables.exec = Jvm.exec) (hb : c.code = cc) (hl : l.stackTraces = false) {own cls text : String} {names : List String} {ik is ic mc ms sa : Nat} {A : Nat → Prop}
    (hown : s.vm.findClass own = some m.cls) (hcls : Bundle.fit cls = true) (hnames : ∀ n ∈ names, Bundle.fit n = true)
    (hk : (Cond.classLink own ik cls).before args s = true) (hini : (Cond.initialized cls).before args s = true) (hstr : vk_R own is text sa s) (hat : ∀ w ∈ vx_atS own ic cls names, w.before args s = true)
    (hgood : ∀ w ∈ Cond.classLink own ik cls :: Cond.initialized cls :: vx_atS own ic cls names, vx_ot w = true)
    (hU : vx_Zq Bundle.tN "UNASSIGNED_STACK" Bundle.steD A s s.heap) (hN : vx_Zq Bundle.tN "SUPPRESSED_SENTINEL" Bundle.listD A s s.heap) (hS : va_S A s.heap H locs) (hsize : ls.size = c.maxLocals)
    (d0 : decode cc pc = .ok (.new ik, 3)) (d3 : decode cc (pc + 3) = .ok (.dup, 1)) (d4 : decode cc (pc + 4) = .ok (.ldc_w is, 3)) (d7 : decode cc (pc + 7) = .ok (.invokespecial ic, 3)) (d10 : decode cc (pc + 10) = .ok (.athrow, 1))
    (hout : ∀ x ∈ c.exceptionTable.toList, covers x (pc + 10) = false)
    (hRframes : names.length + 3 < R.frames) (hRlocals : (rest.map fun v => v.category).sum + (13 * (names.length + 1) + 43) ≤ R.locals) (hRcells : cells + 1 ≤ R.cells) (hRslots : slots + 6 ≤ R.slots) (hlocks : meth.locks = false)
    (hx : ∀ t : State, s.vm.Alike t.vm → H.size ≤ t.heap.size → (∀ q : Nat, q < H.size → t.heap[q]? = H[q]?) → XC cls s t)
    (hf : ∀ z ∈ locs, free z.base) (hc : cells + 1 ≤ mc) (hs : slots + 6 ≤ ms) :
    W p l e R s m args below meth c H locs cells slots (vx_MQ below Qc XC args s mc ms free) (F0 m pc ls rest) := by
  intro T hT X
  have htr : e.platform.stackTraces = false := (show e.platform.stackTraces = l.stackTraces by rw [X.admits.platform]).trans hl
  have Y := vx_rebase X (R' := { frames := R.frames, locals := R.locals, cells := 1, slots := 6 }) (Nat.le_refl _) (Nat.le_refl _) hRcells hRslots
  obtain ⟨s', hA⟩ : ∃ z, z = (T.setVm s.vm).setFrames (.invoking m args :: below) := ⟨_, rfl⟩
  rw [← hA] at Y
  have hvm : s'.vm = s.vm := by rw [hA]; rfl
  have hhp : s'.heap = H := by rw [hA]; exact hT
  have hW0 : s.WarmedH s'.vm := by rw [hvm]; exact State.WarmedH.refl s
  have hat' : ∀ w ∈ vx_atS own ic cls names, w.before args s' = true := fun w hw => vx_ot_at hW0 hvm.symm (hgood w (List.mem_cons_of_mem _ (List.mem_cons_of_mem _ hw))) (hat w hw)
  have hk' : (Cond.classLink own ik cls).before args s' = true := vx_ot_at hW0 hvm.symm (hgood _ List.mem_cons_self) hk
  have hini' : (Cond.initialized cls).before args s' = true := vx_ot_at hW0 hvm.symm (hgood _ (List.mem_cons_of_mem _ List.mem_cons_self)) hini
  have hU' : vx_Zq Bundle.tN "UNASSIGNED_STACK" Bundle.steD A s' s'.heap := by rw [hhp]; exact vx_Zq.moved hW0.alike (hU.kept hS.2.1)
  have hN' : vx_Zq Bundle.tN "SUPPRESSED_SENTINEL" Bundle.listD A s' s'.heap := by rw [hhp]; exact vx_Zq.moved hW0.alike (hN.kept hS.2.1)
  have h : ∀ w ∈ Bundle.ownAtoms own ic cls names, w.before args s' = true := vx_own hat' (vx_isRefq hU'.1) (vx_isRefq hN'.1) hU'.2.word hN'.2.word
  have hown' : s'.vm.findClass own = some m.cls := by rw [hvm]; exact hown
  have hins : (Cond.instantiable cls 6).before args s' = true := h _ (by simp [Bundle.ownAtoms])
  obtain ⟨vm₁, cX, kX, hfX, hkX, -, -, X₁, st1⟩ := Y.newCold hexec (own := own) (C := cls) (index := ik) (n := 6) hown' hk' hins hini'
    (g := F0 m pc ls rest) rfl (by rw [hb]; exact d0) (Nat.le_refl _) (Nat.le_refl _)
  generalize hT1 : (T.setVm vm₁).pushCell { cls := cX, slots := kX.instanceTypes.map defaultValue, vm := .none } = T1 at X₁ st1
  have hcat : (Value.ref T.heap.size).category = 1 := rfl
  have hcellA : T1.heap[T.heap.size]? = some (freshCell cX kX) := by rw [← hT1]; exact State.heap_pushCell_size _ _
  have d3' : decode c.code (pc + 3) = .ok (.dup, 1) := by rw [hb]; exact d3
  have d4' : decode c.code (pc + 4) = .ok (.ldc_w is, 3) := by rw [hb]; exact d4
  have hstr' : vk_R own is text sa s' := vk_R.warm hW0 hstr
  obtain ⟨U, hsteps, hrun, hend, hW, hsame, ce, hce, hO⟩ := X₁.ctorThrowS hexec htr (own := own) (cls := cls) (names := names) (ic := ic) hown' hcls hnames h (fun x hx => nomatch hx) hfX hkX hcellA (by rw [hhp, hT]; exact Nat.le_refl _) (msg := .ref sa) rfl
    (g := { method := m, pc := pc + 7, locals := ls, stack := .ref sa :: .ref T.heap.size :: .ref T.heap.size :: rest, locked := none }) rfl hsize rfl rfl (rest := rest) rfl
    (by rw [hb]; exact d7) (by rw [hb]; exact d10) hout hRframes (by simp only [List.map_cons, List.sum_cons, hcat]; omega) hlocks
  obtain ⟨f1, f2⟩ := vx_frame hsame
  rw [hhp] at f1 f2
  have hWs : s.WarmedH U.vm := State.WarmedH.trans hW0 hW
  have hcl : s.vm.findClass cls = some ce.cls := by
    have h9 := hO.cls
    rw [hvm] at h9
    exact h9
  have hall : s.sameButNew ({ U with vm := s.vm } : State) locs mc ms := by
    subst hA
    obtain ⟨e1, e2⟩ := hsame
    rw [State.setFrames_setFrames] at e1
    have h2 : (T.setVm s.vm).sameButNew ({ U with vm := s.vm } : State) [] (0 + 1) (0 + 6) := ⟨e1, e2⟩
    have h3 := X.same.trans h2
    rw [List.append_nil] at h3
    exact h3.mono hc hs
  refine ⟨U, ?_, .threw T.heap.size, hrun, hend, Or.inr ⟨T.heap.size, rfl, cls, ce, locs, hx U hWs.alike f1 (fun q hq => f2 q hq (fun z hz => nomatch hz)), hce, hO.vm, hcl, hWs, hall, hf⟩⟩
  refine st1 _ ?_
  show Steps p.tables e below (T1.setTop { method := m, pc := pc + 3, locals := ls, stack := .ref T.heap.size :: rest, locked := none }) _
  jvm_step X₁.here [X₁.here.top, hexec, d3', Value.category]
  exact X₁.ldcStringW hexec (own := own) (text := text) (index := is) (a := sa) hown' hstr'.1 hstr'.2
    (g := { method := m, pc := pc + 4, locals := ls, stack := .ref T.heap.size :: .ref T.heap.size :: rest, locked := none }) rfl d4' _ hsteps
end Ends
section Bodies
variable {l : Launch}
theorem vx_ofW {y : MethodName} {ws ws' : List Cond} {rm : Room} {Pc : Array Value → State → Prop} {Qc : Array Value → State → Outcome → State → Prop} {XC : String → State → State → Prop} {mc ms : Nat} {free : Addr → Prop} {cc : ByteArray} {maxL : Nat} {ret : Option FieldType}
    (hy : plainName y.cls = true) (hw : ws = Cond.code y cc maxL ret :: ws')
    (body : ∀ p e s m args below meth c s₁, BodyLoose p l y (headSpec ws rm) cc maxL ret e s m args below meth c s₁ → c.maxLocals = maxL → (∀ x ∈ c.exceptionTable.toList, False) → Pc args s →
      W p l e (headSpec ws rm).room s m args below meth c s.heap [] 0 0 (vx_MQ below Qc XC args s mc ms free) (entryFrame m args maxL)) : vx_Met l y ws rm Pc Qc XC mc ms free := by
  refine MetFree.of_bodyS (code := cc) (maxLocals := maxL) (ret := ret) hy ?_ ?_
  · intro args s m h hn
    obtain ⟨meth, c, h1, h2, h3, h4, h5, h6, -, -⟩ := Cond.code_spec hn (atoms_spec (ws := ws) h _ (by rw [hw]; exact List.mem_cons_self))
    exact ⟨meth, c, h1, h2, h3, h4, h5, h6⟩
  · intro p e s m args below meth c s₁ B hml hP _
    have hh0 : s₁.heap = s.heap := by rw [B.state]; rfl
    have ht : ∀ x ∈ c.exceptionTable.toList, False := by
      obtain ⟨meth9, c9, h1, h2, -, -, -, -, h7, -⟩ := Cond.code_spec B.named (atoms_spec (ws := ws) B.pre _ (by rw [hw]; exact List.mem_cons_self))
      cases Option.some.inj (h1.symm.trans B.method)
      cases Option.some.inj (h2.symm.trans (Stand.of_body B).code)
      intro x hx
      rw [Array.isEmpty_iff.mp h7] at hx
      cases hx
    obtain ⟨t, a1, o, b1, b2, b3⟩ := body p e s m args below meth c s₁ B hml ht hP s₁ hh0 (Stand.of_body B)
    exact ⟨t, o, a1, b1, b2, b3⟩
/-- the table of a body with handlers -/
theorem vx_table {p : Program} {x y : MethodName} {S : Spec} {cc bytes : ByteArray} {maxL maxL' : Nat} {ret ret' : Option FieldType} {e : Env} {s s₁ : State} {m : MethodId} {args : Array Value} {below : List Frame} {meth : Method} {c : Code} {hh : List (Nat × Nat × Nat × Nat)}
    (B : BodyLoose p l y S cc maxL ret e s m args below meth c s₁) (h : (Cond.codeWith y bytes maxL' ret' hh).before args s = true) : c.exceptionTable.toList = tableOf hh := by
  obtain ⟨m9, meth9, c9, hn9, h1, h2, -, -, h6, -⟩ := Cond.codeWith_spec h
  cases Option.some.inj (hn9.symm.trans B.named)
  cases Option.some.inj (h1.symm.trans B.method)
  cases Option.some.inj (h2.symm.trans (Stand.of_body B).code)
  rw [← h6, table_eq]
end Bodies
end VXA
/-! ===== END ===== -/
/-! ===== BEGIN a static call of a method with an exception table ===== -/
section VXS
variable {p : Program} {l : Launch} {e : Env} {R : Room} {s : State} {m : MethodId} {args : Array Value} {below : List Frame} {meth : Method} {c : Code} {T : State} {H : Heap} {locs : List Loc} {cells slots : Nat}
abbrev vx_CSW (R : Room) (s : State) (args : Array Value) (own : String) (index : Nat) (y : MethodName) (bytes : ByteArray) (maxL : Nat) (ret : Option FieldType) (hh : List (Nat × Nat × Nat × Nat)) (ws : List Cond) (rm : Room) (mc ms n : Nat) : Prop :=
  (rm.cells = mc ∧ rm.slots = ms ∧ rm.frames + 1 ≤ R.frames ∧ 8 + (maxL + 11) + rm.locals ≤ R.locals ∧ (∀ w ∈ ws, ∀ (a' : Array Value) (U : State), s.WarmedH U.vm → w.before a' U = true) ∧ Cond.codeWith y bytes maxL ret hh ∈ ws) ∧
  (Cond.codeWith y bytes maxL ret hh).before args s = true ∧ (Cond.initialized y.cls).before args s = true ∧ (y.cls ≠ "java/lang/invoke/MethodHandle" ∧ y.cls ≠ "java/lang/invoke/VarHandle") ∧
  (∀ sig, parseMethodDescriptor y.desc = some sig → n = sig.parameters.length) ∧ (Cond.methodLink own index y).before args s = true ∧ (Cond.static y).before args s = true
theorem vx_cwSW {own : String} {index maxL mc ms : Nat} {y : MethodName} {bytes : ByteArray} {ret : Option FieldType} {hh : List (Nat × Nat × Nat × Nat)} {Ts ws ws' : List Cond} {rm : Room} (n : Nat) (ht : ∀ w ∈ Ts, w.before args s = true) (hT : GoodIn Ts (va_wsS own index y ws)) (hw : ws = Cond.codeWith y bytes maxL ret hh :: ws') (hrc : rm.cells = mc) (hrs : rm.slots = ms)
    (hd : y.cls ≠ "java/lang/invoke/MethodHandle" ∧ y.cls ≠ "java/lang/invoke/VarHandle" ∧ (parseMethodDescriptor y.desc).map (fun d => d.parameters.length) = some n) (hR : rm.frames + 1 ≤ R.frames ∧ 8 + (maxL + 11) + rm.locals ≤ R.locals) :
    vx_CSW R s args own index y bytes maxL ret hh ws rm mc ms n := by
  have ok : ∀ w ∈ va_wsS own index y ws, w.before args s = true := fun w h => ht w (hT w h).1
  have hG : GoodIn Ts ws := fun w h => hT w (by unfold va_wsS; exact List.mem_append_right _ h)
  have hc : Cond.codeWith y bytes maxL ret hh ∈ ws := by rw [hw]; exact List.mem_cons_self
  refine ⟨⟨hrc, hrs, hR.1, hR.2, pay_in ht hG, hc⟩, ht _ (hG _ hc).1, ok _ (by simp [va_wsS]), ⟨hd.1, hd.2.1⟩, fun sig h => ?_, ok _ (by simp [va_wsS]), ok _ (by simp [va_wsS])⟩
  have h2 := hd.2.2
  rw [h] at h2
  exact (Option.some.inj h2).symm
theorem vx_callSW (X : Stand p l e R s m args below meth c T locs cells slots) (hexec : p.tables.exec = Jvm.exec) {own : String} {index : Nat} {y : MethodName} {bytes : ByteArray} {maxL : Nat} {ret : Option FieldType} {hh : List (Nat × Nat × Nat × Nat)}
    (hown : s.vm.findClass own = some m.cls) (hlink : (Cond.methodLink own index y).before args s = true) (hstat : (Cond.static y).before args s = true) (hinit : (Cond.initialized y.cls).before args s = true)
    (hcode : (Cond.codeWith y bytes maxL ret hh).before args s = true) (hy : y.cls ≠ "java/lang/invoke/MethodHandle" ∧ y.cls ≠ "java/lang/invoke/VarHandle")
    {W9 : Nat} {Pre : Pt → Array Value → Prop} {Post : Pt → Array Value → Option Value → Pt → Prop} (hK : Back l R p e below s args y 3 W9 Pre Post)
    {g : JFrame} (hg : g.method = m) (hsize : g.locals.size = c.maxLocals) {argsL rest : List Value} (hlen : ∀ sig, parseMethodDescriptor y.desc = some sig → argsL.length = sig.parameters.length)
    (hstack : g.stack = argsL.reverse ++ rest) (hW : 2 * g.monitorRoom + (rest.map fun v => v.category).sum ≤ W9) (hdg : decode c.code g.pc = .ok (.invokestatic index, 3))
    (hpre : ∀ vm₁, s.WarmedH vm₁ → Pre ⟨T.setVm vm₁, locs, cells, slots⟩ argsL.toArray) :
    ∃ (v : Option Value) (vm₁ : Vm) (B : Pt), s.WarmedH vm₁ ∧ Stand p l e R s m args below meth c B.U B.locs B.cells B.slots ∧ Post ⟨T.setVm vm₁, locs, cells, slots⟩ argsL.toArray v B ∧
      ∀ target, Steps p.tables e below (B.U.setTop { g with pc := g.pc + 3, stack := v.toList ++ rest }) target → Steps p.tables e below (T.setTop g) target := by
  obtain ⟨mk, methM, cM, hnamed, hmethM, -, -, -, -, -, -, hsigM⟩ := Cond.codeWith_spec hcode
  have hstatic : methM.isStatic = true := Cond.static_spec hnamed hmethM hstat
  obtain ⟨kP, hkP, -⟩ := className_of_methodNamed hnamed
  have hinitP : kP.init = .initialized := Cond.initialized_spec (findClass_of_methodNamed hnamed) hkP hinit
  obtain ⟨vm₁, X₁, hstep₁⟩ := X.invokestatic hexec hown hlink hnamed hmethM hstatic hkP hinitP hy (g := g) hg (argsL := argsL) (rest := rest) (hlen _ hsigM) hstack hdg
  obtain ⟨v, B, X', hpost, hsteps⟩ := hK m meth c ⟨T.setVm vm₁, locs, cells, slots⟩ { g with stack := rest } (.invokestatic index) mk argsL.toArray X₁ hg hsize hdg hW (X₁.named hnamed) (hpre vm₁ X₁.warmed)
  exact ⟨v, vm₁, B, X₁.warmed, X', hpost, fun target h => hstep₁ _ fun acts => by rw [doInvoke_state]; exact hsteps.trans h⟩
theorem vx_runSW {y : MethodName} {bytes cc : ByteArray} {maxL nL mc ms n index : Nat} {ret : Option FieldType} {hh : List (Nat × Nat × Nat × Nat)} {ws : List Cond} {rm : Room} {Pc : Array Value → State → Prop} {Qc : Array Value → State → Outcome → State → Prop} {free : Addr → Prop} {Ts : List Cond} {own : String} {As rest : List Value} {g : JFrame}
    (S : CallFix p m c cc nL s args Ts own) (hM : Met l y ws rm Pc Qc mc ms free) (cw : vx_CSW R s args own index y bytes maxL ret hh ws rm mc ms n) (hp : PreS s H Pc As)
    (hg : g.method = m) (hn : As.length = n) (hsize : g.locals.size = nL) (hstack : g.stack = As.reverse ++ rest) (hW : 2 * g.monitorRoom + (rest.map fun v => v.category).sum ≤ 8) (hdg : decode cc g.pc = .ok (.invokestatic index, 3)) (hf : cells + mc ≤ R.cells ∧ slots + ms ≤ R.slots) :
    va_Run p l e R s m args below meth c H locs cells slots mc ms g rest (Qc As.toArray) (free) := by
  obtain ⟨⟨hrc, hrs, hfr, hlo, hws, hcw⟩, hcode, hini, hy, hlen, hl, hstt⟩ := cw
  have hK : Back l R p e below s args y 3 8 (PreOf R mc ms Pc) (PostOf Qc mc ms free) := va_backW (hh := hh) (bytes := bytes) (maxL := maxL) (ret := ret) hM hp.1 hrc hrs hfr hlo hws hcw (fun a' U hW => word_at hW (Or.inl (by first | rfl | simp [Cond.onTables, Cond.keeps, Cond.steady])) hini)
  obtain ⟨hx, hb, hml, ho, -⟩ := S
  intro T hT X
  obtain ⟨v, vm₁, ⟨U', l2, c2, s2⟩, hW₁, X', ⟨g', mk, t, L, e1, e2, hq, h1, hL, h2, h3⟩, st⟩ := vx_callSW X hx (hh := hh) (bytes := bytes) (maxL := maxL) (ret := ret) ho hl hstt hini hcode hy hK hg (hsize.trans hml.symm) (argsL := As) (rest := rest) (fun sig h => hn.trans (hlen sig h)) hstack hW (by rw [hb]; exact hdg)
    (fun vm₁ hW₁ => ⟨hf.1, hf.2, hp.2 (T.setVm vm₁) hT hW₁⟩)
  dsimp only [Pt.U, Pt.locs, Pt.cells, Pt.slots] at X' e1 e2 h1 h2 h3 st
  subst h1; subst h2; subst h3
  exact ⟨v, (T.setVm vm₁).calling g' mk As.toArray, t, U', L, hT, X', hL, e1, e2, hq, st⟩
/-- not caught here, past rows that name other classes: it goes on to the caller -/
theorem vx_outP {p : Program} {l : Launch} {e : Env} {R : Room} {s : State} {m : MethodId} {args : Array Value} {below : List Frame} {meth : Method} {c : Code} {H : Heap} {locs : List Loc} {cells slots : Nat} {free : Addr → Prop} {ls : Array Slot} {rest : List Value} {Qc : Array Value → State → Outcome → State → Prop} {XC : String → State → State → Prop}
    {pc : Nat} {own E : String} {ce : Cell} {q : Addr} {mc ms : Nat} (hown : s.vm.findClass own = some m.cls) (hlocks : meth.locks = false)
    (hpass : ∀ z ∈ c.exceptionTable.toList, covers z pc = false ∨ (z.catchType ≠ 0 ∧ ∃ nm : String, (Cond.classLink own z.catchType nm).before args s = true ∧ va_Nc E nm s)) (hcell : H[q]? = some ce) (hv : ce.vm = .none) (hcl : s.vm.findClass E = some ce.cls)
    (hx : ∀ t : State, t.heap = H → s.vm.Alike t.vm → XC E s t) (hf : ∀ z ∈ locs, free z.base) (hc : cells ≤ mc) (hs : slots ≤ ms) :
    vx_W p l e R s m args below meth c H locs cells slots (vx_MQ below Qc XC args s mc ms free) (F0 m pc ls rest) q := by
  intro T hT X
  have hpl : e.platform.magicAccessors = ({} : Platform).magicAccessors := by rw [X.admits.platform]
  obtain ⟨vm', hW', X', st⟩ := X.outThrough hlocks q (g := F0 m pc ls rest) rfl rfl rfl (cell := ce) (by rw [hT]; exact hcell) (by rw [hv]; rfl)
    (by obtain ⟨k9, h9, -⟩ := Vm.findClass_spec hcl; exact ⟨k9, h9⟩) (fun z hz => by
      rcases hpass z hz with h | ⟨hz0, nm, hl1, hn1⟩
      · exact Or.inl h
      · obtain ⟨c6, hc6, hcl6⟩ := Cond.classLink_spec hown hl1 e.platform hpl
        obtain ⟨a8, b8, h1, h2, h3⟩ := hn1
        cases Option.some.inj (h1.symm.trans hcl)
        cases Option.some.inj (h2.symm.trans hc6)
        exact Or.inr ⟨hz0, _, hcl6, h3⟩)
  obtain ⟨g₀, hfr⟩ := X'.frames_eq
  have hcell9 : ((T.setVm vm').setFrames (.throwing q :: below)).heap[q]? = some ce := by
    show T.heap[q]? = some ce
    rw [hT]; exact hcell
  have hend : Ended ((T.setVm vm').setFrames (.throwing q :: below)) below (.threw q) := State.frames_setFrames _ (State.cur_lt_of_frames hfr)
  refine ⟨(T.setVm vm').setFrames (.throwing q :: below), ?_, .threw q, X'.here.running, hend, Or.inr ⟨q, rfl, E, ce, locs, hx _ hT (X'.ends _).1.alike, hcell9, hv, hcl, (X'.ends _).1, (X'.ends _).2.mono hc hs, hf⟩⟩
  rw [X.pushThrowing_eq]
  exact st
/-- a thing of a world lies in the heap -/
theorem vx_lt {D : va_G} {cl : List vw_C} {ws : va_W} {H1 : Heap} (h : va_P D cl ws H1) {k : Nat} {q : Nat × va_E} (hk : ws[k]? = some q) : q.1 < H1.size := (h k q hk).lt
end VXS
/-! ===== END ===== -/
/-! ===== BEGIN methods with a table of their own: called by a name, returning or throwing ===== -/
section VXH
/-! vx_backW, vx_callVX, vx_callSX, vx_callVW, vx_runVW, vx_runVX, vx_runSX, vx_ofWH follow the same proofs as their sisters above (Free/Laws.lean, Shelf42/LK1.lean); vx_outP calls Shelf42/NT130.lean (outThrough). -/
section
variable {l : Launch} {R : Room} {p : Program} {e : Env} {below : List Frame} {s : State} {sargs : Array Value} {y : MethodName} {len W9 : Nat}
theorem vx_backW {ws : List Cond} {rm : Room} {Pc : Array Value → State → Prop} {Qc : Array Value → State → Outcome → State → Prop} {XC : String → State → State → Prop} {mc ms : Nat} {free : Addr → Prop} {bytes : ByteArray} {maxL : Nat} {ret : Option FieldType} {hh : List (Nat × Nat × Nat × Nat)}
    (hM : vx_Met l y ws rm Pc Qc XC mc ms free) (hblind : FrameBlind Pc) (hrc : rm.cells = mc) (hrs : rm.slots = ms)
    (hframes : rm.frames + 1 ≤ R.frames) (hlocals : W9 + (maxL + 11) + rm.locals ≤ R.locals)
    (hws : ∀ w ∈ ws, ∀ a' U, s.WarmedH U.vm → w.before a' U = true) (hcode : Cond.codeWith y bytes maxL ret hh ∈ ws) (hinit : ∀ a' U, s.WarmedH U.vm → (Cond.initialized y.cls).before a' U = true) :
    vx_Back l R p e below s sargs y len W9 (PreOf R mc ms Pc) (PostOf Qc mc ms free) (vx_Post XC mc ms free) := by
  intro m meth c A g ig mk a X hg hsize hdg hW hn hp
  have h1 : (headSpec ws rm).pre.before a A.U = true := atoms_intro fun w hw => hws w hw _ _ X.warmed
  have h2 : (Cond.codeWith y bytes maxL ret hh).before a A.U = true := hws _ hcode _ _ X.warmed
  have h3 : (Cond.initialized y.cls).before a A.U = true := hinit _ _ X.warmed
  have h4 : A.cells + (headSpec ws rm).room.cells ≤ R.cells := by rw [show (headSpec ws rm).room.cells = mc from hrc]; exact hp.1
  have h5 : A.slots + (headSpec ws rm).room.slots ≤ R.slots := by rw [show (headSpec ws rm).room.slots = ms from hrs]; exact hp.2.1
  have hPc : Pc a (A.U.calling g mk a) := hblind _ _ _ _ hp.2.2
  obtain ⟨U, Ls, c0, s0⟩ := A
  dsimp only [Pt.U, Pt.locs, Pt.cells, Pt.slots] at h1 h2 h3 h4 h5 X hn hPc ⊢
  obtain ⟨m9, methY, cY, hn9, hmY, hcY, -, hlY, -⟩ := Cond.codeWith_spec h2
  cases Option.some.inj (hn9.symm.trans hn)
  obtain ⟨kY, hkY, -⟩ := className_of_methodNamed hn
  have hinitY : kY.init = .initialized := Cond.initialized_spec (findClass_of_methodNamed hn) hkY h3
  have h : At U g.method c below := by rw [hg]; exact X.here
  have hlocals9 : W9 + (maxL + 11) + (headSpec ws rm).room.locals ≤ R.locals := hlocals
  have happ : (headSpec ws rm).appliesLoose y e.platform (U.calling g mk a) = true :=
    Spec.appliesLoose_calling (g := g) h hdg hn hkY hinitY
      (X.room_calling (g := g) (R' := (headSpec ws rm).room) hsize hmY hcY hframes (by rw [hlY]; omega) h4 h5) h1
  obtain ⟨mid, hmid⟩ := h.above
  have hfr : (U.setTop g).frames = (.java g :: mid) ++ below := by rw [State.frames_setTop' g h.top, hmid]; rfl
  obtain ⟨o, s₂, hsteps, -, hend, hq⟩ := Steps.callFree hM p X.admits X.cas X.clock (acts := []) hfr happ hPc trivial
  have hq' : vx_Q Qc XC mc ms free a (U.calling g mk a) o s₂ := hq
  rw [State.frames_setTop' g h.top] at hend
  obtain ⟨g₀, hg0⟩ := Option.isSome_iff_exists.mp h.top
  obtain ⟨r, hr⟩ := State.topJava?_eq_some.mp hg0
  have hr' : (({ U with heap := s₂.heap, slotsUsed := s₂.slotsUsed } : State).setVm s₂.vm).frames = .java g₀ :: r := hr
  rcases hq' with ⟨hqc, L, hfe, hL⟩ | ⟨q, rfl, E, ce, L, hx, hce, hcv, hcl, hW₂, hsm, hL⟩
  · obtain ⟨⟨v, rfl⟩, hW₂, e2, q2, q3, q4, q5, q6⟩ := id hfe
    have e3 : s₂ = ({ (U.calling g mk a).setFrames s₂.frames with heap := s₂.heap, slotsUsed := s₂.slotsUsed } : State).setVm s₂.vm := by
      have : s₂ = ({ s₂ with vm := (U.calling g mk a).vm } : State).setVm s₂.vm := rfl
      rw [e2] at this
      exact this
    obtain ⟨c₂, i₂, len₂, hc₂, hd₂, hf₂⟩ := hend
    have hW' : U.WarmedH s₂.vm := hW₂
    have hcc : c₂ = c := by
      have h1 : s₂.code? g.method = U.code? g.method := by
        rw [State.code?_eq, State.code?_eq, hW'.alike.method?]
      exact Option.some.inj (hc₂.symm.trans (h1.trans h.code))
    subst hcc
    have hlen : len₂ = len := by rw [hdg] at hd₂; cases hd₂; rfl
    subst hlen
    have hs₂ : s₂ = (({ U with heap := s₂.heap, slotsUsed := s₂.slotsUsed } : State).setVm s₂.vm).setTop { g with pc := g.pc + len₂, stack := v.toList ++ g.stack } := by
      refine e3.trans ?_
      rw [hf₂, State.calling_eq h.top, State.setFrames_setFrames, State.setTop_of_frames _ hr', hr]
      rfl
    have hsame : U.sameButNew ({ U with heap := s₂.heap, slotsUsed := s₂.slotsUsed } : State) L mc ms := by
      refine ⟨?_, q2, q3, q4, q5, q6⟩
      obtain ⟨t, ht, -⟩ := State.frames_cons hr
      show ({ U with heap := s₂.heap, slotsUsed := s₂.slotsUsed } : State) = { U.setFrames U.frames with heap := s₂.heap, slotsUsed := s₂.slotsUsed }
      rw [State.setFrames_self ht]
    subst hg
    refine Or.inl ⟨v, ⟨(({ U with heap := s₂.heap, slotsUsed := s₂.slotsUsed } : State).setVm s₂.vm), Ls ++ L, c0 + mc, s0 + ms⟩,
      ⟨X.admits, X.cas, X.clock, X.frames, X.room, X.hears, X.method, X.code, (X.here.setHeapUsed s₂.heap s₂.slotsUsed).setVm hW'.alike, X.tail, State.WarmedH.trans X.warmed hW', X.limits, X.bytes, X.same.trans (hsame.setVm s.vm)⟩,
      ⟨g, mk, s₂, L, rfl, rfl, hqc, rfl, hL, rfl, rfl⟩, ?_⟩
    show Steps p.tables e below _ ((({ U with heap := s₂.heap, slotsUsed := s₂.slotsUsed } : State).setVm s₂.vm).setTop { g with pc := g.pc + len₂, stack := v.toList ++ g.stack })
    rw [← hs₂]
    exact hsteps
  · obtain ⟨e2, q2, q3, q4, q5, q6⟩ := id hsm
    have e3 : s₂ = ({ (U.calling g mk a).setFrames s₂.frames with heap := s₂.heap, slotsUsed := s₂.slotsUsed } : State).setVm s₂.vm := by
      have : s₂ = ({ s₂ with vm := (U.calling g mk a).vm } : State).setVm s₂.vm := rfl
      rw [e2] at this
      exact this
    have hf₂ : s₂.frames = .throwing q :: .java g :: U.frames.tail := hend
    have hW' : U.WarmedH s₂.vm := hW₂
    have hs₂ : s₂ = ((({ U with heap := s₂.heap, slotsUsed := s₂.slotsUsed } : State).setVm s₂.vm).setTop g).pushFrame (.throwing q) := by
      refine e3.trans ?_
      rw [hf₂, State.calling_eq h.top, State.setFrames_setFrames, State.pushFrame, State.frames_setTop _ hr', State.setTop_of_frames _ hr', State.setFrames_setFrames, hr]
      rfl
    have hsame : U.sameButNew ({ U with heap := s₂.heap, slotsUsed := s₂.slotsUsed } : State) L mc ms := by
      refine ⟨?_, q2, q3, q4, q5, q6⟩
      obtain ⟨t, ht, -⟩ := State.frames_cons hr
      show ({ U with heap := s₂.heap, slotsUsed := s₂.slotsUsed } : State) = { U.setFrames U.frames with heap := s₂.heap, slotsUsed := s₂.slotsUsed }
      rw [State.setFrames_self ht]
    subst hg
    refine Or.inr ⟨q, ⟨(({ U with heap := s₂.heap, slotsUsed := s₂.slotsUsed } : State).setVm s₂.vm), Ls ++ L, c0 + mc, s0 + ms⟩,
      ⟨X.admits, X.cas, X.clock, X.frames, X.room, X.hears, X.method, X.code, (X.here.setHeapUsed s₂.heap s₂.slotsUsed).setVm hW'.alike, X.tail, State.WarmedH.trans X.warmed hW', X.limits, X.bytes, X.same.trans (hsame.setVm s.vm)⟩,
      ⟨g, mk, s₂, L, E, ce, rfl, rfl, hx, hce, hcv, hcl, rfl, hL, rfl, rfl⟩, ?_⟩
    show Steps p.tables e below _ (((({ U with heap := s₂.heap, slotsUsed := s₂.slotsUsed } : State).setVm s₂.vm).setTop g).pushFrame (.throwing q))
    rw [← hs₂]
    exact hsteps
end
variable {p : Program} {l : Launch} {e : Env} {R : Room} {s : State} {m : MethodId} {args : Array Value} {below : List Frame} {meth : Method} {c : Code} {T : State} {H : Heap} {locs : List Loc} {cells slots : Nat}
theorem vx_callVX (X : Stand p l e R s m args below meth c T locs cells slots) (hexec : p.tables.exec = Jvm.exec) {own C : String} {index : Nat} {y : MethodName} {bytes : ByteArray} {maxL : Nat} {ret : Option FieldType} {hh : List (Nat × Nat × Nat × Nat)}
    (hown : s.vm.findClass own = some m.cls) (hlink : (Cond.methodLink own index y).before args s = true) (hinst : (Cond.instanceMethod y).before args s = true) (hsel : (Cond.selects C y y).before args s = true)
    (hcode : (Cond.codeWith y bytes maxL ret hh).before args s = true) (hy : y.cls ≠ "java/lang/invoke/MethodHandle" ∧ y.cls ≠ "java/lang/invoke/VarHandle")
    {W9 : Nat} {Pre : Pt → Array Value → Prop} {Post : Pt → Array Value → Option Value → Pt → Prop} {PostX : Pt → Array Value → Addr → Pt → Prop} (hK : vx_Back l R p e below s args y 3 W9 Pre Post PostX)
    {b : Addr} {cellB : Cell} (hcell : T.heap[b]? = some cellB) (hobj : cellB.vm.isStatics = false) (hcls : s.vm.findClass C = some cellB.cls)
    {g : JFrame} (hg : g.method = m) (hsize : g.locals.size = c.maxLocals) {argsL rest : List Value} (hlen : ∀ sig, parseMethodDescriptor y.desc = some sig → argsL.length = sig.parameters.length)
    (hstack : g.stack = argsL.reverse ++ .ref b :: rest) (hW : 2 * g.monitorRoom + (rest.map fun v => v.category).sum ≤ W9) (hdg : decode c.code g.pc = .ok (.invokevirtual index, 3))
    (hpre : ∀ vm₁, s.WarmedH vm₁ → Pre ⟨T.setVm vm₁, locs, cells, slots⟩ (Value.ref b :: argsL).toArray) :
    (∃ (v : Option Value) (vm₁ : Vm) (B : Pt), s.WarmedH vm₁ ∧ Stand p l e R s m args below meth c B.U B.locs B.cells B.slots ∧ Post ⟨T.setVm vm₁, locs, cells, slots⟩ (Value.ref b :: argsL).toArray v B ∧
      ∀ target, Steps p.tables e below (B.U.setTop { g with pc := g.pc + 3, stack := v.toList ++ rest }) target → Steps p.tables e below (T.setTop g) target) ∨
    (∃ (q : Addr) (vm₁ : Vm) (B : Pt), s.WarmedH vm₁ ∧ Stand p l e R s m args below meth c B.U B.locs B.cells B.slots ∧ PostX ⟨T.setVm vm₁, locs, cells, slots⟩ (Value.ref b :: argsL).toArray q B ∧
      Steps p.tables e below (T.setTop g) ((B.U.setTop { g with stack := rest }).pushFrame (.throwing q))) := by
  obtain ⟨mk, methM, hnamed, hmethM, hstM, habM⟩ := Cond.instanceMethod_spec hinst
  obtain ⟨m8, methM', cM, hn8, hmethM', -, -, -, -, -, -, hsigM⟩ := Cond.codeWith_spec hcode
  cases Option.some.inj (hn8.symm.trans hnamed)
  cases hmethM.symm.trans hmethM'
  obtain ⟨c2, r2, m2, q1, q2, q3, q4, kP, hkP, hkPi⟩ := Cond.selects_spec hsel
  cases hcls.symm.trans q1
  cases (State.methodFound?_of_named hnamed hy).symm.trans q2
  cases hnamed.symm.trans q3
  have hselP : selectMethod e.platform s.vm cellB.cls mk = .method mk := by rw [Launch.admits_selectMethod X.admits]; exact q4
  obtain ⟨vm₁, X₁, hstep₁⟩ := X.invokevirtual hexec hown hlink hnamed hmethM hstM hkP hkPi hy (a := b) (cell := cellB) hcell
    (fun z h => by rw [h] at hobj; cases hobj) hselP hmethM habM hkP hkPi (g := g) hg (argsL := argsL) (rest := rest) (hlen _ hsigM) hstack hdg
  rcases hK m meth c ⟨T.setVm vm₁, locs, cells, slots⟩ { g with stack := rest } (.invokevirtual index) mk (Value.ref b :: argsL).toArray X₁ hg hsize hdg hW (X₁.named hnamed) (hpre vm₁ X₁.warmed) with ⟨v, B, X', hpost, hsteps⟩ | ⟨q, B, X', hpost, hsteps⟩
  · exact Or.inl ⟨v, vm₁, B, X₁.warmed, X', hpost, fun target h => hstep₁ _ fun acts => by rw [doInvoke_state]; exact hsteps.trans h⟩
  · exact Or.inr ⟨q, vm₁, B, X₁.warmed, X', hpost, hstep₁ _ fun acts => by rw [doInvoke_state]; exact hsteps⟩
theorem vx_callSX (X : Stand p l e R s m args below meth c T locs cells slots) (hexec : p.tables.exec = Jvm.exec) {own : String} {index : Nat} {y : MethodName} {bytes : ByteArray} {maxL : Nat} {ret : Option FieldType} {hh : List (Nat × Nat × Nat × Nat)}
    (hown : s.vm.findClass own = some m.cls) (hlink : (Cond.methodLink own index y).before args s = true) (hstat : (Cond.static y).before args s = true) (hinit : (Cond.initialized y.cls).before args s = true)
    (hcode : (Cond.codeWith y bytes maxL ret hh).before args s = true) (hy : y.cls ≠ "java/lang/invoke/MethodHandle" ∧ y.cls ≠ "java/lang/invoke/VarHandle")
    {W9 : Nat} {Pre : Pt → Array Value → Prop} {Post : Pt → Array Value → Option Value → Pt → Prop} {PostX : Pt → Array Value → Addr → Pt → Prop} (hK : vx_Back l R p e below s args y 3 W9 Pre Post PostX)
    {g : JFrame} (hg : g.method = m) (hsize : g.locals.size = c.maxLocals) {argsL rest : List Value} (hlen : ∀ sig, parseMethodDescriptor y.desc = some sig → argsL.length = sig.parameters.length)
    (hstack : g.stack = argsL.reverse ++ rest) (hW : 2 * g.monitorRoom + (rest.map fun v => v.category).sum ≤ W9) (hdg : decode c.code g.pc = .ok (.invokestatic index, 3))
    (hpre : ∀ vm₁, s.WarmedH vm₁ → Pre ⟨T.setVm vm₁, locs, cells, slots⟩ argsL.toArray) :
    (∃ (v : Option Value) (vm₁ : Vm) (B : Pt), s.WarmedH vm₁ ∧ Stand p l e R s m args below meth c B.U B.locs B.cells B.slots ∧ Post ⟨T.setVm vm₁, locs, cells, slots⟩ argsL.toArray v B ∧
      ∀ target, Steps p.tables e below (B.U.setTop { g with pc := g.pc + 3, stack := v.toList ++ rest }) target → Steps p.tables e below (T.setTop g) target) ∨
    (∃ (q : Addr) (vm₁ : Vm) (B : Pt), s.WarmedH vm₁ ∧ Stand p l e R s m args below meth c B.U B.locs B.cells B.slots ∧ PostX ⟨T.setVm vm₁, locs, cells, slots⟩ argsL.toArray q B ∧
      Steps p.tables e below (T.setTop g) ((B.U.setTop { g with stack := rest }).pushFrame (.throwing q))) := by
  obtain ⟨mk, methM, cM, hnamed, hmethM, -, -, -, -, -, -, hsigM⟩ := Cond.codeWith_spec hcode
  have hstatic : methM.isStatic = true := Cond.static_spec hnamed hmethM hstat
  obtain ⟨kP, hkP, -⟩ := className_of_methodNamed hnamed
  have hinitP : kP.init = .initialized := Cond.initialized_spec (findClass_of_methodNamed hnamed) hkP hinit
  obtain ⟨vm₁, X₁, hstep₁⟩ := X.invokestatic hexec hown hlink hnamed hmethM hstatic hkP hinitP hy (g := g) hg (argsL := argsL) (rest := rest) (hlen _ hsigM) hstack hdg
  rcases hK m meth c ⟨T.setVm vm₁, locs, cells, slots⟩ { g with stack := rest } (.invokestatic index) mk argsL.toArray X₁ hg hsize hdg hW (X₁.named hnamed) (hpre vm₁ X₁.warmed) with ⟨v, B, X', hpost, hsteps⟩ | ⟨q, B, X', hpost, hsteps⟩
  · exact Or.inl ⟨v, vm₁, B, X₁.warmed, X', hpost, fun target h => hstep₁ _ fun acts => by rw [doInvoke_state]; exact hsteps.trans h⟩
  · exact Or.inr ⟨q, vm₁, B, X₁.warmed, X', hpost, hstep₁ _ fun acts => by rw [doInvoke_state]; exact hsteps⟩
theorem vx_callVW (X : Stand p l e R s m args below meth c T locs cells slots) (hexec : p.tables.exec = Jvm.exec) {own C : String} {index : Nat} {y : MethodName} {bytes : ByteArray} {maxL : Nat} {ret : Option FieldType} {hh : List (Nat × Nat × Nat × Nat)}
    (hown : s.vm.findClass own = some m.cls) (hlink : (Cond.methodLink own index y).before args s = true) (hinst : (Cond.instanceMethod y).before args s = true) (hsel : (Cond.selects C y y).before args s = true)
    (hcode : (Cond.codeWith y bytes maxL ret hh).before args s = true) (hy : y.cls ≠ "java/lang/invoke/MethodHandle" ∧ y.cls ≠ "java/lang/invoke/VarHandle")
    {W9 : Nat} {Pre : Pt → Array Value → Prop} {Post : Pt → Array Value → Option Value → Pt → Prop} (hK : Back l R p e below s args y 3 W9 Pre Post)
    {b : Addr} {cellB : Cell} (hcell : T.heap[b]? = some cellB) (hobj : cellB.vm.isStatics = false) (hcls : s.vm.findClass C = some cellB.cls)
    {g : JFrame} (hg : g.method = m) (hsize : g.locals.size = c.maxLocals) {argsL rest : List Value} (hlen : ∀ sig, parseMethodDescriptor y.desc = some sig → argsL.length = sig.parameters.length)
    (hstack : g.stack = argsL.reverse ++ .ref b :: rest) (hW : 2 * g.monitorRoom + (rest.map fun v => v.category).sum ≤ W9) (hdg : decode c.code g.pc = .ok (.invokevirtual index, 3))
    (hpre : ∀ vm₁, s.WarmedH vm₁ → Pre ⟨T.setVm vm₁, locs, cells, slots⟩ (Value.ref b :: argsL).toArray) :
    ∃ (v : Option Value) (vm₁ : Vm) (B : Pt), s.WarmedH vm₁ ∧ Stand p l e R s m args below meth c B.U B.locs B.cells B.slots ∧ Post ⟨T.setVm vm₁, locs, cells, slots⟩ (Value.ref b :: argsL).toArray v B ∧
      ∀ target, Steps p.tables e below (B.U.setTop { g with pc := g.pc + 3, stack := v.toList ++ rest }) target → Steps p.tables e below (T.setTop g) target := by
  obtain ⟨mk, methM, hnamed, hmethM, hstM, habM⟩ := Cond.instanceMethod_spec hinst
  obtain ⟨m8, methM', cM, hn8, hmethM', -, -, -, -, -, -, hsigM⟩ := Cond.codeWith_spec hcode
  cases Option.some.inj (hn8.symm.trans hnamed)
  cases hmethM.symm.trans hmethM'
  obtain ⟨c2, r2, m2, q1, q2, q3, q4, kP, hkP, hkPi⟩ := Cond.selects_spec hsel
  cases hcls.symm.trans q1
  cases (State.methodFound?_of_named hnamed hy).symm.trans q2
  cases hnamed.symm.trans q3
  have hselP : selectMethod e.platform s.vm cellB.cls mk = .method mk := by rw [Launch.admits_selectMethod X.admits]; exact q4
  obtain ⟨vm₁, X₁, hstep₁⟩ := X.invokevirtual hexec hown hlink hnamed hmethM hstM hkP hkPi hy (a := b) (cell := cellB) hcell
    (fun z h => by rw [h] at hobj; cases hobj) hselP hmethM habM hkP hkPi (g := g) hg (argsL := argsL) (rest := rest) (hlen _ hsigM) hstack hdg
  obtain ⟨v, B, X', hpost, hsteps⟩ := hK m meth c ⟨T.setVm vm₁, locs, cells, slots⟩ { g with stack := rest } (.invokevirtual index) mk (Value.ref b :: argsL).toArray X₁ hg hsize hdg hW (X₁.named hnamed) (hpre vm₁ X₁.warmed)
  exact ⟨v, vm₁, B, X₁.warmed, X', hpost, fun target h => hstep₁ _ fun acts => by rw [doInvoke_state]; exact hsteps.trans h⟩
abbrev vx_CVW (R : Room) (s : State) (args : Array Value) (own C : String) (index : Nat) (y : MethodName) (bytes : ByteArray) (maxL : Nat) (ret : Option FieldType) (hh : List (Nat × Nat × Nat × Nat)) (ws : List Cond) (rm : Room) (mc ms n : Nat) : Prop :=
  (rm.cells = mc ∧ rm.slots = ms ∧ rm.frames + 1 ≤ R.frames ∧ 8 + (maxL + 11) + rm.locals ≤ R.locals ∧ (∀ w ∈ ws, ∀ (a' : Array Value) (U : State), s.WarmedH U.vm → w.before a' U = true) ∧ Cond.codeWith y bytes maxL ret hh ∈ ws) ∧
  (Cond.codeWith y bytes maxL ret hh).before args s = true ∧ (Cond.initialized y.cls).before args s = true ∧ (y.cls ≠ "java/lang/invoke/MethodHandle" ∧ y.cls ≠ "java/lang/invoke/VarHandle") ∧
  (∀ sig, parseMethodDescriptor y.desc = some sig → n = sig.parameters.length) ∧ (Cond.methodLink own index y).before args s = true ∧ (Cond.instanceMethod y).before args s = true ∧ (Cond.selects C y y).before args s = true
theorem vx_cwVW {own C : String} {index maxL mc ms : Nat} {y : MethodName} {bytes : ByteArray} {ret : Option FieldType} {hh : List (Nat × Nat × Nat × Nat)} {Ts ws ws' : List Cond} {rm : Room} (n : Nat) (ht : ∀ w ∈ Ts, w.before args s = true) (hT : GoodIn Ts (wsV own index C y ws)) (hw : ws = Cond.codeWith y bytes maxL ret hh :: ws') (hrc : rm.cells = mc) (hrs : rm.slots = ms)
    (hd : y.cls = C ∧ y.cls ≠ "java/lang/invoke/MethodHandle" ∧ y.cls ≠ "java/lang/invoke/VarHandle" ∧ (parseMethodDescriptor y.desc).map (fun d => d.parameters.length) = some n) (hR : rm.frames + 1 ≤ R.frames ∧ 8 + (maxL + 11) + rm.locals ≤ R.locals) :
    vx_CVW R s args own C index y bytes maxL ret hh ws rm mc ms n := by
  obtain ⟨hC, hd⟩ := hd
  subst hC
  have ok : ∀ w ∈ wsV own index y.cls y ws, w.before args s = true := fun w h => ht w (hT w h).1
  have hG : GoodIn Ts ws := fun w h => hT w (by unfold wsV; exact List.mem_append_right _ h)
  have hc : Cond.codeWith y bytes maxL ret hh ∈ ws := by rw [hw]; exact List.mem_cons_self
  refine ⟨⟨hrc, hrs, hR.1, hR.2, pay_in ht hG, hc⟩, ht _ (hG _ hc).1, ok _ (by simp [wsV]), ⟨hd.1, hd.2.1⟩, fun sig h => ?_, ok _ (by simp [wsV]), ok _ (by simp [wsV]), ok _ (by simp [wsV])⟩
  have h2 := hd.2.2
  rw [h] at h2
  exact (Option.some.inj h2).symm
theorem vx_runVW {y : MethodName} {bytes cc : ByteArray} {maxL nL mc ms n index : Nat} {ret : Option FieldType} {hh : List (Nat × Nat × Nat × Nat)} {ws : List Cond} {rm : Room} {Pc : Array Value → State → Prop} {Qc : Array Value → State → Outcome → State → Prop} {free : Addr → Prop} {Ts : List Cond} {own C : String} {b : Addr} {As rest : List Value} {g : JFrame}
    (S : CallFix p m c cc nL s args Ts own) (hM : Met l y ws rm Pc Qc mc ms free) (cw : vx_CVW R s args own C index y bytes maxL ret hh ws rm mc ms n) (hp : PreV s H C b Pc As)
    (hg : g.method = m) (hn : As.length = n) (hsize : g.locals.size = nL) (hstack : g.stack = As.reverse ++ .ref b :: rest) (hW : 2 * g.monitorRoom + (rest.map fun v => v.category).sum ≤ 8) (hdg : decode cc g.pc = .ok (.invokevirtual index, 3)) (hf : cells + mc ≤ R.cells ∧ slots + ms ≤ R.slots) :
    va_Run p l e R s m args below meth c H locs cells slots mc ms g rest (Qc (Value.ref b :: As).toArray) free := by
  obtain ⟨⟨hrc, hrs, hfr, hlo, hws, hcw⟩, hcode, hini, hy, hlen, hl, hin, hse⟩ := cw
  have hK : Back l R p e below s args y 3 8 (PreOf R mc ms Pc) (PostOf Qc mc ms free) := va_backW (hh := hh) (bytes := bytes) (maxL := maxL) (ret := ret) hM hp.1 hrc hrs hfr hlo hws hcw (fun a' U hW => word_at hW (Or.inl (by first | rfl | simp [Cond.onTables, Cond.keeps, Cond.steady])) hini)
  obtain ⟨hx, hb, hml, ho, -⟩ := S
  obtain ⟨-, ⟨cellB, hcB, hoB, hclB⟩, hPc⟩ := hp
  intro T hT X
  obtain ⟨v, vm₁, ⟨U', l2, c2, s2⟩, hW₁, X', ⟨g', mk, t, L, e1, e2, hq, h1, hL, h2, h3⟩, st⟩ := vx_callVW X hx (C := C) (hh := hh) (bytes := bytes) (maxL := maxL) (ret := ret) ho hl hin hse hcode hy hK (by rw [hT]; exact hcB) hoB hclB hg (hsize.trans hml.symm) (argsL := As) (rest := rest) (fun sig h => hn.trans (hlen sig h)) hstack hW (by rw [hb]; exact hdg)
    (fun vm₁ hW₁ => ⟨hf.1, hf.2, hPc (T.setVm vm₁) hT hW₁⟩)
  dsimp only [Pt.U, Pt.locs, Pt.cells, Pt.slots] at X' e1 e2 h1 h2 h3 st
  subst h1; subst h2; subst h3
  exact ⟨v, (T.setVm vm₁).calling g' mk (Value.ref b :: As).toArray, t, U', L, hT, X', hL, e1, e2, hq, st⟩
section
variable {y : MethodName} {bytes cc : ByteArray} {maxL nL mc ms n index : Nat} {ret : Option FieldType} {ws : List Cond} {rm : Room} {Pc : Array Value → State → Prop} {Qc : Array Value → State → Outcome → State → Prop} {XC : String → State → State → Prop} {free : Addr → Prop} {Ts : List Cond} {own C : String} {b : Addr} {As rest : List Value} {g : JFrame}
theorem vx_runVX {hh : List (Nat × Nat × Nat × Nat)} (S : CallFix p m c cc nL s args Ts own) (hM : vx_Met l y ws rm Pc Qc XC mc ms free) (cw : vx_CVW R s args own C index y bytes maxL ret hh ws rm mc ms n) (hp : PreV s H C b Pc As)
    (hg : g.method = m) (hn : As.length = n) (hsize : g.locals.size = nL) (hstack : g.stack = As.reverse ++ .ref b :: rest) (hW : 2 * g.monitorRoom + (rest.map fun v => v.category).sum ≤ 8) (hdg : decode cc g.pc = .ok (.invokevirtual index, 3)) (hf : cells + mc ≤ R.cells ∧ slots + ms ≤ R.slots) :
    vx_Run p l e R s m args below meth c H locs cells slots mc ms g rest (Qc (Value.ref b :: As).toArray) XC free := by
  obtain ⟨⟨hrc, hrs, hfr, hlo, hws, hcw⟩, hcode, hini, hy, hlen, hl, hin, hse⟩ := cw
  have hK : vx_Back l R p e below s args y 3 8 (PreOf R mc ms Pc) (PostOf Qc mc ms free) (vx_Post XC mc ms free) := vx_backW (hh := hh) (bytes := bytes) (maxL := maxL) (ret := ret) hM hp.1 hrc hrs hfr hlo hws hcw (fun a' U hW => word_at hW (Or.inl (by first | rfl | simp [Cond.onTables, Cond.keeps, Cond.steady])) hini)
  obtain ⟨hx, hb, hml, ho, -⟩ := S
  obtain ⟨-, ⟨cellB, hcB, hoB, hclB⟩, hPc⟩ := hp
  intro T hT X
  rcases vx_callVX X hx (C := C) (hh := hh) (bytes := bytes) (maxL := maxL) (ret := ret) ho hl hin hse hcode hy hK (by rw [hT]; exact hcB) hoB hclB hg (hsize.trans hml.symm) (argsL := As) (rest := rest) (fun sig h => hn.trans (hlen sig h)) hstack hW (by rw [hb]; exact hdg)
    (fun vm₁ hW₁ => ⟨hf.1, hf.2, hPc (T.setVm vm₁) hT hW₁⟩) with ⟨v, vm₁, ⟨U', l2, c2, s2⟩, hW₁, X', ⟨g', mk, t, L, e1, e2, hq, h1, hL, h2, h3⟩, st⟩ | ⟨q, vm₁, ⟨U', l2, c2, s2⟩, hW₁, X', ⟨g', mk, t, L, E, ce, e1, e2, hq, hce, hcv, hcl, h1, hL, h2, h3⟩, st⟩
  · dsimp only [Pt.U, Pt.locs, Pt.cells, Pt.slots] at X' e1 e2 h1 h2 h3 st
    subst h1; subst h2; subst h3
    exact Or.inl ⟨v, (T.setVm vm₁).calling g' mk (Value.ref b :: As).toArray, t, U', L, hT, X', hL, e1, e2, hq, st⟩
  · dsimp only [Pt.U, Pt.locs, Pt.cells, Pt.slots] at X' e1 e2 h1 h2 h3 st hcl
    subst h1; subst h2; subst h3
    exact Or.inr ⟨q, (T.setVm vm₁).calling g' mk (Value.ref b :: As).toArray, t, U', L, E, ce, hT, X', hL, e1, e2, hq, hce, hcv, vx_cls hW₁ hcl, st⟩
theorem vx_runSX {hh : List (Nat × Nat × Nat × Nat)} (S : CallFix p m c cc nL s args Ts own) (hM : vx_Met l y ws rm Pc Qc XC mc ms free) (cw : vx_CSW R s args own index y bytes maxL ret hh ws rm mc ms n) (hp : PreS s H Pc As)
    (hg : g.method = m) (hn : As.length = n) (hsize : g.locals.size = nL) (hstack : g.stack = As.reverse ++ rest) (hW : 2 * g.monitorRoom + (rest.map fun v => v.category).sum ≤ 8) (hdg : decode cc g.pc = .ok (.invokestatic index, 3)) (hf : cells + mc ≤ R.cells ∧ slots + ms ≤ R.slots) :
    vx_Run p l e R s m args below meth c H locs cells slots mc ms g rest (Qc As.toArray) XC free := by
  obtain ⟨⟨hrc, hrs, hfr, hlo, hws, hcw⟩, hcode, hini, hy, hlen, hl, hstt⟩ := cw
  have hK : vx_Back l R p e below s args y 3 8 (PreOf R mc ms Pc) (PostOf Qc mc ms free) (vx_Post XC mc ms free) := vx_backW (hh := hh) (bytes := bytes) (maxL := maxL) (ret := ret) hM hp.1 hrc hrs hfr hlo hws hcw (fun a' U hW => word_at hW (Or.inl (by first | rfl | simp [Cond.onTables, Cond.keeps, Cond.steady])) hini)
  obtain ⟨hx, hb, hml, ho, -⟩ := S
  intro T hT X
  rcases vx_callSX X hx (hh := hh) (bytes := bytes) (maxL := maxL) (ret := ret) ho hl hstt hini hcode hy hK hg (hsize.trans hml.symm) (argsL := As) (rest := rest) (fun sig h => hn.trans (hlen sig h)) hstack hW (by rw [hb]; exact hdg)
    (fun vm₁ hW₁ => ⟨hf.1, hf.2, hp.2 (T.setVm vm₁) hT hW₁⟩) with ⟨v, vm₁, ⟨U', l2, c2, s2⟩, hW₁, X', ⟨g', mk, t, L, e1, e2, hq, h1, hL, h2, h3⟩, st⟩ | ⟨q, vm₁, ⟨U', l2, c2, s2⟩, hW₁, X', ⟨g', mk, t, L, E, ce, e1, e2, hq, hce, hcv, hcl, h1, hL, h2, h3⟩, st⟩
  · dsimp only [Pt.U, Pt.locs, Pt.cells, Pt.slots] at X' e1 e2 h1 h2 h3 st
    subst h1; subst h2; subst h3
    exact Or.inl ⟨v, (T.setVm vm₁).calling g' mk As.toArray, t, U', L, hT, X', hL, e1, e2, hq, st⟩
  · dsimp only [Pt.U, Pt.locs, Pt.cells, Pt.slots] at X' e1 e2 h1 h2 h3 st hcl
    subst h1; subst h2; subst h3
    exact Or.inr ⟨q, (T.setVm vm₁).calling g' mk As.toArray, t, U', L, E, ce, hT, X', hL, e1, e2, hq, hce, hcv, vx_cls hW₁ hcl, st⟩
end
end VXH
theorem vx_ofWH {l : Launch} {y : MethodName} {ws ws' : List Cond} {rm : Room} {Pc : Array Value → State → Prop} {Qc : Array Value → State → Outcome → State → Prop} {XC : String → State → State → Prop} {mc ms : Nat} {free : Addr → Prop} {cc : ByteArray} {maxL : Nat} {ret : Option FieldType} {hh : List (Nat × Nat × Nat × Nat)}
    (hy : plainName y.cls = true) (hw : ws = Cond.codeWith y cc maxL ret hh :: ws')
    (body : ∀ p e s m args below meth c s₁, BodyLoose p l y (headSpec ws rm) cc maxL ret e s m args below meth c s₁ → c.maxLocals = maxL → Pc args s →
      W p l e (headSpec ws rm).room s m args below meth c s.heap [] 0 0 (vx_MQ below Qc XC args s mc ms free) (entryFrame m args maxL)) : vx_Met l y ws rm Pc Qc XC mc ms free := by
  refine MetFree.of_bodyS (code := cc) (maxLocals := maxL) (ret := ret) hy ?_ ?_
  · intro args s m h hn
    obtain ⟨m9, meth, c, hn9, h1, h2, h3, h4, -, h5, h6, -⟩ := Cond.codeWith_spec (atoms_spec (ws := ws) h _ (by rw [hw]; exact List.mem_cons_self))
    cases hn.symm.trans hn9
    exact ⟨meth, c, h1, h2, h3, h4, h5, h6⟩
  · intro p e s m args below meth c s₁ B hml hP _
    have hh0 : s₁.heap = s.heap := by rw [B.state]; rfl
    obtain ⟨t, a1, o, b1, b2, b3⟩ := body p e s m args below meth c s₁ B hml hP s₁ hh0 (Stand.of_body B)
    exact ⟨t, o, a1, b1, b2, b3⟩
/-! ===== END ===== -/

/-! ===== BEGIN printed: names, fields, word lists, decode rows ===== -/
def RX0 : String := "Tidewater$Ack"
def TX0 : u_T := fun k => match k with
  | 0 => ("Tidewater$Ack", "lows", "[I", true)
  | 1 => ("Tidewater$Ack", "highs", "[I", true)
  | 2 => ("Tidewater$Ack", "credits", "[I", true)
  | 3 => ("Tidewater$Ack", "ranges", "I", false)
  | 4 => ("Tidewater$Ack", "marked", "I", false)
  | _ => ("Tidewater$Ack", "creditOfAll", "I", false)
def tyX0 : Nat → FieldType := fun k => match k with
  | 0 => .array .int
  | 1 => .array .int
  | 2 => .array .int
  | 3 => .int
  | 4 => .int
  | _ => .int
abbrev wsX00 : List Cond := u_ws RX0 TX0 6
theorem nmX0 : ∀ a, a < 6 → ∀ b, b < 6 → a ≠ b → (TX0 a).2.1 ≠ (TX0 b).2.1 := by decide +kernel
theorem tyX0_ok : ∀ k, k < 6 → parseFieldDescriptor (TX0 k).2.2.1 = some (tyX0 k) := by decide +kernel
abbrev cX0_init : ByteArray := prog_2_method_1_code
def yX0_init : MethodName := ⟨RX0, "<init>", "()V"⟩
abbrev cX0_addRange : ByteArray := prog_2_method_2_code
def yX0_addRange : MethodName := ⟨RX0, "addRange", "(II)V"⟩
abbrev cX0_greatest : ByteArray := prog_2_method_3_code
def yX0_greatest : MethodName := ⟨RX0, "greatest", "()I"⟩
def RX1 : String := "Tidewater$Client"
def TX1 : u_T := fun k => match k with
  | 0 => ("Tidewater$Client", "network", "LTidewater$Network;", true)
  | 1 => ("Tidewater$Client", "streams", "[LTidewater$Stream;", true)
  | 2 => ("Tidewater$Client", "route0", "LTidewater$Route;", true)
  | 3 => ("Tidewater$Client", "route1", "LTidewater$Route;", true)
  | 4 => ("Tidewater$Client", "packets", "[LTidewater$Packet;", true)
  | 5 => ("Tidewater$Client", "sent", "I", false)
  | 6 => ("Tidewater$Client", "firstOpen", "I", false)
  | 7 => ("Tidewater$Client", "state", "I", false)
  | 8 => ("Tidewater$Client", "ticket", "I", false)
  | 9 => ("Tidewater$Client", "hasCookie", "Z", false)
  | 10 => ("Tidewater$Client", "hellos", "I", false)
  | 11 => ("Tidewater$Client", "helloAt", "I", false)
  | 12 => ("Tidewater$Client", "helloWait", "I", false)
  | 13 => ("Tidewater$Client", "closedAt", "I", false)
  | 14 => ("Tidewater$Client", "key", "I", false)
  | 15 => ("Tidewater$Client", "used", "I", false)
  | 16 => ("Tidewater$Client", "creditOfAll", "I", false)
  | 17 => ("Tidewater$Client", "lastStream", "I", false)
  | _ => ("Tidewater$Client", "marksKnown", "I", false)
def tyX1 : Nat → FieldType := fun k => match k with
  | 0 => .object "Tidewater$Network"
  | 1 => .array (.object "Tidewater$Stream")
  | 2 => .object "Tidewater$Route"
  | 3 => .object "Tidewater$Route"
  | 4 => .array (.object "Tidewater$Packet")
  | 5 => .int
  | 6 => .int
  | 7 => .int
  | 8 => .int
  | 9 => .boolean
  | 10 => .int
  | 11 => .int
  | 12 => .int
  | 13 => .int
  | 14 => .int
  | 15 => .int
  | 16 => .int
  | 17 => .int
  | _ => .int
abbrev wsX10 : List Cond := u_ws RX1 TX1 19
theorem nmX1 : ∀ a, a < 19 → ∀ b, b < 19 → a ≠ b → (TX1 a).2.1 ≠ (TX1 b).2.1 := by decide +kernel
theorem tyX1_ok : ∀ k, k < 19 → parseFieldDescriptor (TX1 k).2.2.1 = some (tyX1 k) := by decide +kernel
abbrev cX1_init : ByteArray := prog_3_method_1_code
def yX1_init : MethodName := ⟨RX1, "<init>", "(LTidewater$Network;[LTidewater$Stream;)V"⟩
abbrev cX1_routeOf : ByteArray := prog_3_method_2_code
def yX1_routeOf : MethodName := ⟨RX1, "routeOf", "(I)LTidewater$Route;"⟩
abbrev cX1_packetAt : ByteArray := prog_3_method_3_code
def yX1_packetAt : MethodName := ⟨RX1, "packetAt", "(I)LTidewater$Packet;"⟩
abbrev cX1_beginHello : ByteArray := prog_3_method_4_code
def yX1_beginHello : MethodName := ⟨RX1, "beginHello", "(I)V"⟩
abbrev cX1_sayHello : ByteArray := prog_3_method_5_code
def yX1_sayHello : MethodName := ⟨RX1, "sayHello", "()V"⟩
abbrev cX1_canChangeKey : ByteArray := prog_3_method_6_code
def yX1_canChangeKey : MethodName := ⟨RX1, "canChangeKey", "()Z"⟩
abbrev cX1_isAcknowledged : ByteArray := prog_3_method_7_code
def yX1_isAcknowledged : MethodName := ⟨RX1, "isAcknowledged", "(LTidewater$Packet;)Z"⟩
abbrev cX1_beginClosing : ByteArray := prog_3_method_8_code
def yX1_beginClosing : MethodName := ⟨RX1, "beginClosing", "()V"⟩
abbrev cX1_hearAll : ByteArray := prog_3_method_9_code
def yX1_hearAll : MethodName := ⟨RX1, "hearAll", "()V"⟩
abbrev cX1_hear : ByteArray := prog_3_method_10_code
def yX1_hear : MethodName := ⟨RX1, "hear", "(LTidewater$Message;)V"⟩
abbrev cX1_hearAccept : ByteArray := prog_3_method_11_code
def yX1_hearAccept : MethodName := ⟨RX1, "hearAccept", "(Z)V"⟩
abbrev cX1_leaveFlight : ByteArray := prog_3_method_12_code
def yX1_leaveFlight : MethodName := ⟨RX1, "leaveFlight", "(LTidewater$Packet;I)V"⟩
abbrev cX1_hearAck : ByteArray := prog_3_method_13_code
def yX1_hearAck : MethodName := ⟨RX1, "hearAck", "(LTidewater$Ack;)V"⟩
abbrev cX1_hearOfGreatest : ByteArray := prog_3_method_14_code
def yX1_hearOfGreatest : MethodName := ⟨RX1, "hearOfGreatest", "(LTidewater$Packet;ZI)V"⟩
abbrev cX1_acknowledge : ByteArray := prog_3_method_15_code
def yX1_acknowledge : MethodName := ⟨RX1, "acknowledge", "(LTidewater$Packet;)V"⟩
abbrev cX1_takeCredits : ByteArray := prog_3_method_16_code
def yX1_takeCredits : MethodName := ⟨RX1, "takeCredits", "(LTidewater$Ack;)V"⟩
abbrev cX1_findLosses : ByteArray := prog_3_method_17_code
def yX1_findLosses : MethodName := ⟨RX1, "findLosses", "(LTidewater$Route;Z)V"⟩
abbrev cX1_lowestInFlight : ByteArray := prog_3_method_18_code
def yX1_lowestInFlight : MethodName := ⟨RX1, "lowestInFlight", "(LTidewater$Route;)LTidewater$Packet;"⟩
abbrev cX1_lookAfter : ByteArray := prog_3_method_19_code
def yX1_lookAfter : MethodName := ⟨RX1, "lookAfter", "()V"⟩
abbrev cX1_probeInTime : ByteArray := prog_3_method_20_code
def yX1_probeInTime : MethodName := ⟨RX1, "probeInTime", "(LTidewater$Route;)V"⟩
abbrev cX1_sendData : ByteArray := prog_3_method_21_code
def yX1_sendData : MethodName := ⟨RX1, "sendData", "()V"⟩
abbrev cX1_routeToSend : ByteArray := prog_3_method_22_code
def yX1_routeToSend : MethodName := ⟨RX1, "routeToSend", "()LTidewater$Route;"⟩
abbrev cX1_sendLost : ByteArray := prog_3_method_23_code
def yX1_sendLost : MethodName := ⟨RX1, "sendLost", "(LTidewater$Route;)Z"⟩
abbrev cX1_sendNew : ByteArray := prog_3_method_24_code
def yX1_sendNew : MethodName := ⟨RX1, "sendNew", "(LTidewater$Route;)Z"⟩
abbrev cX1_sendPacket : ByteArray := prog_3_method_25_code
def yX1_sendPacket : MethodName := ⟨RX1, "sendPacket", "(LTidewater$Route;IIIZ)V"⟩
def RX2 : String := "Tidewater$Growth"
def TX2 : u_T := fun k => match k with
  | 0 => ("Tidewater$Growth", "way", "I", false)
  | 1 => ("Tidewater$Growth", "window", "I", false)
  | 2 => ("Tidewater$Growth", "bound", "I", false)
  | 3 => ("Tidewater$Growth", "harms", "I", false)
  | 4 => ("Tidewater$Growth", "windowBeforeHarm", "I", false)
  | 5 => ("Tidewater$Growth", "boundBeforeHarm", "I", false)
  | 6 => ("Tidewater$Growth", "harmedAt", "I", false)
  | 7 => ("Tidewater$Growth", "sentBeforeHarm", "I", false)
  | 8 => ("Tidewater$Growth", "harmingPacket", "I", false)
  | 9 => ("Tidewater$Growth", "rates", "[I", true)
  | _ => ("Tidewater$Growth", "nextRate", "I", false)
def tyX2 : Nat → FieldType := fun k => match k with
  | 0 => .int
  | 1 => .int
  | 2 => .int
  | 3 => .int
  | 4 => .int
  | 5 => .int
  | 6 => .int
  | 7 => .int
  | 8 => .int
  | 9 => .array .int
  | _ => .int
abbrev wsX20 : List Cond := u_ws RX2 TX2 11
theorem nmX2 : ∀ a, a < 11 → ∀ b, b < 11 → a ≠ b → (TX2 a).2.1 ≠ (TX2 b).2.1 := by decide +kernel
theorem tyX2_ok : ∀ k, k < 11 → parseFieldDescriptor (TX2 k).2.2.1 = some (tyX2 k) := by decide +kernel
abbrev cX2_init : ByteArray := prog_4_method_1_code
def yX2_init : MethodName := ⟨RX2, "<init>", "()V"⟩
abbrev cX2_grow : ByteArray := prog_4_method_2_code
def yX2_grow : MethodName := ⟨RX2, "grow", "(IIII)V"⟩
abbrev cX2_cubeStep : ByteArray := prog_4_method_3_code
def yX2_cubeStep : MethodName := ⟨RX2, "cubeStep", "(I)I"⟩
abbrev cX2_keepRate : ByteArray := prog_4_method_4_code
def yX2_keepRate : MethodName := ⟨RX2, "keepRate", "(I)V"⟩
abbrev cX2_greatestRate : ByteArray := prog_4_method_5_code
def yX2_greatestRate : MethodName := ⟨RX2, "greatestRate", "()I"⟩
abbrev cX2_harm : ByteArray := prog_4_method_6_code
def yX2_harm : MethodName := ⟨RX2, "harm", "(IIII)V"⟩
abbrev cX2_takeBackHarm : ByteArray := prog_4_method_7_code
def yX2_takeBackHarm : MethodName := ⟨RX2, "takeBackHarm", "(I)V"⟩
def RX3 : String := "Tidewater$Lane"
def TX3 : u_T := fun k => match k with
  | 0 => ("Tidewater$Lane", "delay", "I", false)
  | 1 => ("Tidewater$Lane", "rate", "I", false)
  | 2 => ("Tidewater$Lane", "room", "I", false)
  | 3 => ("Tidewater$Lane", "mark", "I", false)
  | 4 => ("Tidewater$Lane", "isUp", "Z", false)
  | 5 => ("Tidewater$Lane", "loseToServer", "I", false)
  | 6 => ("Tidewater$Lane", "loseToClient", "I", false)
  | 7 => ("Tidewater$Lane", "lateMany", "I", false)
  | 8 => ("Tidewater$Lane", "lateBy", "I", false)
  | 9 => ("Tidewater$Lane", "queue", "[LTidewater$Message;", true)
  | 10 => ("Tidewater$Lane", "head", "I", false)
  | _ => ("Tidewater$Lane", "length", "I", false)
def tyX3 : Nat → FieldType := fun k => match k with
  | 0 => .int
  | 1 => .int
  | 2 => .int
  | 3 => .int
  | 4 => .boolean
  | 5 => .int
  | 6 => .int
  | 7 => .int
  | 8 => .int
  | 9 => .array (.object "Tidewater$Message")
  | 10 => .int
  | _ => .int
abbrev wsX30 : List Cond := u_ws RX3 TX3 12
theorem nmX3 : ∀ a, a < 12 → ∀ b, b < 12 → a ≠ b → (TX3 a).2.1 ≠ (TX3 b).2.1 := by decide +kernel
theorem tyX3_ok : ∀ k, k < 12 → parseFieldDescriptor (TX3 k).2.2.1 = some (tyX3 k) := by decide +kernel
abbrev cX3_init : ByteArray := prog_5_method_1_code
def yX3_init : MethodName := ⟨RX3, "<init>", "()V"⟩
abbrev cX3_letsToServer : ByteArray := prog_5_method_2_code
def yX3_letsToServer : MethodName := ⟨RX3, "letsToServer", "()Z"⟩
abbrev cX3_letsToClient : ByteArray := prog_5_method_3_code
def yX3_letsToClient : MethodName := ⟨RX3, "letsToClient", "()Z"⟩
abbrev cX3_hasRoom : ByteArray := prog_5_method_4_code
def yX3_hasRoom : MethodName := ⟨RX3, "hasRoom", "()Z"⟩
abbrev cX3_append : ByteArray := prog_5_method_5_code
def yX3_append : MethodName := ⟨RX3, "append", "(LTidewater$Message;)V"⟩
abbrev cX3_removeFirst : ByteArray := prog_5_method_6_code
def yX3_removeFirst : MethodName := ⟨RX3, "removeFirst", "()LTidewater$Message;"⟩
abbrev cX3_takeLateness : ByteArray := prog_5_method_7_code
def yX3_takeLateness : MethodName := ⟨RX3, "takeLateness", "()I"⟩
def RX4 : String := "Tidewater$Message"
def TX4 : u_T := fun k => match k with
  | 0 => ("Tidewater$Message", "kind", "I", true)
  | 1 => ("Tidewater$Message", "path", "I", false)
  | 2 => ("Tidewater$Message", "due", "I", false)
  | 3 => ("Tidewater$Message", "data", "LTidewater$Packet;", false)
  | 4 => ("Tidewater$Message", "ack", "LTidewater$Ack;", false)
  | 5 => ("Tidewater$Message", "ticket", "I", false)
  | 6 => ("Tidewater$Message", "hasCookie", "Z", false)
  | _ => ("Tidewater$Message", "takesEarly", "Z", false)
def tyX4 : Nat → FieldType := fun k => match k with
  | 0 => .int
  | 1 => .int
  | 2 => .int
  | 3 => .object "Tidewater$Packet"
  | 4 => .object "Tidewater$Ack"
  | 5 => .int
  | 6 => .boolean
  | _ => .boolean
abbrev wsX40 : List Cond := u_ws RX4 TX4 8
theorem nmX4 : ∀ a, a < 8 → ∀ b, b < 8 → a ≠ b → (TX4 a).2.1 ≠ (TX4 b).2.1 := by decide +kernel
theorem tyX4_ok : ∀ k, k < 8 → parseFieldDescriptor (TX4 k).2.2.1 = some (tyX4 k) := by decide +kernel
abbrev cX4_init : ByteArray := prog_6_method_1_code
def yX4_init : MethodName := ⟨RX4, "<init>", "(I)V"⟩
def RX5 : String := "Tidewater$Network"
def TX5 : u_T := fun k => match k with
  | 0 => ("Tidewater$Network", "lane0", "LTidewater$Lane;", true)
  | 1 => ("Tidewater$Network", "lane1", "LTidewater$Lane;", true)
  | 2 => ("Tidewater$Network", "toServer", "LTidewater$Transit;", true)
  | 3 => ("Tidewater$Network", "toClient", "LTidewater$Transit;", true)
  | 4 => ("Tidewater$Network", "foreigner", "LTidewater$Message;", true)
  | _ => ("Tidewater$Network", "now", "I", false)
def tyX5 : Nat → FieldType := fun k => match k with
  | 0 => .object "Tidewater$Lane"
  | 1 => .object "Tidewater$Lane"
  | 2 => .object "Tidewater$Transit"
  | 3 => .object "Tidewater$Transit"
  | 4 => .object "Tidewater$Message"
  | _ => .int
abbrev wsX50 : List Cond := u_ws RX5 TX5 6
theorem nmX5 : ∀ a, a < 6 → ∀ b, b < 6 → a ≠ b → (TX5 a).2.1 ≠ (TX5 b).2.1 := by decide +kernel
theorem tyX5_ok : ∀ k, k < 6 → parseFieldDescriptor (TX5 k).2.2.1 = some (tyX5 k) := by decide +kernel
abbrev cX5_init : ByteArray := prog_7_method_1_code
def yX5_init : MethodName := ⟨RX5, "<init>", "()V"⟩
abbrev cX5_laneOf : ByteArray := prog_7_method_2_code
def yX5_laneOf : MethodName := ⟨RX5, "laneOf", "(I)LTidewater$Lane;"⟩
abbrev cX5_putToServer : ByteArray := prog_7_method_3_code
def yX5_putToServer : MethodName := ⟨RX5, "putToServer", "(ILTidewater$Message;)V"⟩
abbrev cX5_putToClient : ByteArray := prog_7_method_4_code
def yX5_putToClient : MethodName := ⟨RX5, "putToClient", "(ILTidewater$Message;)V"⟩
abbrev cX5_putForeign : ByteArray := prog_7_method_5_code
def yX5_putForeign : MethodName := ⟨RX5, "putForeign", "(II)I"⟩
abbrev cX5_letLeave : ByteArray := prog_7_method_6_code
def yX5_letLeave : MethodName := ⟨RX5, "letLeave", "()V"⟩
abbrev cX5_letLeaveLane : ByteArray := prog_7_method_7_code
def yX5_letLeaveLane : MethodName := ⟨RX5, "letLeaveLane", "(LTidewater$Lane;)V"⟩
def RX6 : String := "Tidewater$Packet"
def TX6 : u_T := fun k => match k with
  | 0 => ("Tidewater$Packet", "number", "I", true)
  | 1 => ("Tidewater$Packet", "path", "I", true)
  | 2 => ("Tidewater$Packet", "sentAt", "I", true)
  | 3 => ("Tidewater$Packet", "stream", "I", true)
  | 4 => ("Tidewater$Packet", "first", "I", true)
  | 5 => ("Tidewater$Packet", "many", "I", true)
  | 6 => ("Tidewater$Packet", "key", "I", false)
  | 7 => ("Tidewater$Packet", "isProbe", "Z", false)
  | 8 => ("Tidewater$Packet", "isEarly", "Z", false)
  | 9 => ("Tidewater$Packet", "isMarked", "Z", false)
  | 10 => ("Tidewater$Packet", "known", "I", false)
  | 11 => ("Tidewater$Packet", "fate", "I", false)
  | 12 => ("Tidewater$Packet", "place", "I", false)
  | _ => ("Tidewater$Packet", "deliveredBefore", "I", false)
def tyX6 : Nat → FieldType := fun k => match k with
  | 0 => .int
  | 1 => .int
  | 2 => .int
  | 3 => .int
  | 4 => .int
  | 5 => .int
  | 6 => .int
  | 7 => .boolean
  | 8 => .boolean
  | 9 => .boolean
  | 10 => .int
  | 11 => .int
  | 12 => .int
  | _ => .int
abbrev wsX60 : List Cond := u_ws RX6 TX6 14
theorem nmX6 : ∀ a, a < 14 → ∀ b, b < 14 → a ≠ b → (TX6 a).2.1 ≠ (TX6 b).2.1 := by decide +kernel
theorem tyX6_ok : ∀ k, k < 14 → parseFieldDescriptor (TX6 k).2.2.1 = some (tyX6 k) := by decide +kernel
abbrev cX6_init : ByteArray := prog_8_method_1_code
def yX6_init : MethodName := ⟨RX6, "<init>", "(IIIIII)V"⟩
def RX7 : String := "Tidewater$Route"
def TX7 : u_T := fun k => match k with
  | 0 => ("Tidewater$Route", "path", "I", true)
  | 1 => ("Tidewater$Route", "growth", "LTidewater$Growth;", true)
  | 2 => ("Tidewater$Route", "isChecked", "Z", false)
  | 3 => ("Tidewater$Route", "inFlight", "I", false)
  | 4 => ("Tidewater$Route", "time", "I", false)
  | 5 => ("Tidewater$Route", "spread", "I", false)
  | 6 => ("Tidewater$Route", "least", "I", false)
  | 7 => ("Tidewater$Route", "latest", "I", false)
  | 8 => ("Tidewater$Route", "isMeasured", "Z", false)
  | 9 => ("Tidewater$Route", "places", "I", false)
  | 10 => ("Tidewater$Route", "greatestPlace", "I", false)
  | 11 => ("Tidewater$Route", "delivered", "I", false)
  | 12 => ("Tidewater$Route", "lastSentAt", "I", false)
  | 13 => ("Tidewater$Route", "sentNow", "I", false)
  | 14 => ("Tidewater$Route", "doublings", "I", false)
  | 15 => ("Tidewater$Route", "losses", "I", false)
  | 16 => ("Tidewater$Route", "falseLosses", "I", false)
  | _ => ("Tidewater$Route", "probes", "I", false)
def tyX7 : Nat → FieldType := fun k => match k with
  | 0 => .int
  | 1 => .object "Tidewater$Growth"
  | 2 => .boolean
  | 3 => .int
  | 4 => .int
  | 5 => .int
  | 6 => .int
  | 7 => .int
  | 8 => .boolean
  | 9 => .int
  | 10 => .int
  | 11 => .int
  | 12 => .int
  | 13 => .int
  | 14 => .int
  | 15 => .int
  | 16 => .int
  | _ => .int
abbrev wsX70 : List Cond := u_ws RX7 TX7 18
theorem nmX7 : ∀ a, a < 18 → ∀ b, b < 18 → a ≠ b → (TX7 a).2.1 ≠ (TX7 b).2.1 := by decide +kernel
theorem tyX7_ok : ∀ k, k < 18 → parseFieldDescriptor (TX7 k).2.2.1 = some (tyX7 k) := by decide +kernel
abbrev cX7_init : ByteArray := prog_9_method_1_code
def yX7_init : MethodName := ⟨RX7, "<init>", "(I)V"⟩
abbrev cX7_measure : ByteArray := prog_9_method_2_code
def yX7_measure : MethodName := ⟨RX7, "measure", "(I)V"⟩
abbrev cX7_canSend : ByteArray := prog_9_method_3_code
def yX7_canSend : MethodName := ⟨RX7, "canSend", "()Z"⟩
abbrev cX7_mostPerTick : ByteArray := prog_9_method_4_code
def yX7_mostPerTick : MethodName := ⟨RX7, "mostPerTick", "()I"⟩
abbrev cX7_isProbeDue : ByteArray := prog_9_method_5_code
def yX7_isProbeDue : MethodName := ⟨RX7, "isProbeDue", "(I)Z"⟩
abbrev cX7_isLostByOrder : ByteArray := prog_9_method_6_code
def yX7_isLostByOrder : MethodName := ⟨RX7, "isLostByOrder", "(LTidewater$Packet;)Z"⟩
abbrev cX7_isLostByTime : ByteArray := prog_9_method_7_code
def yX7_isLostByTime : MethodName := ⟨RX7, "isLostByTime", "(LTidewater$Packet;I)Z"⟩
def RX8 : String := "Tidewater$Server"
def TX8 : u_T := fun k => match k with
  | 0 => ("Tidewater$Server", "network", "LTidewater$Network;", true)
  | 1 => ("Tidewater$Server", "streams", "[LTidewater$Stream;", true)
  | 2 => ("Tidewater$Server", "state", "I", false)
  | 3 => ("Tidewater$Server", "asksCookies", "Z", false)
  | 4 => ("Tidewater$Server", "takesEarly", "Z", false)
  | 5 => ("Tidewater$Server", "isUsed", "[Z", true)
  | 6 => ("Tidewater$Server", "key", "I", false)
  | 7 => ("Tidewater$Server", "keyBefore", "I", false)
  | 8 => ("Tidewater$Server", "keyBeforeEnds", "I", false)
  | 9 => ("Tidewater$Server", "isTaken", "[Z", true)
  | 10 => ("Tidewater$Server", "greatestTaken", "I", false)
  | 11 => ("Tidewater$Server", "markedTaken", "I", false)
  | 12 => ("Tidewater$Server", "takenSinceAck", "I", false)
  | 13 => ("Tidewater$Server", "ackDue", "I", false)
  | 14 => ("Tidewater$Server", "lastPath", "I", false)
  | _ => ("Tidewater$Server", "acksPut", "I", false)
def tyX8 : Nat → FieldType := fun k => match k with
  | 0 => .object "Tidewater$Network"
  | 1 => .array (.object "Tidewater$Stream")
  | 2 => .int
  | 3 => .boolean
  | 4 => .boolean
  | 5 => .array .boolean
  | 6 => .int
  | 7 => .int
  | 8 => .int
  | 9 => .array .boolean
  | 10 => .int
  | 11 => .int
  | 12 => .int
  | 13 => .int
  | 14 => .int
  | _ => .int
abbrev wsX80 : List Cond := u_ws RX8 TX8 16
theorem nmX8 : ∀ a, a < 16 → ∀ b, b < 16 → a ≠ b → (TX8 a).2.1 ≠ (TX8 b).2.1 := by decide +kernel
theorem tyX8_ok : ∀ k, k < 16 → parseFieldDescriptor (TX8 k).2.2.1 = some (tyX8 k) := by decide +kernel
abbrev cX8_init : ByteArray := prog_10_method_1_code
def yX8_init : MethodName := ⟨RX8, "<init>", "(LTidewater$Network;[LTidewater$Stream;)V"⟩
abbrev cX8_readBytes : ByteArray := prog_10_method_2_code
def yX8_readBytes : MethodName := ⟨RX8, "readBytes", "(LTidewater$Stream;I)I"⟩
abbrev cX8_forget : ByteArray := prog_10_method_3_code
def yX8_forget : MethodName := ⟨RX8, "forget", "()V"⟩
abbrev cX8_hearAll : ByteArray := prog_10_method_4_code
def yX8_hearAll : MethodName := ⟨RX8, "hearAll", "()V"⟩
abbrev cX8_hear : ByteArray := prog_10_method_5_code
def yX8_hear : MethodName := ⟨RX8, "hear", "(LTidewater$Message;)V"⟩
abbrev cX8_hearHello : ByteArray := prog_10_method_6_code
def yX8_hearHello : MethodName := ⟨RX8, "hearHello", "(LTidewater$Message;)V"⟩
abbrev cX8_useTicket : ByteArray := prog_10_method_7_code
def yX8_useTicket : MethodName := ⟨RX8, "useTicket", "(I)Z"⟩
abbrev cX8_hearWhenEstablished : ByteArray := prog_10_method_8_code
def yX8_hearWhenEstablished : MethodName := ⟨RX8, "hearWhenEstablished", "(LTidewater$Message;)V"⟩
abbrev cX8_hearData : ByteArray := prog_10_method_9_code
def yX8_hearData : MethodName := ⟨RX8, "hearData", "(LTidewater$Packet;)V"⟩
abbrev cX8_takesKey : ByteArray := prog_10_method_10_code
def yX8_takesKey : MethodName := ⟨RX8, "takesKey", "(I)Z"⟩
abbrev cX8_acknowledgeInTime : ByteArray := prog_10_method_11_code
def yX8_acknowledgeInTime : MethodName := ⟨RX8, "acknowledgeInTime", "()V"⟩
abbrev cX8_acknowledge : ByteArray := prog_10_method_12_code
def yX8_acknowledge : MethodName := ⟨RX8, "acknowledge", "()V"⟩
abbrev cX8_makeAck : ByteArray := prog_10_method_13_code
def yX8_makeAck : MethodName := ⟨RX8, "makeAck", "()LTidewater$Ack;"⟩
abbrev cX8_nextTaken : ByteArray := prog_10_method_14_code
def yX8_nextTaken : MethodName := ⟨RX8, "nextTaken", "(IZ)I"⟩
def RX9 : String := "Tidewater$Stream"
def TX9 : u_T := fun k => match k with
  | 0 => ("Tidewater$Stream", "written", "I", false)
  | 1 => ("Tidewater$Stream", "sent", "I", false)
  | 2 => ("Tidewater$Stream", "acknowledged", "I", false)
  | 3 => ("Tidewater$Stream", "lost", "I", false)
  | 4 => ("Tidewater$Stream", "credit", "I", false)
  | 5 => ("Tidewater$Stream", "gotInOrder", "I", false)
  | 6 => ("Tidewater$Stream", "consumed", "I", false)
  | 7 => ("Tidewater$Stream", "isAcknowledged", "[Z", true)
  | 8 => ("Tidewater$Stream", "flights", "[I", true)
  | _ => ("Tidewater$Stream", "isGot", "[Z", true)
def tyX9 : Nat → FieldType := fun k => match k with
  | 0 => .int
  | 1 => .int
  | 2 => .int
  | 3 => .int
  | 4 => .int
  | 5 => .int
  | 6 => .int
  | 7 => .array .boolean
  | 8 => .array .int
  | _ => .array .boolean
abbrev wsX90 : List Cond := u_ws RX9 TX9 10
theorem nmX9 : ∀ a, a < 10 → ∀ b, b < 10 → a ≠ b → (TX9 a).2.1 ≠ (TX9 b).2.1 := by decide +kernel
theorem tyX9_ok : ∀ k, k < 10 → parseFieldDescriptor (TX9 k).2.2.1 = some (tyX9 k) := by decide +kernel
abbrev cX9_init : ByteArray := prog_11_method_1_code
def yX9_init : MethodName := ⟨RX9, "<init>", "()V"⟩
abbrev cX9_isLost : ByteArray := prog_11_method_2_code
def yX9_isLost : MethodName := ⟨RX9, "isLost", "(I)Z"⟩
abbrev cX9_lowestLost : ByteArray := prog_11_method_3_code
def yX9_lowestLost : MethodName := ⟨RX9, "lowestLost", "()I"⟩
abbrev cX9_lostInARow : ByteArray := prog_11_method_4_code
def yX9_lostInARow : MethodName := ⟨RX9, "lostInARow", "(I)I"⟩
abbrev cX9_canSendAnew : ByteArray := prog_11_method_5_code
def yX9_canSendAnew : MethodName := ⟨RX9, "canSendAnew", "(I)I"⟩
abbrev cX9_takeOff : ByteArray := prog_11_method_6_code
def yX9_takeOff : MethodName := ⟨RX9, "takeOff", "(II)V"⟩
abbrev cX9_land : ByteArray := prog_11_method_7_code
def yX9_land : MethodName := ⟨RX9, "land", "(II)V"⟩
abbrev cX9_acknowledge : ByteArray := prog_11_method_8_code
def yX9_acknowledge : MethodName := ⟨RX9, "acknowledge", "(II)V"⟩
abbrev cX9_arrive : ByteArray := prog_11_method_9_code
def yX9_arrive : MethodName := ⟨RX9, "arrive", "(II)V"⟩
def RX10 : String := "Tidewater$Transit"
def TX10 : u_T := fun k => match k with
  | 0 => ("Tidewater$Transit", "messages", "[LTidewater$Message;", true)
  | _ => ("Tidewater$Transit", "length", "I", false)
def tyX10 : Nat → FieldType := fun k => match k with
  | 0 => .array (.object "Tidewater$Message")
  | _ => .int
abbrev wsX100 : List Cond := u_ws RX10 TX10 2
theorem nmX10 : ∀ a, a < 2 → ∀ b, b < 2 → a ≠ b → (TX10 a).2.1 ≠ (TX10 b).2.1 := by decide +kernel
theorem tyX10_ok : ∀ k, k < 2 → parseFieldDescriptor (TX10 k).2.2.1 = some (tyX10 k) := by decide +kernel
abbrev cX10_init : ByteArray := prog_12_method_1_code
def yX10_init : MethodName := ⟨RX10, "<init>", "(I)V"⟩
abbrev cX10_append : ByteArray := prog_12_method_2_code
def yX10_append : MethodName := ⟨RX10, "append", "(LTidewater$Message;I)V"⟩
abbrev cX10_takeDue : ByteArray := prog_12_method_3_code
def yX10_takeDue : MethodName := ⟨RX10, "takeDue", "(I)LTidewater$Message;"⟩
def RX11 : String := "Tidewater"
def TX11 : u_T := fun k => match k with
  | 0 => ("Tidewater", "network", "LTidewater$Network;", true)
  | 1 => ("Tidewater", "streams", "[LTidewater$Stream;", true)
  | 2 => ("Tidewater", "server", "LTidewater$Server;", true)
  | 3 => ("Tidewater", "client", "LTidewater$Client;", true)
  | _ => ("Tidewater", "gotRow", "[Z", true)
def tyX11 : Nat → FieldType := fun k => match k with
  | 0 => .object "Tidewater$Network"
  | 1 => .array (.object "Tidewater$Stream")
  | 2 => .object "Tidewater$Server"
  | 3 => .object "Tidewater$Client"
  | _ => .array .boolean
abbrev wsX110 : List Cond := u_ws RX11 TX11 5
theorem nmX11 : ∀ a, a < 5 → ∀ b, b < 5 → a ≠ b → (TX11 a).2.1 ≠ (TX11 b).2.1 := by decide +kernel
theorem tyX11_ok : ∀ k, k < 5 → parseFieldDescriptor (TX11 k).2.2.1 = some (tyX11 k) := by decide +kernel
abbrev cX11_init : ByteArray := prog_1_method_1_code
def yX11_init : MethodName := ⟨RX11, "<init>", "()V"⟩
abbrev cX11_setPath : ByteArray := prog_1_method_2_code
def yX11_setPath : MethodName := ⟨RX11, "setPath", "(IIIII)V"⟩
abbrev cX11_setUp : ByteArray := prog_1_method_3_code
def yX11_setUp : MethodName := ⟨RX11, "setUp", "(IZ)Z"⟩
abbrev cX11_lose : ByteArray := prog_1_method_4_code
def yX11_lose : MethodName := ⟨RX11, "lose", "(IZI)V"⟩
abbrev cX11_late : ByteArray := prog_1_method_5_code
def yX11_late : MethodName := ⟨RX11, "late", "(III)V"⟩
abbrev cX11_foreign : ByteArray := prog_1_method_6_code
def yX11_foreign : MethodName := ⟨RX11, "foreign", "(II)I"⟩
abbrev cX11_setCookies : ByteArray := prog_1_method_7_code
def yX11_setCookies : MethodName := ⟨RX11, "setCookies", "(Z)Z"⟩
abbrev cX11_read : ByteArray := prog_1_method_8_code
def yX11_read : MethodName := ⟨RX11, "read", "(II)I"⟩
abbrev cX11_loseState : ByteArray := prog_1_method_9_code
def yX11_loseState : MethodName := ⟨RX11, "loseState", "()V"⟩
abbrev cX11_connect : ByteArray := prog_1_method_10_code
def yX11_connect : MethodName := ⟨RX11, "connect", "(I)V"⟩
abbrev cX11_write : ByteArray := prog_1_method_11_code
def yX11_write : MethodName := ⟨RX11, "write", "(II)I"⟩
abbrev cX11_setWay : ByteArray := prog_1_method_12_code
def yX11_setWay : MethodName := ⟨RX11, "setWay", "(II)I"⟩
abbrev cX11_check : ByteArray := prog_1_method_13_code
def yX11_check : MethodName := ⟨RX11, "check", "(I)V"⟩
abbrev cX11_use : ByteArray := prog_1_method_14_code
def yX11_use : MethodName := ⟨RX11, "use", "(I)I"⟩
abbrev cX11_changeKey : ByteArray := prog_1_method_15_code
def yX11_changeKey : MethodName := ⟨RX11, "changeKey", "()I"⟩
abbrev cX11_close : ByteArray := prog_1_method_16_code
def yX11_close : MethodName := ⟨RX11, "close", "()V"⟩
abbrev cX11_tick : ByteArray := prog_1_method_17_code
def yX11_tick : MethodName := ⟨RX11, "tick", "(I)I"⟩
abbrev cX11_now : ByteArray := prog_1_method_18_code
def yX11_now : MethodName := ⟨RX11, "now", "()I"⟩
abbrev cX11_state : ByteArray := prog_1_method_19_code
def yX11_state : MethodName := ⟨RX11, "state", "(I)I"⟩
abbrev cX11_path : ByteArray := prog_1_method_20_code
def yX11_path : MethodName := ⟨RX11, "path", "(II)I"⟩
abbrev cX11_stream : ByteArray := prog_1_method_21_code
def yX11_stream : MethodName := ⟨RX11, "stream", "(II)I"⟩
abbrev cX11_credit : ByteArray := prog_1_method_22_code
def yX11_credit : MethodName := ⟨RX11, "credit", "()I"⟩
abbrev cX11_packets : ByteArray := prog_1_method_23_code
def yX11_packets : MethodName := ⟨RX11, "packets", "()I"⟩
abbrev cX11_packet : ByteArray := prog_1_method_24_code
def yX11_packet : MethodName := ⟨RX11, "packet", "(II)I"⟩
abbrev cX11_count : ByteArray := prog_1_method_25_code
def yX11_count : MethodName := ⟨RX11, "count", "(I)I"⟩
abbrev cX11_inFlightAnew : ByteArray := prog_1_method_26_code
def yX11_inFlightAnew : MethodName := ⟨RX11, "inFlightAnew", "(I)I"⟩
abbrev cX11_gotAnew : ByteArray := prog_1_method_27_code
def yX11_gotAnew : MethodName := ⟨RX11, "gotAnew", "(I)I"⟩
abbrev cX11_requirePacket : ByteArray := prog_1_method_28_code
def yX11_requirePacket : MethodName := ⟨RX11, "requirePacket", "(I)LTidewater$Packet;"⟩
abbrev cX11_requirePath : ByteArray := prog_1_method_29_code
def yX11_requirePath : MethodName := ⟨RX11, "requirePath", "(I)V"⟩
abbrev cX11_requireStream : ByteArray := prog_1_method_30_code
def yX11_requireStream : MethodName := ⟨RX11, "requireStream", "(I)V"⟩
abbrev cX11_requireRange : ByteArray := prog_1_method_31_code
def yX11_requireRange : MethodName := ⟨RX11, "requireRange", "(III)V"⟩
abbrev cX11_requireState : ByteArray := prog_1_method_32_code
def yX11_requireState : MethodName := ⟨RX11, "requireState", "(Z)V"⟩
abbrev cX11_asNumber : ByteArray := prog_1_method_33_code
def yX11_asNumber : MethodName := ⟨RX11, "asNumber", "(Z)I"⟩
abbrev cX11_clearRow : ByteArray := prog_1_method_34_code
def yX11_clearRow : MethodName := ⟨RX11, "clearRow", "([Z)V"⟩
abbrev cX11_markRow : ByteArray := prog_1_method_35_code
def yX11_markRow : MethodName := ⟨RX11, "markRow", "([ZII)V"⟩
abbrev cX11_lengthOfPrefix : ByteArray := prog_1_method_36_code
def yX11_lengthOfPrefix : MethodName := ⟨RX11, "lengthOfPrefix", "([ZI)I"⟩
def RX12 : String := "TidewaterModel"
def TX12 : u_T := fun k => match k with
  | 0 => ("TidewaterModel", "now", "I", false)
  | 1 => ("TidewaterModel", "delays", "[I", true)
  | 2 => ("TidewaterModel", "rates", "[I", true)
  | 3 => ("TidewaterModel", "rooms", "[I", true)
  | 4 => ("TidewaterModel", "marks", "[I", true)
  | 5 => ("TidewaterModel", "downs", "[Z", true)
  | 6 => ("TidewaterModel", "loseServer", "[I", true)
  | 7 => ("TidewaterModel", "loseClient", "[I", true)
  | 8 => ("TidewaterModel", "lateMany", "[I", true)
  | 9 => ("TidewaterModel", "lateBy", "[I", true)
  | 10 => ("TidewaterModel", "queues", "[I", true)
  | 11 => ("TidewaterModel", "queued", "[I", true)
  | 12 => ("TidewaterModel", "sorts", "[I", true)
  | 13 => ("TidewaterModel", "infos", "[I", true)
  | 14 => ("TidewaterModel", "thingPaths", "[I", true)
  | 15 => ("TidewaterModel", "things", "I", false)
  | 16 => ("TidewaterModel", "leftThings", "[I", true)
  | 17 => ("TidewaterModel", "leftTicks", "[I", true)
  | 18 => ("TidewaterModel", "left", "I", false)
  | 19 => ("TidewaterModel", "answerSorts", "[I", true)
  | 20 => ("TidewaterModel", "answerInfos", "[I", true)
  | 21 => ("TidewaterModel", "answerPaths", "[I", true)
  | 22 => ("TidewaterModel", "answerTicks", "[I", true)
  | 23 => ("TidewaterModel", "answers", "I", false)
  | 24 => ("TidewaterModel", "tolds", "[I", true)
  | 25 => ("TidewaterModel", "tells", "I", false)
  | 26 => ("TidewaterModel", "server", "I", false)
  | 27 => ("TidewaterModel", "asksCookies", "Z", false)
  | 28 => ("TidewaterModel", "takesEarly", "Z", false)
  | 29 => ("TidewaterModel", "usedTickets", "[Z", true)
  | 30 => ("TidewaterModel", "serverKey", "I", false)
  | 31 => ("TidewaterModel", "oldKey", "I", false)
  | 32 => ("TidewaterModel", "keyTick", "I", false)
  | 33 => ("TidewaterModel", "taken", "[Z", true)
  | 34 => ("TidewaterModel", "got", "[Z", true)
  | 35 => ("TidewaterModel", "reads", "[I", true)
  | 36 => ("TidewaterModel", "greatest", "I", false)
  | 37 => ("TidewaterModel", "sinceAck", "I", false)
  | 38 => ("TidewaterModel", "ackAt", "I", false)
  | 39 => ("TidewaterModel", "dataPath", "I", false)
  | 40 => ("TidewaterModel", "markedMany", "I", false)
  | 41 => ("TidewaterModel", "client", "I", false)
  | 42 => ("TidewaterModel", "ticket", "I", false)
  | 43 => ("TidewaterModel", "hasCookie", "Z", false)
  | 44 => ("TidewaterModel", "helloAt", "I", false)
  | 45 => ("TidewaterModel", "interval", "I", false)
  | 46 => ("TidewaterModel", "closeAt", "I", false)
  | 47 => ("TidewaterModel", "used", "I", false)
  | 48 => ("TidewaterModel", "clientKey", "I", false)
  | 49 => ("TidewaterModel", "knownMarked", "I", false)
  | 50 => ("TidewaterModel", "written", "[I", true)
  | 51 => ("TidewaterModel", "sent", "[I", true)
  | 52 => ("TidewaterModel", "credits", "[I", true)
  | 53 => ("TidewaterModel", "credit", "I", false)
  | 54 => ("TidewaterModel", "lastNew", "I", false)
  | 55 => ("TidewaterModel", "acked", "[Z", true)
  | 56 => ("TidewaterModel", "cover", "[I", true)
  | 57 => ("TidewaterModel", "paths", "[I", true)
  | 58 => ("TidewaterModel", "ticks", "[I", true)
  | 59 => ("TidewaterModel", "streams", "[I", true)
  | 60 => ("TidewaterModel", "firsts", "[I", true)
  | 61 => ("TidewaterModel", "many", "[I", true)
  | 62 => ("TidewaterModel", "states", "[I", true)
  | 63 => ("TidewaterModel", "fates", "[I", true)
  | 64 => ("TidewaterModel", "keys", "[I", true)
  | 65 => ("TidewaterModel", "probed", "[Z", true)
  | 66 => ("TidewaterModel", "early", "[Z", true)
  | 67 => ("TidewaterModel", "marked", "[Z", true)
  | 68 => ("TidewaterModel", "places", "[I", true)
  | 69 => ("TidewaterModel", "ackedThen", "[I", true)
  | 70 => ("TidewaterModel", "packets", "I", false)
  | 71 => ("TidewaterModel", "windows", "[I", true)
  | 72 => ("TidewaterModel", "bounds", "[I", true)
  | 73 => ("TidewaterModel", "ways", "[I", true)
  | 74 => ("TidewaterModel", "times", "[I", true)
  | 75 => ("TidewaterModel", "spreads", "[I", true)
  | 76 => ("TidewaterModel", "leasts", "[I", true)
  | 77 => ("TidewaterModel", "latests", "[I", true)
  | 78 => ("TidewaterModel", "measured", "[Z", true)
  | 79 => ("TidewaterModel", "checked", "[Z", true)
  | 80 => ("TidewaterModel", "sentOn", "[I", true)
  | 81 => ("TidewaterModel", "ackedPlace", "[I", true)
  | 82 => ("TidewaterModel", "lastSent", "[I", true)
  | 83 => ("TidewaterModel", "probes", "[I", true)
  | 84 => ("TidewaterModel", "ackedOn", "[I", true)
  | 85 => ("TidewaterModel", "found", "[I", true)
  | 86 => ("TidewaterModel", "foundMany", "[I", true)
  | 87 => ("TidewaterModel", "harmFrom", "[I", true)
  | 88 => ("TidewaterModel", "harmTick", "[I", true)
  | 89 => ("TidewaterModel", "harmBy", "[I", true)
  | 90 => ("TidewaterModel", "harmWindow", "[I", true)
  | 91 => ("TidewaterModel", "harmBound", "[I", true)
  | 92 => ("TidewaterModel", "sentNow", "[I", true)
  | 93 => ("TidewaterModel", "counts", "[I", true)
  | _ => ("TidewaterModel", "last", "I", false)
def tyX12 : Nat → FieldType := fun k => match k with
  | 0 => .int
  | 1 => .array .int
  | 2 => .array .int
  | 3 => .array .int
  | 4 => .array .int
  | 5 => .array .boolean
  | 6 => .array .int
  | 7 => .array .int
  | 8 => .array .int
  | 9 => .array .int
  | 10 => .array .int
  | 11 => .array .int
  | 12 => .array .int
  | 13 => .array .int
  | 14 => .array .int
  | 15 => .int
  | 16 => .array .int
  | 17 => .array .int
  | 18 => .int
  | 19 => .array .int
  | 20 => .array .int
  | 21 => .array .int
  | 22 => .array .int
  | 23 => .int
  | 24 => .array .int
  | 25 => .int
  | 26 => .int
  | 27 => .boolean
  | 28 => .boolean
  | 29 => .array .boolean
  | 30 => .int
  | 31 => .int
  | 32 => .int
  | 33 => .array .boolean
  | 34 => .array .boolean
  | 35 => .array .int
  | 36 => .int
  | 37 => .int
  | 38 => .int
  | 39 => .int
  | 40 => .int
  | 41 => .int
  | 42 => .int
  | 43 => .boolean
  | 44 => .int
  | 45 => .int
  | 46 => .int
  | 47 => .int
  | 48 => .int
  | 49 => .int
  | 50 => .array .int
  | 51 => .array .int
  | 52 => .array .int
  | 53 => .int
  | 54 => .int
  | 55 => .array .boolean
  | 56 => .array .int
  | 57 => .array .int
  | 58 => .array .int
  | 59 => .array .int
  | 60 => .array .int
  | 61 => .array .int
  | 62 => .array .int
  | 63 => .array .int
  | 64 => .array .int
  | 65 => .array .boolean
  | 66 => .array .boolean
  | 67 => .array .boolean
  | 68 => .array .int
  | 69 => .array .int
  | 70 => .int
  | 71 => .array .int
  | 72 => .array .int
  | 73 => .array .int
  | 74 => .array .int
  | 75 => .array .int
  | 76 => .array .int
  | 77 => .array .int
  | 78 => .array .boolean
  | 79 => .array .boolean
  | 80 => .array .int
  | 81 => .array .int
  | 82 => .array .int
  | 83 => .array .int
  | 84 => .array .int
  | 85 => .array .int
  | 86 => .array .int
  | 87 => .array .int
  | 88 => .array .int
  | 89 => .array .int
  | 90 => .array .int
  | 91 => .array .int
  | 92 => .array .int
  | 93 => .array .int
  | _ => .int
abbrev wsX120 : List Cond := u_ws RX12 TX12 95
theorem nmX12 : ∀ a, a < 95 → ∀ b, b < 95 → a ≠ b → (TX12 a).2.1 ≠ (TX12 b).2.1 := by decide +kernel
theorem tyX12_ok : ∀ k, k < 95 → parseFieldDescriptor (TX12 k).2.2.1 = some (tyX12 k) := by decide +kernel
abbrev cX12_init : ByteArray := prog_14_method_1_code
def yX12_init : MethodName := ⟨RX12, "<init>", "()V"⟩
abbrev cX12_thrown : ByteArray := prog_14_method_2_code
def yX12_thrown : MethodName := ⟨RX12, "thrown", "()I"⟩
abbrev cX12_in : ByteArray := prog_14_method_3_code
def yX12_in : MethodName := ⟨RX12, "in", "(III)Z"⟩
abbrev cX12_goes : ByteArray := prog_14_method_4_code
def yX12_goes : MethodName := ⟨RX12, "goes", "(ZZZ)Z"⟩
abbrev cX12_isPath : ByteArray := prog_14_method_5_code
def yX12_isPath : MethodName := ⟨RX12, "isPath", "(I)Z"⟩
abbrev cX12_isStream : ByteArray := prog_14_method_6_code
def yX12_isStream : MethodName := ⟨RX12, "isStream", "(I)Z"⟩
abbrev cX12_max : ByteArray := prog_14_method_7_code
def yX12_max : MethodName := ⟨RX12, "max", "(II)I"⟩
abbrev cX12_puts : ByteArray := prog_14_method_8_code
def yX12_puts : MethodName := ⟨RX12, "puts", "(III)V"⟩
abbrev cX12_answers : ByteArray := prog_14_method_9_code
def yX12_answers : MethodName := ⟨RX12, "answers", "(III)V"⟩
abbrev cX12_setPath : ByteArray := prog_14_method_10_code
def yX12_setPath : MethodName := ⟨RX12, "setPath", "(IIIII)V"⟩
abbrev cX12_setUp : ByteArray := prog_14_method_11_code
def yX12_setUp : MethodName := ⟨RX12, "setUp", "(IZ)Z"⟩
abbrev cX12_lose : ByteArray := prog_14_method_12_code
def yX12_lose : MethodName := ⟨RX12, "lose", "(IZI)V"⟩
abbrev cX12_late : ByteArray := prog_14_method_13_code
def yX12_late : MethodName := ⟨RX12, "late", "(III)V"⟩
abbrev cX12_foreign : ByteArray := prog_14_method_14_code
def yX12_foreign : MethodName := ⟨RX12, "foreign", "(II)I"⟩
abbrev cX12_leaves : ByteArray := prog_14_method_15_code
def yX12_leaves : MethodName := ⟨RX12, "leaves", "(I)V"⟩
abbrev cX12_gotOf : ByteArray := prog_14_method_16_code
def yX12_gotOf : MethodName := ⟨RX12, "gotOf", "(I)I"⟩
abbrev cX12_acknowledges : ByteArray := prog_14_method_17_code
def yX12_acknowledges : MethodName := ⟨RX12, "acknowledges", "()V"⟩
abbrev cX12_isByKey : ByteArray := prog_14_method_18_code
def yX12_isByKey : MethodName := ⟨RX12, "isByKey", "(I)Z"⟩
abbrev cX12_takes : ByteArray := prog_14_method_19_code
def yX12_takes : MethodName := ⟨RX12, "takes", "(I)V"⟩
abbrev cX12_hears : ByteArray := prog_14_method_20_code
def yX12_hears : MethodName := ⟨RX12, "hears", "(II)V"⟩
abbrev cX12_arrivesAtServer : ByteArray := prog_14_method_21_code
def yX12_arrivesAtServer : MethodName := ⟨RX12, "arrivesAtServer", "(I)V"⟩
abbrev cX12_setCookies : ByteArray := prog_14_method_22_code
def yX12_setCookies : MethodName := ⟨RX12, "setCookies", "(Z)Z"⟩
abbrev cX12_read : ByteArray := prog_14_method_23_code
def yX12_read : MethodName := ⟨RX12, "read", "(II)I"⟩
abbrev cX12_loseState : ByteArray := prog_14_method_24_code
def yX12_loseState : MethodName := ⟨RX12, "loseState", "()V"⟩
abbrev cX12_measures : ByteArray := prog_14_method_25_code
def yX12_measures : MethodName := ⟨RX12, "measures", "(II)V"⟩
abbrev cX12_inFlight : ByteArray := prog_14_method_26_code
def yX12_inFlight : MethodName := ⟨RX12, "inFlight", "(I)I"⟩
abbrev cX12_byCube : ByteArray := prog_14_method_27_code
def yX12_byCube : MethodName := ⟨RX12, "byCube", "(I)I"⟩
abbrev cX12_grows : ByteArray := prog_14_method_28_code
def yX12_grows : MethodName := ⟨RX12, "grows", "(I)V"⟩
abbrev cX12_harms : ByteArray := prog_14_method_29_code
def yX12_harms : MethodName := ⟨RX12, "harms", "(IIZ)V"⟩
abbrev cX12_lands : ByteArray := prog_14_method_30_code
def yX12_lands : MethodName := ⟨RX12, "lands", "(II)V"⟩
abbrev cX12_loses : ByteArray := prog_14_method_31_code
def yX12_loses : MethodName := ⟨RX12, "loses", "(I)V"⟩
abbrev cX12_losesByOrder : ByteArray := prog_14_method_32_code
def yX12_losesByOrder : MethodName := ⟨RX12, "losesByOrder", "(I)V"⟩
abbrev cX12_losesByTime : ByteArray := prog_14_method_33_code
def yX12_losesByTime : MethodName := ⟨RX12, "losesByTime", "(I)V"⟩
abbrev cX12_hearsOf : ByteArray := prog_14_method_34_code
def yX12_hearsOf : MethodName := ⟨RX12, "hearsOf", "(I)V"⟩
abbrev cX12_hearsAck : ByteArray := prog_14_method_35_code
def yX12_hearsAck : MethodName := ⟨RX12, "hearsAck", "(I)V"⟩
abbrev cX12_saysHello : ByteArray := prog_14_method_36_code
def yX12_saysHello : MethodName := ⟨RX12, "saysHello", "()V"⟩
abbrev cX12_hearsAccept : ByteArray := prog_14_method_37_code
def yX12_hearsAccept : MethodName := ⟨RX12, "hearsAccept", "(Z)V"⟩
abbrev cX12_arrivesAtClient : ByteArray := prog_14_method_38_code
def yX12_arrivesAtClient : MethodName := ⟨RX12, "arrivesAtClient", "(I)V"⟩
abbrev cX12_sends : ByteArray := prog_14_method_39_code
def yX12_sends : MethodName := ⟨RX12, "sends", "(IIIIZ)V"⟩
abbrev cX12_isLost : ByteArray := prog_14_method_40_code
def yX12_isLost : MethodName := ⟨RX12, "isLost", "(II)Z"⟩
abbrev cX12_firstLost : ByteArray := prog_14_method_41_code
def yX12_firstLost : MethodName := ⟨RX12, "firstLost", "(I)I"⟩
abbrev cX12_sentInAll : ByteArray := prog_14_method_42_code
def yX12_sentInAll : MethodName := ⟨RX12, "sentInAll", "()I"⟩
abbrev cX12_newOf : ByteArray := prog_14_method_43_code
def yX12_newOf : MethodName := ⟨RX12, "newOf", "(I)I"⟩
abbrev cX12_canTake : ByteArray := prog_14_method_44_code
def yX12_canTake : MethodName := ⟨RX12, "canTake", "(I)Z"⟩
abbrev cX12_nextPath : ByteArray := prog_14_method_45_code
def yX12_nextPath : MethodName := ⟨RX12, "nextPath", "()I"⟩
abbrev cX12_sendsNext : ByteArray := prog_14_method_46_code
def yX12_sendsNext : MethodName := ⟨RX12, "sendsNext", "(I)Z"⟩
abbrev cX12_sendsAll : ByteArray := prog_14_method_47_code
def yX12_sendsAll : MethodName := ⟨RX12, "sendsAll", "()V"⟩
abbrev cX12_probesOn : ByteArray := prog_14_method_48_code
def yX12_probesOn : MethodName := ⟨RX12, "probesOn", "(I)V"⟩
abbrev cX12_connect : ByteArray := prog_14_method_49_code
def yX12_connect : MethodName := ⟨RX12, "connect", "(I)V"⟩
abbrev cX12_write : ByteArray := prog_14_method_50_code
def yX12_write : MethodName := ⟨RX12, "write", "(II)I"⟩
abbrev cX12_setWay : ByteArray := prog_14_method_51_code
def yX12_setWay : MethodName := ⟨RX12, "setWay", "(II)I"⟩
abbrev cX12_check : ByteArray := prog_14_method_52_code
def yX12_check : MethodName := ⟨RX12, "check", "(I)V"⟩
abbrev cX12_use : ByteArray := prog_14_method_53_code
def yX12_use : MethodName := ⟨RX12, "use", "(I)I"⟩
abbrev cX12_changeKey : ByteArray := prog_14_method_54_code
def yX12_changeKey : MethodName := ⟨RX12, "changeKey", "()I"⟩
abbrev cX12_close : ByteArray := prog_14_method_55_code
def yX12_close : MethodName := ⟨RX12, "close", "()V"⟩
abbrev cX12_passes : ByteArray := prog_14_method_56_code
def yX12_passes : MethodName := ⟨RX12, "passes", "()V"⟩
abbrev cX12_tick : ByteArray := prog_14_method_57_code
def yX12_tick : MethodName := ⟨RX12, "tick", "(I)I"⟩
abbrev cX12_now : ByteArray := prog_14_method_58_code
def yX12_now : MethodName := ⟨RX12, "now", "()I"⟩
abbrev cX12_state : ByteArray := prog_14_method_59_code
def yX12_state : MethodName := ⟨RX12, "state", "(I)I"⟩
abbrev cX12_path : ByteArray := prog_14_method_60_code
def yX12_path : MethodName := ⟨RX12, "path", "(II)I"⟩
abbrev cX12_stream : ByteArray := prog_14_method_61_code
def yX12_stream : MethodName := ⟨RX12, "stream", "(II)I"⟩
abbrev cX12_credit : ByteArray := prog_14_method_62_code
def yX12_credit : MethodName := ⟨RX12, "credit", "()I"⟩
abbrev cX12_packets : ByteArray := prog_14_method_63_code
def yX12_packets : MethodName := ⟨RX12, "packets", "()I"⟩
abbrev cX12_packet : ByteArray := prog_14_method_64_code
def yX12_packet : MethodName := ⟨RX12, "packet", "(II)I"⟩
abbrev cX12_count : ByteArray := prog_14_method_65_code
def yX12_count : MethodName := ⟨RX12, "count", "(I)I"⟩
abbrev cX12_inFlightAnew : ByteArray := prog_14_method_66_code
def yX12_inFlightAnew : MethodName := ⟨RX12, "inFlightAnew", "(I)I"⟩
abbrev cX12_gotAnew : ByteArray := prog_14_method_67_code
def yX12_gotAnew : MethodName := ⟨RX12, "gotAnew", "(I)I"⟩
def RL : String := "TidewaterLaw"
abbrev cL_setPath : ByteArray := method_3_code
def yL_setPath : MethodName := ⟨RL, "setPath", "(LTidewater;IIIII)I"⟩
abbrev cL_setUp : ByteArray := method_4_code
def yL_setUp : MethodName := ⟨RL, "setUp", "(LTidewater;IZ[J)I"⟩
abbrev cL_lose : ByteArray := method_5_code
def yL_lose : MethodName := ⟨RL, "lose", "(LTidewater;IZI)I"⟩
abbrev cL_late : ByteArray := method_6_code
def yL_late : MethodName := ⟨RL, "late", "(LTidewater;III)I"⟩
abbrev cL_foreign : ByteArray := method_7_code
def yL_foreign : MethodName := ⟨RL, "foreign", "(LTidewater;II[J)I"⟩
abbrev cL_read : ByteArray := method_8_code
def yL_read : MethodName := ⟨RL, "read", "(LTidewater;II[J)I"⟩
abbrev cL_connect : ByteArray := method_9_code
def yL_connect : MethodName := ⟨RL, "connect", "(LTidewater;I)I"⟩
abbrev cL_write : ByteArray := method_10_code
def yL_write : MethodName := ⟨RL, "write", "(LTidewater;II[J)I"⟩
abbrev cL_setWay : ByteArray := method_11_code
def yL_setWay : MethodName := ⟨RL, "setWay", "(LTidewater;II[J)I"⟩
abbrev cL_check : ByteArray := method_12_code
def yL_check : MethodName := ⟨RL, "check", "(LTidewater;I)I"⟩
abbrev cL_use : ByteArray := method_13_code
def yL_use : MethodName := ⟨RL, "use", "(LTidewater;I[J)I"⟩
abbrev cL_changeKey : ByteArray := method_14_code
def yL_changeKey : MethodName := ⟨RL, "changeKey", "(LTidewater;[J)I"⟩
abbrev cL_close : ByteArray := method_15_code
def yL_close : MethodName := ⟨RL, "close", "(LTidewater;)I"⟩
abbrev cL_tick : ByteArray := method_16_code
def yL_tick : MethodName := ⟨RL, "tick", "(LTidewater;I[J)I"⟩
abbrev cL_state : ByteArray := method_17_code
def yL_state : MethodName := ⟨RL, "state", "(LTidewater;I[J)I"⟩
abbrev cL_path : ByteArray := method_18_code
def yL_path : MethodName := ⟨RL, "path", "(LTidewater;II[J)I"⟩
abbrev cL_stream : ByteArray := method_19_code
def yL_stream : MethodName := ⟨RL, "stream", "(LTidewater;II[J)I"⟩
abbrev cL_packet : ByteArray := method_20_code
def yL_packet : MethodName := ⟨RL, "packet", "(LTidewater;II[J)I"⟩
abbrev cL_count : ByteArray := method_21_code
def yL_count : MethodName := ⟨RL, "count", "(LTidewater;I[J)I"⟩
abbrev cL_inFlightAnew : ByteArray := method_22_code
def yL_inFlightAnew : MethodName := ⟨RL, "inFlightAnew", "(LTidewater;I[J)I"⟩
abbrev cL_gotAnew : ByteArray := method_23_code
def yL_gotAnew : MethodName := ⟨RL, "gotAnew", "(LTidewater;I[J)I"⟩
abbrev cL_law : ByteArray := code
def yL_law : MethodName := ⟨RL, "law", "([I)Z"⟩
abbrev vwCl : List vw_C := [(RX0, TX0, 6), (RX1, TX1, 19), (RX2, TX2, 11), (RX3, TX3, 12), (RX4, TX4, 8), (RX5, TX5, 6), (RX6, TX6, 14), (RX7, TX7, 18), (RX8, TX8, 16), (RX9, TX9, 10), (RX10, TX10, 2), (RX11, TX11, 5), (RX12, TX12, 95)]
end
section
theorem dX0_init_0 : decode cX0_init 0 = .ok (.aload_n 0, 1) := by decide +kernel
theorem dX0_init_1 : decode cX0_init 1 = .ok (.invokespecial 3, 3) := by decide +kernel
theorem dX0_init_4 : decode cX0_init 4 = .ok (.aload_n 0, 1) := by decide +kernel
theorem dX0_init_5 : decode cX0_init 5 = .ok (.iconst 4, 1) := by decide +kernel
theorem dX0_init_6 : decode cX0_init 6 = .ok (.newarray .int, 2) := by decide +kernel
theorem dX0_init_8 : decode cX0_init 8 = .ok (.putfield 9, 3) := by decide +kernel
theorem dX0_init_11 : decode cX0_init 11 = .ok (.aload_n 0, 1) := by decide +kernel
theorem dX0_init_12 : decode cX0_init 12 = .ok (.iconst 4, 1) := by decide +kernel
theorem dX0_init_13 : decode cX0_init 13 = .ok (.newarray .int, 2) := by decide +kernel
theorem dX0_init_15 : decode cX0_init 15 = .ok (.putfield 15, 3) := by decide +kernel
theorem dX0_init_18 : decode cX0_init 18 = .ok (.aload_n 0, 1) := by decide +kernel
theorem dX0_init_19 : decode cX0_init 19 = .ok (.iconst 4, 1) := by decide +kernel
theorem dX0_init_20 : decode cX0_init 20 = .ok (.newarray .int, 2) := by decide +kernel
theorem dX0_init_22 : decode cX0_init 22 = .ok (.putfield 18, 3) := by decide +kernel
theorem dX0_init_25 : decode cX0_init 25 = .ok (.return_, 1) := by decide +kernel
theorem dX0_addRange_0 : decode cX0_addRange 0 = .ok (.aload_n 0, 1) := by decide +kernel
theorem dX0_addRange_1 : decode cX0_addRange 1 = .ok (.getfield 21, 3) := by decide +kernel
theorem dX0_addRange_4 : decode cX0_addRange 4 = .ok (.iconst 4, 1) := by decide +kernel
theorem dX0_addRange_5 : decode cX0_addRange 5 = .ok (.if_icmp .ge 33, 3) := by decide +kernel
theorem dX0_addRange_8 : decode cX0_addRange 8 = .ok (.aload_n 0, 1) := by decide +kernel
theorem dX0_addRange_9 : decode cX0_addRange 9 = .ok (.getfield 9, 3) := by decide +kernel
theorem dX0_addRange_12 : decode cX0_addRange 12 = .ok (.aload_n 0, 1) := by decide +kernel
theorem dX0_addRange_13 : decode cX0_addRange 13 = .ok (.getfield 21, 3) := by decide +kernel
theorem dX0_addRange_16 : decode cX0_addRange 16 = .ok (.iload_n 1, 1) := by decide +kernel
theorem dX0_addRange_17 : decode cX0_addRange 17 = .ok (.iastore, 1) := by decide +kernel
theorem dX0_addRange_18 : decode cX0_addRange 18 = .ok (.aload_n 0, 1) := by decide +kernel
theorem dX0_addRange_19 : decode cX0_addRange 19 = .ok (.getfield 15, 3) := by decide +kernel
theorem dX0_addRange_22 : decode cX0_addRange 22 = .ok (.aload_n 0, 1) := by decide +kernel
theorem dX0_addRange_23 : decode cX0_addRange 23 = .ok (.getfield 21, 3) := by decide +kernel
theorem dX0_addRange_26 : decode cX0_addRange 26 = .ok (.iload_n 2, 1) := by decide +kernel
theorem dX0_addRange_27 : decode cX0_addRange 27 = .ok (.iastore, 1) := by decide +kernel
theorem dX0_addRange_28 : decode cX0_addRange 28 = .ok (.aload_n 0, 1) := by decide +kernel
theorem dX0_addRange_29 : decode cX0_addRange 29 = .ok (.dup, 1) := by decide +kernel
theorem dX0_addRange_30 : decode cX0_addRange 30 = .ok (.getfield 21, 3) := by decide +kernel
theorem dX0_addRange_33 : decode cX0_addRange 33 = .ok (.iconst 1, 1) := by decide +kernel
theorem dX0_addRange_34 : decode cX0_addRange 34 = .ok (.iadd, 1) := by decide +kernel
theorem dX0_addRange_35 : decode cX0_addRange 35 = .ok (.putfield 21, 3) := by decide +kernel
theorem dX0_addRange_38 : decode cX0_addRange 38 = .ok (.return_, 1) := by decide +kernel
theorem dX0_greatest_0 : decode cX0_greatest 0 = .ok (.aload_n 0, 1) := by decide +kernel
theorem dX0_greatest_1 : decode cX0_greatest 1 = .ok (.getfield 21, 3) := by decide +kernel
theorem dX0_greatest_4 : decode cX0_greatest 4 = .ok (.ifCond .le 12, 3) := by decide +kernel
theorem dX0_greatest_7 : decode cX0_greatest 7 = .ok (.aload_n 0, 1) := by decide +kernel
theorem dX0_greatest_8 : decode cX0_greatest 8 = .ok (.getfield 15, 3) := by decide +kernel
theorem dX0_greatest_11 : decode cX0_greatest 11 = .ok (.iconst 0, 1) := by decide +kernel
theorem dX0_greatest_12 : decode cX0_greatest 12 = .ok (.iaload, 1) := by decide +kernel
theorem dX0_greatest_13 : decode cX0_greatest 13 = .ok (.goto 4, 3) := by decide +kernel
theorem dX0_greatest_16 : decode cX0_greatest 16 = .ok (.iconst (-1), 1) := by decide +kernel
theorem dX0_greatest_17 : decode cX0_greatest 17 = .ok (.ireturn, 1) := by decide +kernel
theorem dX1_init_0 : decode cX1_init 0 = .ok (.aload_n 0, 1) := by decide +kernel
theorem dX1_init_1 : decode cX1_init 1 = .ok (.invokespecial 3, 3) := by decide +kernel
theorem dX1_init_4 : decode cX1_init 4 = .ok (.aload_n 0, 1) := by decide +kernel
theorem dX1_init_5 : decode cX1_init 5 = .ok (.new 9, 3) := by decide +kernel
theorem dX1_init_8 : decode cX1_init 8 = .ok (.dup, 1) := by decide +kernel
theorem dX1_init_9 : decode cX1_init 9 = .ok (.iconst 0, 1) := by decide +kernel
theorem dX1_init_10 : decode cX1_init 10 = .ok (.invokespecial 11, 3) := by decide +kernel
theorem dX1_init_13 : decode cX1_init 13 = .ok (.putfield 14, 3) := by decide +kernel
theorem dX1_init_16 : decode cX1_init 16 = .ok (.aload_n 0, 1) := by decide +kernel
theorem dX1_init_17 : decode cX1_init 17 = .ok (.new 9, 3) := by decide +kernel
theorem dX1_init_20 : decode cX1_init 20 = .ok (.dup, 1) := by decide +kernel
theorem dX1_init_21 : decode cX1_init 21 = .ok (.iconst 1, 1) := by decide +kernel
theorem dX1_init_22 : decode cX1_init 22 = .ok (.invokespecial 11, 3) := by decide +kernel
theorem dX1_init_25 : decode cX1_init 25 = .ok (.putfield 20, 3) := by decide +kernel
theorem dX1_init_28 : decode cX1_init 28 = .ok (.aload_n 0, 1) := by decide +kernel
theorem dX1_init_29 : decode cX1_init 29 = .ok (.sipush 400, 3) := by decide +kernel
theorem dX1_init_32 : decode cX1_init 32 = .ok (.anewarray 23, 3) := by decide +kernel
theorem dX1_init_35 : decode cX1_init 35 = .ok (.putfield 25, 3) := by decide +kernel
theorem dX1_init_38 : decode cX1_init 38 = .ok (.aload_n 0, 1) := by decide +kernel
theorem dX1_init_39 : decode cX1_init 39 = .ok (.iconst 0, 1) := by decide +kernel
theorem dX1_init_40 : decode cX1_init 40 = .ok (.putfield 29, 3) := by decide +kernel
theorem dX1_init_43 : decode cX1_init 43 = .ok (.aload_n 0, 1) := by decide +kernel
theorem dX1_init_44 : decode cX1_init 44 = .ok (.iconst (-1), 1) := by decide +kernel
theorem dX1_init_45 : decode cX1_init 45 = .ok (.putfield 33, 3) := by decide +kernel
theorem dX1_init_48 : decode cX1_init 48 = .ok (.aload_n 0, 1) := by decide +kernel
theorem dX1_init_49 : decode cX1_init 49 = .ok (.bipush 10, 2) := by decide +kernel
theorem dX1_init_51 : decode cX1_init 51 = .ok (.putfield 36, 3) := by decide +kernel
theorem dX1_init_54 : decode cX1_init 54 = .ok (.aload_n 0, 1) := by decide +kernel
theorem dX1_init_55 : decode cX1_init 55 = .ok (.bipush 100, 2) := by decide +kernel
theorem dX1_init_57 : decode cX1_init 57 = .ok (.putfield 39, 3) := by decide +kernel
theorem dX1_init_60 : decode cX1_init 60 = .ok (.aload_n 0, 1) := by decide +kernel
theorem dX1_init_61 : decode cX1_init 61 = .ok (.iconst 3, 1) := by decide +kernel
theorem dX1_init_62 : decode cX1_init 62 = .ok (.putfield 42, 3) := by decide +kernel
theorem dX1_init_65 : decode cX1_init 65 = .ok (.aload_n 0, 1) := by decide +kernel
theorem dX1_init_66 : decode cX1_init 66 = .ok (.aload_n 1, 1) := by decide +kernel
theorem dX1_init_67 : decode cX1_init 67 = .ok (.putfield 45, 3) := by decide +kernel
theorem dX1_init_70 : decode cX1_init 70 = .ok (.aload_n 0, 1) := by decide +kernel
theorem dX1_init_71 : decode cX1_init 71 = .ok (.aload_n 2, 1) := by decide +kernel
theorem dX1_init_72 : decode cX1_init 72 = .ok (.putfield 49, 3) := by decide +kernel
theorem dX1_init_75 : decode cX1_init 75 = .ok (.return_, 1) := by decide +kernel
theorem dX1_routeOf_0 : decode cX1_routeOf 0 = .ok (.iload_n 1, 1) := by decide +kernel
theorem dX1_routeOf_1 : decode cX1_routeOf 1 = .ok (.ifCond .ne 10, 3) := by decide +kernel
theorem dX1_routeOf_4 : decode cX1_routeOf 4 = .ok (.aload_n 0, 1) := by decide +kernel
theorem dX1_routeOf_5 : decode cX1_routeOf 5 = .ok (.getfield 14, 3) := by decide +kernel
theorem dX1_routeOf_8 : decode cX1_routeOf 8 = .ok (.goto 7, 3) := by decide +kernel
theorem dX1_routeOf_11 : decode cX1_routeOf 11 = .ok (.aload_n 0, 1) := by decide +kernel
theorem dX1_routeOf_12 : decode cX1_routeOf 12 = .ok (.getfield 20, 3) := by decide +kernel
theorem dX1_routeOf_15 : decode cX1_routeOf 15 = .ok (.areturn, 1) := by decide +kernel
theorem dX1_packetAt_0 : decode cX1_packetAt 0 = .ok (.iload_n 1, 1) := by decide +kernel
theorem dX1_packetAt_1 : decode cX1_packetAt 1 = .ok (.ifCond .lt 27, 3) := by decide +kernel
theorem dX1_packetAt_4 : decode cX1_packetAt 4 = .ok (.iload_n 1, 1) := by decide +kernel
theorem dX1_packetAt_5 : decode cX1_packetAt 5 = .ok (.aload_n 0, 1) := by decide +kernel
theorem dX1_packetAt_6 : decode cX1_packetAt 6 = .ok (.getfield 53, 3) := by decide +kernel
theorem dX1_packetAt_9 : decode cX1_packetAt 9 = .ok (.if_icmp .ge 19, 3) := by decide +kernel
theorem dX1_packetAt_12 : decode cX1_packetAt 12 = .ok (.iload_n 1, 1) := by decide +kernel
theorem dX1_packetAt_13 : decode cX1_packetAt 13 = .ok (.sipush 400, 3) := by decide +kernel
theorem dX1_packetAt_16 : decode cX1_packetAt 16 = .ok (.if_icmp .ge 12, 3) := by decide +kernel
theorem dX1_packetAt_19 : decode cX1_packetAt 19 = .ok (.aload_n 0, 1) := by decide +kernel
theorem dX1_packetAt_20 : decode cX1_packetAt 20 = .ok (.getfield 25, 3) := by decide +kernel
theorem dX1_packetAt_23 : decode cX1_packetAt 23 = .ok (.iload_n 1, 1) := by decide +kernel
theorem dX1_packetAt_24 : decode cX1_packetAt 24 = .ok (.aaload, 1) := by decide +kernel
theorem dX1_packetAt_25 : decode cX1_packetAt 25 = .ok (.goto 4, 3) := by decide +kernel
theorem dX1_packetAt_28 : decode cX1_packetAt 28 = .ok (.aconst_null, 1) := by decide +kernel
theorem dX1_packetAt_29 : decode cX1_packetAt 29 = .ok (.areturn, 1) := by decide +kernel
theorem dX1_beginHello_0 : decode cX1_beginHello 0 = .ok (.aload_n 0, 1) := by decide +kernel
theorem dX1_beginHello_1 : decode cX1_beginHello 1 = .ok (.iconst 1, 1) := by decide +kernel
theorem dX1_beginHello_2 : decode cX1_beginHello 2 = .ok (.putfield 29, 3) := by decide +kernel
theorem dX1_beginHello_5 : decode cX1_beginHello 5 = .ok (.aload_n 0, 1) := by decide +kernel
theorem dX1_beginHello_6 : decode cX1_beginHello 6 = .ok (.iload_n 1, 1) := by decide +kernel
theorem dX1_beginHello_7 : decode cX1_beginHello 7 = .ok (.putfield 33, 3) := by decide +kernel
theorem dX1_beginHello_10 : decode cX1_beginHello 10 = .ok (.aload_n 0, 1) := by decide +kernel
theorem dX1_beginHello_11 : decode cX1_beginHello 11 = .ok (.invokevirtual 56, 3) := by decide +kernel
theorem dX1_beginHello_14 : decode cX1_beginHello 14 = .ok (.return_, 1) := by decide +kernel
theorem dX1_sayHello_0 : decode cX1_sayHello 0 = .ok (.aload_n 0, 1) := by decide +kernel
theorem dX1_sayHello_1 : decode cX1_sayHello 1 = .ok (.dup, 1) := by decide +kernel
theorem dX1_sayHello_2 : decode cX1_sayHello 2 = .ok (.getfield 59, 3) := by decide +kernel
theorem dX1_sayHello_5 : decode cX1_sayHello 5 = .ok (.iconst 1, 1) := by decide +kernel
theorem dX1_sayHello_6 : decode cX1_sayHello 6 = .ok (.iadd, 1) := by decide +kernel
theorem dX1_sayHello_7 : decode cX1_sayHello 7 = .ok (.putfield 59, 3) := by decide +kernel
theorem dX1_sayHello_10 : decode cX1_sayHello 10 = .ok (.aload_n 0, 1) := by decide +kernel
theorem dX1_sayHello_11 : decode cX1_sayHello 11 = .ok (.aload_n 0, 1) := by decide +kernel
theorem dX1_sayHello_12 : decode cX1_sayHello 12 = .ok (.getfield 45, 3) := by decide +kernel
theorem dX1_sayHello_15 : decode cX1_sayHello 15 = .ok (.getfield 62, 3) := by decide +kernel
theorem dX1_sayHello_18 : decode cX1_sayHello 18 = .ok (.putfield 67, 3) := by decide +kernel
theorem dX1_sayHello_21 : decode cX1_sayHello 21 = .ok (.new 70, 3) := by decide +kernel
theorem dX1_sayHello_24 : decode cX1_sayHello 24 = .ok (.dup, 1) := by decide +kernel
theorem dX1_sayHello_25 : decode cX1_sayHello 25 = .ok (.iconst 0, 1) := by decide +kernel
theorem dX1_sayHello_26 : decode cX1_sayHello 26 = .ok (.invokespecial 72, 3) := by decide +kernel
theorem dX1_sayHello_29 : decode cX1_sayHello 29 = .ok (.astore_n 1, 1) := by decide +kernel
theorem dX1_sayHello_30 : decode cX1_sayHello 30 = .ok (.aload_n 1, 1) := by decide +kernel
theorem dX1_sayHello_31 : decode cX1_sayHello 31 = .ok (.aload_n 0, 1) := by decide +kernel
theorem dX1_sayHello_32 : decode cX1_sayHello 32 = .ok (.getfield 33, 3) := by decide +kernel
theorem dX1_sayHello_35 : decode cX1_sayHello 35 = .ok (.putfield 73, 3) := by decide +kernel
theorem dX1_sayHello_38 : decode cX1_sayHello 38 = .ok (.aload_n 1, 1) := by decide +kernel
theorem dX1_sayHello_39 : decode cX1_sayHello 39 = .ok (.aload_n 0, 1) := by decide +kernel
theorem dX1_sayHello_40 : decode cX1_sayHello 40 = .ok (.getfield 74, 3) := by decide +kernel
theorem dX1_sayHello_43 : decode cX1_sayHello 43 = .ok (.putfield 78, 3) := by decide +kernel
theorem dX1_sayHello_46 : decode cX1_sayHello 46 = .ok (.aload_n 0, 1) := by decide +kernel
theorem dX1_sayHello_47 : decode cX1_sayHello 47 = .ok (.getfield 45, 3) := by decide +kernel
theorem dX1_sayHello_50 : decode cX1_sayHello 50 = .ok (.iconst 0, 1) := by decide +kernel
theorem dX1_sayHello_51 : decode cX1_sayHello 51 = .ok (.aload_n 1, 1) := by decide +kernel
theorem dX1_sayHello_52 : decode cX1_sayHello 52 = .ok (.invokevirtual 79, 3) := by decide +kernel
theorem dX1_sayHello_55 : decode cX1_sayHello 55 = .ok (.return_, 1) := by decide +kernel
theorem dX1_canChangeKey_0 : decode cX1_canChangeKey 0 = .ok (.iconst 0, 1) := by decide +kernel
theorem dX1_canChangeKey_1 : decode cX1_canChangeKey 1 = .ok (.istore_n 1, 1) := by decide +kernel
theorem dX1_canChangeKey_2 : decode cX1_canChangeKey 2 = .ok (.iconst 0, 1) := by decide +kernel
theorem dX1_canChangeKey_3 : decode cX1_canChangeKey 3 = .ok (.istore_n 2, 1) := by decide +kernel
theorem dX1_canChangeKey_4 : decode cX1_canChangeKey 4 = .ok (.iload_n 2, 1) := by decide +kernel
theorem dX1_canChangeKey_5 : decode cX1_canChangeKey 5 = .ok (.aload_n 0, 1) := by decide +kernel
theorem dX1_canChangeKey_6 : decode cX1_canChangeKey 6 = .ok (.getfield 53, 3) := by decide +kernel
theorem dX1_canChangeKey_9 : decode cX1_canChangeKey 9 = .ok (.if_icmp .ge 39, 3) := by decide +kernel
theorem dX1_canChangeKey_12 : decode cX1_canChangeKey 12 = .ok (.aload_n 0, 1) := by decide +kernel
theorem dX1_canChangeKey_13 : decode cX1_canChangeKey 13 = .ok (.iload_n 2, 1) := by decide +kernel
theorem dX1_canChangeKey_14 : decode cX1_canChangeKey 14 = .ok (.invokevirtual 83, 3) := by decide +kernel
theorem dX1_canChangeKey_17 : decode cX1_canChangeKey 17 = .ok (.astore_n 3, 1) := by decide +kernel
theorem dX1_canChangeKey_18 : decode cX1_canChangeKey 18 = .ok (.aload_n 3, 1) := by decide +kernel
theorem dX1_canChangeKey_19 : decode cX1_canChangeKey 19 = .ok (.ifnull 23, 3) := by decide +kernel
theorem dX1_canChangeKey_22 : decode cX1_canChangeKey 22 = .ok (.aload_n 3, 1) := by decide +kernel
theorem dX1_canChangeKey_23 : decode cX1_canChangeKey 23 = .ok (.getfield 87, 3) := by decide +kernel
theorem dX1_canChangeKey_26 : decode cX1_canChangeKey 26 = .ok (.aload_n 0, 1) := by decide +kernel
theorem dX1_canChangeKey_27 : decode cX1_canChangeKey 27 = .ok (.getfield 90, 3) := by decide +kernel
theorem dX1_canChangeKey_30 : decode cX1_canChangeKey 30 = .ok (.if_icmp .ne 12, 3) := by decide +kernel
theorem dX1_canChangeKey_33 : decode cX1_canChangeKey 33 = .ok (.aload_n 3, 1) := by decide +kernel
theorem dX1_canChangeKey_34 : decode cX1_canChangeKey 34 = .ok (.invokestatic 91, 3) := by decide +kernel
theorem dX1_canChangeKey_37 : decode cX1_canChangeKey 37 = .ok (.ifCond .eq 5, 3) := by decide +kernel
theorem dX1_canChangeKey_40 : decode cX1_canChangeKey 40 = .ok (.iconst 1, 1) := by decide +kernel
theorem dX1_canChangeKey_41 : decode cX1_canChangeKey 41 = .ok (.istore_n 1, 1) := by decide +kernel
theorem dX1_canChangeKey_42 : decode cX1_canChangeKey 42 = .ok (.iinc 2 1, 3) := by decide +kernel
theorem dX1_canChangeKey_45 : decode cX1_canChangeKey 45 = .ok (.goto (-41), 3) := by decide +kernel
theorem dX1_canChangeKey_48 : decode cX1_canChangeKey 48 = .ok (.aload_n 0, 1) := by decide +kernel
theorem dX1_canChangeKey_49 : decode cX1_canChangeKey 49 = .ok (.getfield 29, 3) := by decide +kernel
theorem dX1_canChangeKey_52 : decode cX1_canChangeKey 52 = .ok (.iconst 2, 1) := by decide +kernel
theorem dX1_canChangeKey_53 : decode cX1_canChangeKey 53 = .ok (.if_icmp .ne 11, 3) := by decide +kernel
theorem dX1_canChangeKey_56 : decode cX1_canChangeKey 56 = .ok (.iload_n 1, 1) := by decide +kernel
theorem dX1_canChangeKey_57 : decode cX1_canChangeKey 57 = .ok (.ifCond .eq 7, 3) := by decide +kernel
theorem dX1_canChangeKey_60 : decode cX1_canChangeKey 60 = .ok (.iconst 1, 1) := by decide +kernel
theorem dX1_canChangeKey_61 : decode cX1_canChangeKey 61 = .ok (.goto 4, 3) := by decide +kernel
theorem dX1_canChangeKey_64 : decode cX1_canChangeKey 64 = .ok (.iconst 0, 1) := by decide +kernel
theorem dX1_canChangeKey_65 : decode cX1_canChangeKey 65 = .ok (.ireturn, 1) := by decide +kernel
theorem dX1_isAcknowledged_0 : decode cX1_isAcknowledged 0 = .ok (.aload_n 0, 1) := by decide +kernel
theorem dX1_isAcknowledged_1 : decode cX1_isAcknowledged 1 = .ok (.getfield 95, 3) := by decide +kernel
theorem dX1_isAcknowledged_4 : decode cX1_isAcknowledged 4 = .ok (.iconst 1, 1) := by decide +kernel
theorem dX1_isAcknowledged_5 : decode cX1_isAcknowledged 5 = .ok (.if_icmp .eq 11, 3) := by decide +kernel
theorem dX1_isAcknowledged_8 : decode cX1_isAcknowledged 8 = .ok (.aload_n 0, 1) := by decide +kernel
theorem dX1_isAcknowledged_9 : decode cX1_isAcknowledged 9 = .ok (.getfield 95, 3) := by decide +kernel
theorem dX1_isAcknowledged_12 : decode cX1_isAcknowledged 12 = .ok (.iconst 3, 1) := by decide +kernel
theorem dX1_isAcknowledged_13 : decode cX1_isAcknowledged 13 = .ok (.if_icmp .ne 7, 3) := by decide +kernel
theorem dX1_isAcknowledged_16 : decode cX1_isAcknowledged 16 = .ok (.iconst 1, 1) := by decide +kernel
theorem dX1_isAcknowledged_17 : decode cX1_isAcknowledged 17 = .ok (.goto 4, 3) := by decide +kernel
theorem dX1_isAcknowledged_20 : decode cX1_isAcknowledged 20 = .ok (.iconst 0, 1) := by decide +kernel
theorem dX1_isAcknowledged_21 : decode cX1_isAcknowledged 21 = .ok (.ireturn, 1) := by decide +kernel
theorem dX1_beginClosing_0 : decode cX1_beginClosing 0 = .ok (.aload_n 0, 1) := by decide +kernel
theorem dX1_beginClosing_1 : decode cX1_beginClosing 1 = .ok (.iconst 3, 1) := by decide +kernel
theorem dX1_beginClosing_2 : decode cX1_beginClosing 2 = .ok (.putfield 29, 3) := by decide +kernel
theorem dX1_beginClosing_5 : decode cX1_beginClosing 5 = .ok (.aload_n 0, 1) := by decide +kernel
theorem dX1_beginClosing_6 : decode cX1_beginClosing 6 = .ok (.aload_n 0, 1) := by decide +kernel
theorem dX1_beginClosing_7 : decode cX1_beginClosing 7 = .ok (.getfield 45, 3) := by decide +kernel
theorem dX1_beginClosing_10 : decode cX1_beginClosing 10 = .ok (.getfield 62, 3) := by decide +kernel
theorem dX1_beginClosing_13 : decode cX1_beginClosing 13 = .ok (.bipush 30, 2) := by decide +kernel
theorem dX1_beginClosing_15 : decode cX1_beginClosing 15 = .ok (.iadd, 1) := by decide +kernel
theorem dX1_beginClosing_16 : decode cX1_beginClosing 16 = .ok (.putfield 98, 3) := by decide +kernel
theorem dX1_beginClosing_19 : decode cX1_beginClosing 19 = .ok (.aload_n 0, 1) := by decide +kernel
theorem dX1_beginClosing_20 : decode cX1_beginClosing 20 = .ok (.getfield 45, 3) := by decide +kernel
theorem dX1_beginClosing_23 : decode cX1_beginClosing 23 = .ok (.aload_n 0, 1) := by decide +kernel
theorem dX1_beginClosing_24 : decode cX1_beginClosing 24 = .ok (.getfield 101, 3) := by decide +kernel
theorem dX1_beginClosing_27 : decode cX1_beginClosing 27 = .ok (.iconst 1, 1) := by decide +kernel
theorem dX1_beginClosing_28 : decode cX1_beginClosing 28 = .ok (.if_icmp .ne 7, 3) := by decide +kernel
theorem dX1_beginClosing_31 : decode cX1_beginClosing 31 = .ok (.iconst 1, 1) := by decide +kernel
theorem dX1_beginClosing_32 : decode cX1_beginClosing 32 = .ok (.goto 4, 3) := by decide +kernel
theorem dX1_beginClosing_35 : decode cX1_beginClosing 35 = .ok (.iconst 0, 1) := by decide +kernel
theorem dX1_beginClosing_36 : decode cX1_beginClosing 36 = .ok (.new 70, 3) := by decide +kernel
theorem dX1_beginClosing_39 : decode cX1_beginClosing 39 = .ok (.dup, 1) := by decide +kernel
theorem dX1_beginClosing_40 : decode cX1_beginClosing 40 = .ok (.bipush 7, 2) := by decide +kernel
theorem dX1_beginClosing_42 : decode cX1_beginClosing 42 = .ok (.invokespecial 72, 3) := by decide +kernel
theorem dX1_beginClosing_45 : decode cX1_beginClosing 45 = .ok (.invokevirtual 79, 3) := by decide +kernel
theorem dX1_beginClosing_48 : decode cX1_beginClosing 48 = .ok (.return_, 1) := by decide +kernel
theorem dX1_hearAll_0 : decode cX1_hearAll 0 = .ok (.aload_n 0, 1) := by decide +kernel
theorem dX1_hearAll_1 : decode cX1_hearAll 1 = .ok (.getfield 45, 3) := by decide +kernel
theorem dX1_hearAll_4 : decode cX1_hearAll 4 = .ok (.getfield 104, 3) := by decide +kernel
theorem dX1_hearAll_7 : decode cX1_hearAll 7 = .ok (.getfield 108, 3) := by decide +kernel
theorem dX1_hearAll_10 : decode cX1_hearAll 10 = .ok (.istore_n 1, 1) := by decide +kernel
theorem dX1_hearAll_11 : decode cX1_hearAll 11 = .ok (.iload_n 1, 1) := by decide +kernel
theorem dX1_hearAll_12 : decode cX1_hearAll 12 = .ok (.ifCond .le 63, 3) := by decide +kernel
theorem dX1_hearAll_15 : decode cX1_hearAll 15 = .ok (.aload_n 0, 1) := by decide +kernel
theorem dX1_hearAll_16 : decode cX1_hearAll 16 = .ok (.getfield 45, 3) := by decide +kernel
theorem dX1_hearAll_19 : decode cX1_hearAll 19 = .ok (.getfield 104, 3) := by decide +kernel
theorem dX1_hearAll_22 : decode cX1_hearAll 22 = .ok (.aload_n 0, 1) := by decide +kernel
theorem dX1_hearAll_23 : decode cX1_hearAll 23 = .ok (.getfield 45, 3) := by decide +kernel
theorem dX1_hearAll_26 : decode cX1_hearAll 26 = .ok (.getfield 62, 3) := by decide +kernel
theorem dX1_hearAll_29 : decode cX1_hearAll 29 = .ok (.invokevirtual 113, 3) := by decide +kernel
theorem dX1_hearAll_32 : decode cX1_hearAll 32 = .ok (.astore_n 2, 1) := by decide +kernel
theorem dX1_hearAll_33 : decode cX1_hearAll 33 = .ok (.aload_n 2, 1) := by decide +kernel
theorem dX1_hearAll_34 : decode cX1_hearAll 34 = .ok (.ifnonnull 6, 3) := by decide +kernel
theorem dX1_hearAll_37 : decode cX1_hearAll 37 = .ok (.goto 38, 3) := by decide +kernel
theorem dX1_hearAll_40 : decode cX1_hearAll 40 = .ok (.aload_n 0, 1) := by decide +kernel
theorem dX1_hearAll_41 : decode cX1_hearAll 41 = .ok (.getfield 29, 3) := by decide +kernel
theorem dX1_hearAll_44 : decode cX1_hearAll 44 = .ok (.iconst 1, 1) := by decide +kernel
theorem dX1_hearAll_45 : decode cX1_hearAll 45 = .ok (.if_icmp .eq 19, 3) := by decide +kernel
theorem dX1_hearAll_48 : decode cX1_hearAll 48 = .ok (.aload_n 0, 1) := by decide +kernel
theorem dX1_hearAll_49 : decode cX1_hearAll 49 = .ok (.getfield 29, 3) := by decide +kernel
theorem dX1_hearAll_52 : decode cX1_hearAll 52 = .ok (.iconst 2, 1) := by decide +kernel
theorem dX1_hearAll_53 : decode cX1_hearAll 53 = .ok (.if_icmp .eq 11, 3) := by decide +kernel
theorem dX1_hearAll_56 : decode cX1_hearAll 56 = .ok (.aload_n 0, 1) := by decide +kernel
theorem dX1_hearAll_57 : decode cX1_hearAll 57 = .ok (.getfield 29, 3) := by decide +kernel
theorem dX1_hearAll_60 : decode cX1_hearAll 60 = .ok (.iconst 3, 1) := by decide +kernel
theorem dX1_hearAll_61 : decode cX1_hearAll 61 = .ok (.if_icmp .ne 8, 3) := by decide +kernel
theorem dX1_hearAll_64 : decode cX1_hearAll 64 = .ok (.aload_n 0, 1) := by decide +kernel
theorem dX1_hearAll_65 : decode cX1_hearAll 65 = .ok (.aload_n 2, 1) := by decide +kernel
theorem dX1_hearAll_66 : decode cX1_hearAll 66 = .ok (.invokevirtual 117, 3) := by decide +kernel
theorem dX1_hearAll_69 : decode cX1_hearAll 69 = .ok (.iinc 1 (-1), 3) := by decide +kernel
theorem dX1_hearAll_72 : decode cX1_hearAll 72 = .ok (.goto (-61), 3) := by decide +kernel
theorem dX1_hearAll_75 : decode cX1_hearAll 75 = .ok (.return_, 1) := by decide +kernel
theorem dX1_hear_0 : decode cX1_hear 0 = .ok (.aload_n 0, 1) := by decide +kernel
theorem dX1_hear_1 : decode cX1_hear 1 = .ok (.getfield 29, 3) := by decide +kernel
theorem dX1_hear_4 : decode cX1_hear 4 = .ok (.iconst 1, 1) := by decide +kernel
theorem dX1_hear_5 : decode cX1_hear 5 = .ok (.if_icmp .ne 7, 3) := by decide +kernel
theorem dX1_hear_8 : decode cX1_hear 8 = .ok (.iconst 1, 1) := by decide +kernel
theorem dX1_hear_9 : decode cX1_hear 9 = .ok (.goto 4, 3) := by decide +kernel
theorem dX1_hear_12 : decode cX1_hear 12 = .ok (.iconst 0, 1) := by decide +kernel
theorem dX1_hear_13 : decode cX1_hear 13 = .ok (.istore_n 2, 1) := by decide +kernel
theorem dX1_hear_14 : decode cX1_hear 14 = .ok (.aload_n 1, 1) := by decide +kernel
theorem dX1_hear_15 : decode cX1_hear 15 = .ok (.getfield 121, 3) := by decide +kernel
theorem dX1_hear_18 : decode cX1_hear 18 = .ok (.bipush 8, 2) := by decide +kernel
theorem dX1_hear_20 : decode cX1_hear 20 = .ok (.if_icmp .ne 11, 3) := by decide +kernel
theorem dX1_hear_23 : decode cX1_hear 23 = .ok (.aload_n 0, 1) := by decide +kernel
theorem dX1_hear_24 : decode cX1_hear 24 = .ok (.iconst 5, 1) := by decide +kernel
theorem dX1_hear_25 : decode cX1_hear 25 = .ok (.putfield 29, 3) := by decide +kernel
theorem dX1_hear_28 : decode cX1_hear 28 = .ok (.goto 106, 3) := by decide +kernel
theorem dX1_hear_31 : decode cX1_hear 31 = .ok (.aload_n 1, 1) := by decide +kernel
theorem dX1_hear_32 : decode cX1_hear 32 = .ok (.getfield 121, 3) := by decide +kernel
theorem dX1_hear_35 : decode cX1_hear 35 = .ok (.bipush 6, 2) := by decide +kernel
theorem dX1_hear_37 : decode cX1_hear 37 = .ok (.if_icmp .ne 18, 3) := by decide +kernel
theorem dX1_hear_40 : decode cX1_hear 40 = .ok (.aload_n 0, 1) := by decide +kernel
theorem dX1_hear_41 : decode cX1_hear 41 = .ok (.aload_n 1, 1) := by decide +kernel
theorem dX1_hear_42 : decode cX1_hear 42 = .ok (.getfield 124, 3) := by decide +kernel
theorem dX1_hear_45 : decode cX1_hear 45 = .ok (.invokevirtual 127, 3) := by decide +kernel
theorem dX1_hear_48 : decode cX1_hear 48 = .ok (.iconst 1, 1) := by decide +kernel
theorem dX1_hear_49 : decode cX1_hear 49 = .ok (.putfield 131, 3) := by decide +kernel
theorem dX1_hear_52 : decode cX1_hear 52 = .ok (.goto 82, 3) := by decide +kernel
theorem dX1_hear_55 : decode cX1_hear 55 = .ok (.aload_n 1, 1) := by decide +kernel
theorem dX1_hear_56 : decode cX1_hear 56 = .ok (.getfield 121, 3) := by decide +kernel
theorem dX1_hear_59 : decode cX1_hear 59 = .ok (.iconst 1, 1) := by decide +kernel
theorem dX1_hear_60 : decode cX1_hear 60 = .ok (.if_icmp .ne 32, 3) := by decide +kernel
theorem dX1_hear_63 : decode cX1_hear 63 = .ok (.iload_n 2, 1) := by decide +kernel
theorem dX1_hear_64 : decode cX1_hear 64 = .ok (.ifCond .eq 28, 3) := by decide +kernel
theorem dX1_hear_67 : decode cX1_hear 67 = .ok (.aload_n 0, 1) := by decide +kernel
theorem dX1_hear_68 : decode cX1_hear 68 = .ok (.getfield 74, 3) := by decide +kernel
theorem dX1_hear_71 : decode cX1_hear 71 = .ok (.ifCond .ne 21, 3) := by decide +kernel
theorem dX1_hear_74 : decode cX1_hear 74 = .ok (.aload_n 0, 1) := by decide +kernel
theorem dX1_hear_75 : decode cX1_hear 75 = .ok (.iconst 1, 1) := by decide +kernel
theorem dX1_hear_76 : decode cX1_hear 76 = .ok (.putfield 74, 3) := by decide +kernel
theorem dX1_hear_79 : decode cX1_hear 79 = .ok (.aload_n 0, 1) := by decide +kernel
theorem dX1_hear_80 : decode cX1_hear 80 = .ok (.bipush 10, 2) := by decide +kernel
theorem dX1_hear_82 : decode cX1_hear 82 = .ok (.putfield 36, 3) := by decide +kernel
theorem dX1_hear_85 : decode cX1_hear 85 = .ok (.aload_n 0, 1) := by decide +kernel
theorem dX1_hear_86 : decode cX1_hear 86 = .ok (.invokevirtual 56, 3) := by decide +kernel
theorem dX1_hear_89 : decode cX1_hear 89 = .ok (.goto 45, 3) := by decide +kernel
theorem dX1_hear_92 : decode cX1_hear 92 = .ok (.aload_n 1, 1) := by decide +kernel
theorem dX1_hear_93 : decode cX1_hear 93 = .ok (.getfield 121, 3) := by decide +kernel
theorem dX1_hear_96 : decode cX1_hear 96 = .ok (.iconst 2, 1) := by decide +kernel
theorem dX1_hear_97 : decode cX1_hear 97 = .ok (.if_icmp .ne 18, 3) := by decide +kernel
theorem dX1_hear_100 : decode cX1_hear 100 = .ok (.iload_n 2, 1) := by decide +kernel
theorem dX1_hear_101 : decode cX1_hear 101 = .ok (.ifCond .eq 14, 3) := by decide +kernel
theorem dX1_hear_104 : decode cX1_hear 104 = .ok (.aload_n 0, 1) := by decide +kernel
theorem dX1_hear_105 : decode cX1_hear 105 = .ok (.aload_n 1, 1) := by decide +kernel
theorem dX1_hear_106 : decode cX1_hear 106 = .ok (.getfield 134, 3) := by decide +kernel
theorem dX1_hear_109 : decode cX1_hear 109 = .ok (.invokevirtual 137, 3) := by decide +kernel
theorem dX1_hear_112 : decode cX1_hear 112 = .ok (.goto 22, 3) := by decide +kernel
theorem dX1_hear_115 : decode cX1_hear 115 = .ok (.aload_n 1, 1) := by decide +kernel
theorem dX1_hear_116 : decode cX1_hear 116 = .ok (.getfield 141, 3) := by decide +kernel
theorem dX1_hear_119 : decode cX1_hear 119 = .ok (.ifnull 15, 3) := by decide +kernel
theorem dX1_hear_122 : decode cX1_hear 122 = .ok (.iload_n 2, 1) := by decide +kernel
theorem dX1_hear_123 : decode cX1_hear 123 = .ok (.ifCond .ne 11, 3) := by decide +kernel
theorem dX1_hear_126 : decode cX1_hear 126 = .ok (.aload_n 0, 1) := by decide +kernel
theorem dX1_hear_127 : decode cX1_hear 127 = .ok (.aload_n 1, 1) := by decide +kernel
theorem dX1_hear_128 : decode cX1_hear 128 = .ok (.getfield 141, 3) := by decide +kernel
theorem dX1_hear_131 : decode cX1_hear 131 = .ok (.invokevirtual 145, 3) := by decide +kernel
theorem dX1_hear_134 : decode cX1_hear 134 = .ok (.return_, 1) := by decide +kernel
theorem dX1_hearAccept_0 : decode cX1_hearAccept 0 = .ok (.aload_n 0, 1) := by decide +kernel
theorem dX1_hearAccept_1 : decode cX1_hearAccept 1 = .ok (.iconst 2, 1) := by decide +kernel
theorem dX1_hearAccept_2 : decode cX1_hearAccept 2 = .ok (.putfield 29, 3) := by decide +kernel
theorem dX1_hearAccept_5 : decode cX1_hearAccept 5 = .ok (.aload_n 0, 1) := by decide +kernel
theorem dX1_hearAccept_6 : decode cX1_hearAccept 6 = .ok (.getfield 14, 3) := by decide +kernel
theorem dX1_hearAccept_9 : decode cX1_hearAccept 9 = .ok (.aload_n 0, 1) := by decide +kernel
theorem dX1_hearAccept_10 : decode cX1_hearAccept 10 = .ok (.getfield 45, 3) := by decide +kernel
theorem dX1_hearAccept_13 : decode cX1_hearAccept 13 = .ok (.getfield 62, 3) := by decide +kernel
theorem dX1_hearAccept_16 : decode cX1_hearAccept 16 = .ok (.aload_n 0, 1) := by decide +kernel
theorem dX1_hearAccept_17 : decode cX1_hearAccept 17 = .ok (.getfield 67, 3) := by decide +kernel
theorem dX1_hearAccept_20 : decode cX1_hearAccept 20 = .ok (.isub, 1) := by decide +kernel
theorem dX1_hearAccept_21 : decode cX1_hearAccept 21 = .ok (.invokevirtual 149, 3) := by decide +kernel
theorem dX1_hearAccept_24 : decode cX1_hearAccept 24 = .ok (.aload_n 0, 1) := by decide +kernel
theorem dX1_hearAccept_25 : decode cX1_hearAccept 25 = .ok (.getfield 152, 3) := by decide +kernel
theorem dX1_hearAccept_28 : decode cX1_hearAccept 28 = .ok (.istore_n 2, 1) := by decide +kernel
theorem dX1_hearAccept_29 : decode cX1_hearAccept 29 = .ok (.iload_n 2, 1) := by decide +kernel
theorem dX1_hearAccept_30 : decode cX1_hearAccept 30 = .ok (.aload_n 0, 1) := by decide +kernel
theorem dX1_hearAccept_31 : decode cX1_hearAccept 31 = .ok (.getfield 53, 3) := by decide +kernel
theorem dX1_hearAccept_34 : decode cX1_hearAccept 34 = .ok (.if_icmp .ge 43, 3) := by decide +kernel
theorem dX1_hearAccept_37 : decode cX1_hearAccept 37 = .ok (.iload_n 1, 1) := by decide +kernel
theorem dX1_hearAccept_38 : decode cX1_hearAccept 38 = .ok (.ifCond .ne 39, 3) := by decide +kernel
theorem dX1_hearAccept_41 : decode cX1_hearAccept 41 = .ok (.aload_n 0, 1) := by decide +kernel
theorem dX1_hearAccept_42 : decode cX1_hearAccept 42 = .ok (.iload_n 2, 1) := by decide +kernel
theorem dX1_hearAccept_43 : decode cX1_hearAccept 43 = .ok (.invokevirtual 83, 3) := by decide +kernel
theorem dX1_hearAccept_46 : decode cX1_hearAccept 46 = .ok (.astore_n 3, 1) := by decide +kernel
theorem dX1_hearAccept_47 : decode cX1_hearAccept 47 = .ok (.aload_n 3, 1) := by decide +kernel
theorem dX1_hearAccept_48 : decode cX1_hearAccept 48 = .ok (.ifnull 23, 3) := by decide +kernel
theorem dX1_hearAccept_51 : decode cX1_hearAccept 51 = .ok (.aload_n 3, 1) := by decide +kernel
theorem dX1_hearAccept_52 : decode cX1_hearAccept 52 = .ok (.getfield 155, 3) := by decide +kernel
theorem dX1_hearAccept_55 : decode cX1_hearAccept 55 = .ok (.ifCond .eq 16, 3) := by decide +kernel
theorem dX1_hearAccept_58 : decode cX1_hearAccept 58 = .ok (.aload_n 3, 1) := by decide +kernel
theorem dX1_hearAccept_59 : decode cX1_hearAccept 59 = .ok (.getfield 95, 3) := by decide +kernel
theorem dX1_hearAccept_62 : decode cX1_hearAccept 62 = .ok (.ifCond .ne 9, 3) := by decide +kernel
theorem dX1_hearAccept_65 : decode cX1_hearAccept 65 = .ok (.aload_n 0, 1) := by decide +kernel
theorem dX1_hearAccept_66 : decode cX1_hearAccept 66 = .ok (.aload_n 3, 1) := by decide +kernel
theorem dX1_hearAccept_67 : decode cX1_hearAccept 67 = .ok (.iconst 4, 1) := by decide +kernel
theorem dX1_hearAccept_68 : decode cX1_hearAccept 68 = .ok (.invokevirtual 158, 3) := by decide +kernel
theorem dX1_hearAccept_71 : decode cX1_hearAccept 71 = .ok (.iinc 2 1, 3) := by decide +kernel
theorem dX1_hearAccept_74 : decode cX1_hearAccept 74 = .ok (.goto (-45), 3) := by decide +kernel
theorem dX1_hearAccept_77 : decode cX1_hearAccept 77 = .ok (.return_, 1) := by decide +kernel
theorem dX1_leaveFlight_0 : decode cX1_leaveFlight 0 = .ok (.aload_n 1, 1) := by decide +kernel
theorem dX1_leaveFlight_1 : decode cX1_leaveFlight 1 = .ok (.iload_n 2, 1) := by decide +kernel
theorem dX1_leaveFlight_2 : decode cX1_leaveFlight 2 = .ok (.putfield 95, 3) := by decide +kernel
theorem dX1_leaveFlight_5 : decode cX1_leaveFlight 5 = .ok (.aload_n 0, 1) := by decide +kernel
theorem dX1_leaveFlight_6 : decode cX1_leaveFlight 6 = .ok (.aload_n 1, 1) := by decide +kernel
theorem dX1_leaveFlight_7 : decode cX1_leaveFlight 7 = .ok (.getfield 162, 3) := by decide +kernel
theorem dX1_leaveFlight_10 : decode cX1_leaveFlight 10 = .ok (.invokevirtual 127, 3) := by decide +kernel
theorem dX1_leaveFlight_13 : decode cX1_leaveFlight 13 = .ok (.dup, 1) := by decide +kernel
theorem dX1_leaveFlight_14 : decode cX1_leaveFlight 14 = .ok (.getfield 163, 3) := by decide +kernel
theorem dX1_leaveFlight_17 : decode cX1_leaveFlight 17 = .ok (.iconst 1, 1) := by decide +kernel
theorem dX1_leaveFlight_18 : decode cX1_leaveFlight 18 = .ok (.isub, 1) := by decide +kernel
theorem dX1_leaveFlight_19 : decode cX1_leaveFlight 19 = .ok (.putfield 163, 3) := by decide +kernel
theorem dX1_leaveFlight_22 : decode cX1_leaveFlight 22 = .ok (.aload_n 1, 1) := by decide +kernel
theorem dX1_leaveFlight_23 : decode cX1_leaveFlight 23 = .ok (.getfield 166, 3) := by decide +kernel
theorem dX1_leaveFlight_26 : decode cX1_leaveFlight 26 = .ok (.ifCond .lt 56, 3) := by decide +kernel
theorem dX1_leaveFlight_29 : decode cX1_leaveFlight 29 = .ok (.aload_n 1, 1) := by decide +kernel
theorem dX1_leaveFlight_30 : decode cX1_leaveFlight 30 = .ok (.getfield 166, 3) := by decide +kernel
theorem dX1_leaveFlight_33 : decode cX1_leaveFlight 33 = .ok (.iconst 4, 1) := by decide +kernel
theorem dX1_leaveFlight_34 : decode cX1_leaveFlight 34 = .ok (.if_icmp .ge 48, 3) := by decide +kernel
theorem dX1_leaveFlight_37 : decode cX1_leaveFlight 37 = .ok (.iload_n 2, 1) := by decide +kernel
theorem dX1_leaveFlight_38 : decode cX1_leaveFlight 38 = .ok (.iconst 1, 1) := by decide +kernel
theorem dX1_leaveFlight_39 : decode cX1_leaveFlight 39 = .ok (.if_icmp .ne 23, 3) := by decide +kernel
theorem dX1_leaveFlight_42 : decode cX1_leaveFlight 42 = .ok (.aload_n 0, 1) := by decide +kernel
theorem dX1_leaveFlight_43 : decode cX1_leaveFlight 43 = .ok (.getfield 49, 3) := by decide +kernel
theorem dX1_leaveFlight_46 : decode cX1_leaveFlight 46 = .ok (.aload_n 1, 1) := by decide +kernel
theorem dX1_leaveFlight_47 : decode cX1_leaveFlight 47 = .ok (.getfield 166, 3) := by decide +kernel
theorem dX1_leaveFlight_50 : decode cX1_leaveFlight 50 = .ok (.aaload, 1) := by decide +kernel
theorem dX1_leaveFlight_51 : decode cX1_leaveFlight 51 = .ok (.aload_n 1, 1) := by decide +kernel
theorem dX1_leaveFlight_52 : decode cX1_leaveFlight 52 = .ok (.getfield 169, 3) := by decide +kernel
theorem dX1_leaveFlight_55 : decode cX1_leaveFlight 55 = .ok (.aload_n 1, 1) := by decide +kernel
theorem dX1_leaveFlight_56 : decode cX1_leaveFlight 56 = .ok (.getfield 172, 3) := by decide +kernel
theorem dX1_leaveFlight_59 : decode cX1_leaveFlight 59 = .ok (.invokevirtual 175, 3) := by decide +kernel
theorem dX1_leaveFlight_62 : decode cX1_leaveFlight 62 = .ok (.aload_n 0, 1) := by decide +kernel
theorem dX1_leaveFlight_63 : decode cX1_leaveFlight 63 = .ok (.getfield 49, 3) := by decide +kernel
theorem dX1_leaveFlight_66 : decode cX1_leaveFlight 66 = .ok (.aload_n 1, 1) := by decide +kernel
theorem dX1_leaveFlight_67 : decode cX1_leaveFlight 67 = .ok (.getfield 166, 3) := by decide +kernel
theorem dX1_leaveFlight_70 : decode cX1_leaveFlight 70 = .ok (.aaload, 1) := by decide +kernel
theorem dX1_leaveFlight_71 : decode cX1_leaveFlight 71 = .ok (.aload_n 1, 1) := by decide +kernel
theorem dX1_leaveFlight_72 : decode cX1_leaveFlight 72 = .ok (.getfield 169, 3) := by decide +kernel
theorem dX1_leaveFlight_75 : decode cX1_leaveFlight 75 = .ok (.aload_n 1, 1) := by decide +kernel
theorem dX1_leaveFlight_76 : decode cX1_leaveFlight 76 = .ok (.getfield 172, 3) := by decide +kernel
theorem dX1_leaveFlight_79 : decode cX1_leaveFlight 79 = .ok (.invokevirtual 181, 3) := by decide +kernel
theorem dX1_leaveFlight_82 : decode cX1_leaveFlight 82 = .ok (.return_, 1) := by decide +kernel
theorem dX1_hearAck_0 : decode cX1_hearAck 0 = .ok (.aload_n 0, 1) := by decide +kernel
theorem dX1_hearAck_1 : decode cX1_hearAck 1 = .ok (.aload_n 1, 1) := by decide +kernel
theorem dX1_hearAck_2 : decode cX1_hearAck 2 = .ok (.invokevirtual 184, 3) := by decide +kernel
theorem dX1_hearAck_5 : decode cX1_hearAck 5 = .ok (.invokevirtual 83, 3) := by decide +kernel
theorem dX1_hearAck_8 : decode cX1_hearAck 8 = .ok (.astore_n 2, 1) := by decide +kernel
theorem dX1_hearAck_9 : decode cX1_hearAck 9 = .ok (.aload_n 2, 1) := by decide +kernel
theorem dX1_hearAck_10 : decode cX1_hearAck 10 = .ok (.ifnull 14, 3) := by decide +kernel
theorem dX1_hearAck_13 : decode cX1_hearAck 13 = .ok (.aload_n 2, 1) := by decide +kernel
theorem dX1_hearAck_14 : decode cX1_hearAck 14 = .ok (.getfield 95, 3) := by decide +kernel
theorem dX1_hearAck_17 : decode cX1_hearAck 17 = .ok (.ifCond .ne 7, 3) := by decide +kernel
theorem dX1_hearAck_20 : decode cX1_hearAck 20 = .ok (.iconst 1, 1) := by decide +kernel
theorem dX1_hearAck_21 : decode cX1_hearAck 21 = .ok (.goto 4, 3) := by decide +kernel
theorem dX1_hearAck_24 : decode cX1_hearAck 24 = .ok (.iconst 0, 1) := by decide +kernel
theorem dX1_hearAck_25 : decode cX1_hearAck 25 = .ok (.istore_n 3, 1) := by decide +kernel
theorem dX1_hearAck_26 : decode cX1_hearAck 26 = .ok (.aload_n 1, 1) := by decide +kernel
theorem dX1_hearAck_27 : decode cX1_hearAck 27 = .ok (.getfield 190, 3) := by decide +kernel
theorem dX1_hearAck_30 : decode cX1_hearAck 30 = .ok (.iconst 4, 1) := by decide +kernel
theorem dX1_hearAck_31 : decode cX1_hearAck 31 = .ok (.invokestatic 193, 3) := by decide +kernel
theorem dX1_hearAck_34 : decode cX1_hearAck 34 = .ok (.iconst 1, 1) := by decide +kernel
theorem dX1_hearAck_35 : decode cX1_hearAck 35 = .ok (.isub, 1) := by decide +kernel
theorem dX1_hearAck_36 : decode cX1_hearAck 36 = .ok (.istore 4, 2) := by decide +kernel
theorem dX1_hearAck_38 : decode cX1_hearAck 38 = .ok (.iload 4, 2) := by decide +kernel
theorem dX1_hearAck_40 : decode cX1_hearAck 40 = .ok (.ifCond .lt 55, 3) := by decide +kernel
theorem dX1_hearAck_43 : decode cX1_hearAck 43 = .ok (.aload_n 1, 1) := by decide +kernel
theorem dX1_hearAck_44 : decode cX1_hearAck 44 = .ok (.getfield 199, 3) := by decide +kernel
theorem dX1_hearAck_47 : decode cX1_hearAck 47 = .ok (.iload 4, 2) := by decide +kernel
theorem dX1_hearAck_49 : decode cX1_hearAck 49 = .ok (.iaload, 1) := by decide +kernel
theorem dX1_hearAck_50 : decode cX1_hearAck 50 = .ok (.istore 5, 2) := by decide +kernel
theorem dX1_hearAck_52 : decode cX1_hearAck 52 = .ok (.iload 5, 2) := by decide +kernel
theorem dX1_hearAck_54 : decode cX1_hearAck 54 = .ok (.aload_n 1, 1) := by decide +kernel
theorem dX1_hearAck_55 : decode cX1_hearAck 55 = .ok (.getfield 203, 3) := by decide +kernel
theorem dX1_hearAck_58 : decode cX1_hearAck 58 = .ok (.iload 4, 2) := by decide +kernel
theorem dX1_hearAck_60 : decode cX1_hearAck 60 = .ok (.iaload, 1) := by decide +kernel
theorem dX1_hearAck_61 : decode cX1_hearAck 61 = .ok (.if_icmp .gt 28, 3) := by decide +kernel
theorem dX1_hearAck_64 : decode cX1_hearAck 64 = .ok (.iload 5, 2) := by decide +kernel
theorem dX1_hearAck_66 : decode cX1_hearAck 66 = .ok (.aload_n 0, 1) := by decide +kernel
theorem dX1_hearAck_67 : decode cX1_hearAck 67 = .ok (.getfield 53, 3) := by decide +kernel
theorem dX1_hearAck_70 : decode cX1_hearAck 70 = .ok (.if_icmp .ge 19, 3) := by decide +kernel
theorem dX1_hearAck_73 : decode cX1_hearAck 73 = .ok (.aload_n 0, 1) := by decide +kernel
theorem dX1_hearAck_74 : decode cX1_hearAck 74 = .ok (.aload_n 0, 1) := by decide +kernel
theorem dX1_hearAck_75 : decode cX1_hearAck 75 = .ok (.iload 5, 2) := by decide +kernel
theorem dX1_hearAck_77 : decode cX1_hearAck 77 = .ok (.invokevirtual 83, 3) := by decide +kernel
theorem dX1_hearAck_80 : decode cX1_hearAck 80 = .ok (.invokevirtual 206, 3) := by decide +kernel
theorem dX1_hearAck_83 : decode cX1_hearAck 83 = .ok (.iinc 5 1, 3) := by decide +kernel
theorem dX1_hearAck_86 : decode cX1_hearAck 86 = .ok (.goto (-34), 3) := by decide +kernel
theorem dX1_hearAck_89 : decode cX1_hearAck 89 = .ok (.iinc 4 (-1), 3) := by decide +kernel
theorem dX1_hearAck_92 : decode cX1_hearAck 92 = .ok (.goto (-54), 3) := by decide +kernel
theorem dX1_hearAck_95 : decode cX1_hearAck 95 = .ok (.aload_n 2, 1) := by decide +kernel
theorem dX1_hearAck_96 : decode cX1_hearAck 96 = .ok (.ifnull 13, 3) := by decide +kernel
theorem dX1_hearAck_99 : decode cX1_hearAck 99 = .ok (.aload_n 0, 1) := by decide +kernel
theorem dX1_hearAck_100 : decode cX1_hearAck 100 = .ok (.aload_n 2, 1) := by decide +kernel
theorem dX1_hearAck_101 : decode cX1_hearAck 101 = .ok (.iload_n 3, 1) := by decide +kernel
theorem dX1_hearAck_102 : decode cX1_hearAck 102 = .ok (.aload_n 1, 1) := by decide +kernel
theorem dX1_hearAck_103 : decode cX1_hearAck 103 = .ok (.getfield 209, 3) := by decide +kernel
theorem dX1_hearAck_106 : decode cX1_hearAck 106 = .ok (.invokevirtual 212, 3) := by decide +kernel
theorem dX1_hearAck_109 : decode cX1_hearAck 109 = .ok (.aload_n 0, 1) := by decide +kernel
theorem dX1_hearAck_110 : decode cX1_hearAck 110 = .ok (.aload_n 1, 1) := by decide +kernel
theorem dX1_hearAck_111 : decode cX1_hearAck 111 = .ok (.invokevirtual 216, 3) := by decide +kernel
theorem dX1_hearAck_114 : decode cX1_hearAck 114 = .ok (.aload_n 0, 1) := by decide +kernel
theorem dX1_hearAck_115 : decode cX1_hearAck 115 = .ok (.getfield 14, 3) := by decide +kernel
theorem dX1_hearAck_118 : decode cX1_hearAck 118 = .ok (.iconst 0, 1) := by decide +kernel
theorem dX1_hearAck_119 : decode cX1_hearAck 119 = .ok (.putfield 219, 3) := by decide +kernel
theorem dX1_hearAck_122 : decode cX1_hearAck 122 = .ok (.aload_n 0, 1) := by decide +kernel
theorem dX1_hearAck_123 : decode cX1_hearAck 123 = .ok (.getfield 20, 3) := by decide +kernel
theorem dX1_hearAck_126 : decode cX1_hearAck 126 = .ok (.iconst 0, 1) := by decide +kernel
theorem dX1_hearAck_127 : decode cX1_hearAck 127 = .ok (.putfield 219, 3) := by decide +kernel
theorem dX1_hearAck_130 : decode cX1_hearAck 130 = .ok (.aload_n 0, 1) := by decide +kernel
theorem dX1_hearAck_131 : decode cX1_hearAck 131 = .ok (.aload_n 0, 1) := by decide +kernel
theorem dX1_hearAck_132 : decode cX1_hearAck 132 = .ok (.getfield 14, 3) := by decide +kernel
theorem dX1_hearAck_135 : decode cX1_hearAck 135 = .ok (.iconst 1, 1) := by decide +kernel
theorem dX1_hearAck_136 : decode cX1_hearAck 136 = .ok (.invokevirtual 222, 3) := by decide +kernel
theorem dX1_hearAck_139 : decode cX1_hearAck 139 = .ok (.aload_n 0, 1) := by decide +kernel
theorem dX1_hearAck_140 : decode cX1_hearAck 140 = .ok (.aload_n 0, 1) := by decide +kernel
theorem dX1_hearAck_141 : decode cX1_hearAck 141 = .ok (.getfield 20, 3) := by decide +kernel
theorem dX1_hearAck_144 : decode cX1_hearAck 144 = .ok (.iconst 1, 1) := by decide +kernel
theorem dX1_hearAck_145 : decode cX1_hearAck 145 = .ok (.invokevirtual 222, 3) := by decide +kernel
theorem dX1_hearAck_148 : decode cX1_hearAck 148 = .ok (.return_, 1) := by decide +kernel
theorem dX1_hearOfGreatest_0 : decode cX1_hearOfGreatest 0 = .ok (.aload_n 0, 1) := by decide +kernel
theorem dX1_hearOfGreatest_1 : decode cX1_hearOfGreatest 1 = .ok (.aload_n 1, 1) := by decide +kernel
theorem dX1_hearOfGreatest_2 : decode cX1_hearOfGreatest 2 = .ok (.getfield 162, 3) := by decide +kernel
theorem dX1_hearOfGreatest_5 : decode cX1_hearOfGreatest 5 = .ok (.invokevirtual 127, 3) := by decide +kernel
theorem dX1_hearOfGreatest_8 : decode cX1_hearOfGreatest 8 = .ok (.astore 4, 2) := by decide +kernel
theorem dX1_hearOfGreatest_10 : decode cX1_hearOfGreatest 10 = .ok (.iload_n 2, 1) := by decide +kernel
theorem dX1_hearOfGreatest_11 : decode cX1_hearOfGreatest 11 = .ok (.ifCond .eq 20, 3) := by decide +kernel
theorem dX1_hearOfGreatest_14 : decode cX1_hearOfGreatest 14 = .ok (.aload 4, 2) := by decide +kernel
theorem dX1_hearOfGreatest_16 : decode cX1_hearOfGreatest 16 = .ok (.aload_n 0, 1) := by decide +kernel
theorem dX1_hearOfGreatest_17 : decode cX1_hearOfGreatest 17 = .ok (.getfield 45, 3) := by decide +kernel
theorem dX1_hearOfGreatest_20 : decode cX1_hearOfGreatest 20 = .ok (.getfield 62, 3) := by decide +kernel
theorem dX1_hearOfGreatest_23 : decode cX1_hearOfGreatest 23 = .ok (.aload_n 1, 1) := by decide +kernel
theorem dX1_hearOfGreatest_24 : decode cX1_hearOfGreatest 24 = .ok (.getfield 226, 3) := by decide +kernel
theorem dX1_hearOfGreatest_27 : decode cX1_hearOfGreatest 27 = .ok (.isub, 1) := by decide +kernel
theorem dX1_hearOfGreatest_28 : decode cX1_hearOfGreatest 28 = .ok (.invokevirtual 149, 3) := by decide +kernel
theorem dX1_hearOfGreatest_31 : decode cX1_hearOfGreatest 31 = .ok (.iload_n 3, 1) := by decide +kernel
theorem dX1_hearOfGreatest_32 : decode cX1_hearOfGreatest 32 = .ok (.aload_n 0, 1) := by decide +kernel
theorem dX1_hearOfGreatest_33 : decode cX1_hearOfGreatest 33 = .ok (.getfield 229, 3) := by decide +kernel
theorem dX1_hearOfGreatest_36 : decode cX1_hearOfGreatest 36 = .ok (.if_icmp .le 32, 3) := by decide +kernel
theorem dX1_hearOfGreatest_39 : decode cX1_hearOfGreatest 39 = .ok (.aload_n 0, 1) := by decide +kernel
theorem dX1_hearOfGreatest_40 : decode cX1_hearOfGreatest 40 = .ok (.iload_n 3, 1) := by decide +kernel
theorem dX1_hearOfGreatest_41 : decode cX1_hearOfGreatest 41 = .ok (.putfield 229, 3) := by decide +kernel
theorem dX1_hearOfGreatest_44 : decode cX1_hearOfGreatest 44 = .ok (.aload 4, 2) := by decide +kernel
theorem dX1_hearOfGreatest_46 : decode cX1_hearOfGreatest 46 = .ok (.getfield 232, 3) := by decide +kernel
theorem dX1_hearOfGreatest_49 : decode cX1_hearOfGreatest 49 = .ok (.aload_n 1, 1) := by decide +kernel
theorem dX1_hearOfGreatest_50 : decode cX1_hearOfGreatest 50 = .ok (.getfield 236, 3) := by decide +kernel
theorem dX1_hearOfGreatest_53 : decode cX1_hearOfGreatest 53 = .ok (.iconst (-1), 1) := by decide +kernel
theorem dX1_hearOfGreatest_54 : decode cX1_hearOfGreatest 54 = .ok (.aload_n 0, 1) := by decide +kernel
theorem dX1_hearOfGreatest_55 : decode cX1_hearOfGreatest 55 = .ok (.getfield 53, 3) := by decide +kernel
theorem dX1_hearOfGreatest_58 : decode cX1_hearOfGreatest 58 = .ok (.aload_n 0, 1) := by decide +kernel
theorem dX1_hearOfGreatest_59 : decode cX1_hearOfGreatest 59 = .ok (.getfield 45, 3) := by decide +kernel
theorem dX1_hearOfGreatest_62 : decode cX1_hearOfGreatest 62 = .ok (.getfield 62, 3) := by decide +kernel
theorem dX1_hearOfGreatest_65 : decode cX1_hearOfGreatest 65 = .ok (.invokevirtual 239, 3) := by decide +kernel
theorem dX1_hearOfGreatest_68 : decode cX1_hearOfGreatest 68 = .ok (.return_, 1) := by decide +kernel
theorem dX1_acknowledge_0 : decode cX1_acknowledge 0 = .ok (.aload_n 1, 1) := by decide +kernel
theorem dX1_acknowledge_1 : decode cX1_acknowledge 1 = .ok (.ifnonnull 4, 3) := by decide +kernel
theorem dX1_acknowledge_4 : decode cX1_acknowledge 4 = .ok (.return_, 1) := by decide +kernel
theorem dX1_acknowledge_5 : decode cX1_acknowledge 5 = .ok (.aload_n 0, 1) := by decide +kernel
theorem dX1_acknowledge_6 : decode cX1_acknowledge 6 = .ok (.aload_n 1, 1) := by decide +kernel
theorem dX1_acknowledge_7 : decode cX1_acknowledge 7 = .ok (.getfield 162, 3) := by decide +kernel
theorem dX1_acknowledge_10 : decode cX1_acknowledge 10 = .ok (.invokevirtual 127, 3) := by decide +kernel
theorem dX1_acknowledge_13 : decode cX1_acknowledge 13 = .ok (.astore_n 2, 1) := by decide +kernel
theorem dX1_acknowledge_14 : decode cX1_acknowledge 14 = .ok (.aload_n 1, 1) := by decide +kernel
theorem dX1_acknowledge_15 : decode cX1_acknowledge 15 = .ok (.getfield 95, 3) := by decide +kernel
theorem dX1_acknowledge_18 : decode cX1_acknowledge 18 = .ok (.ifCond .ne 78, 3) := by decide +kernel
theorem dX1_acknowledge_21 : decode cX1_acknowledge 21 = .ok (.aload_n 0, 1) := by decide +kernel
theorem dX1_acknowledge_22 : decode cX1_acknowledge 22 = .ok (.aload_n 1, 1) := by decide +kernel
theorem dX1_acknowledge_23 : decode cX1_acknowledge 23 = .ok (.iconst 1, 1) := by decide +kernel
theorem dX1_acknowledge_24 : decode cX1_acknowledge 24 = .ok (.invokevirtual 158, 3) := by decide +kernel
theorem dX1_acknowledge_27 : decode cX1_acknowledge 27 = .ok (.aload_n 2, 1) := by decide +kernel
theorem dX1_acknowledge_28 : decode cX1_acknowledge 28 = .ok (.dup, 1) := by decide +kernel
theorem dX1_acknowledge_29 : decode cX1_acknowledge 29 = .ok (.getfield 245, 3) := by decide +kernel
theorem dX1_acknowledge_32 : decode cX1_acknowledge 32 = .ok (.iconst 1, 1) := by decide +kernel
theorem dX1_acknowledge_33 : decode cX1_acknowledge 33 = .ok (.iadd, 1) := by decide +kernel
theorem dX1_acknowledge_34 : decode cX1_acknowledge 34 = .ok (.putfield 245, 3) := by decide +kernel
theorem dX1_acknowledge_37 : decode cX1_acknowledge 37 = .ok (.aload_n 2, 1) := by decide +kernel
theorem dX1_acknowledge_38 : decode cX1_acknowledge 38 = .ok (.getfield 245, 3) := by decide +kernel
theorem dX1_acknowledge_41 : decode cX1_acknowledge 41 = .ok (.aload_n 1, 1) := by decide +kernel
theorem dX1_acknowledge_42 : decode cX1_acknowledge 42 = .ok (.getfield 248, 3) := by decide +kernel
theorem dX1_acknowledge_45 : decode cX1_acknowledge 45 = .ok (.isub, 1) := by decide +kernel
theorem dX1_acknowledge_46 : decode cX1_acknowledge 46 = .ok (.istore_n 3, 1) := by decide +kernel
theorem dX1_acknowledge_47 : decode cX1_acknowledge 47 = .ok (.aload_n 2, 1) := by decide +kernel
theorem dX1_acknowledge_48 : decode cX1_acknowledge 48 = .ok (.getfield 232, 3) := by decide +kernel
theorem dX1_acknowledge_51 : decode cX1_acknowledge 51 = .ok (.aload_n 0, 1) := by decide +kernel
theorem dX1_acknowledge_52 : decode cX1_acknowledge 52 = .ok (.getfield 45, 3) := by decide +kernel
theorem dX1_acknowledge_55 : decode cX1_acknowledge 55 = .ok (.getfield 62, 3) := by decide +kernel
theorem dX1_acknowledge_58 : decode cX1_acknowledge 58 = .ok (.iload_n 3, 1) := by decide +kernel
theorem dX1_acknowledge_59 : decode cX1_acknowledge 59 = .ok (.aload_n 0, 1) := by decide +kernel
theorem dX1_acknowledge_60 : decode cX1_acknowledge 60 = .ok (.getfield 45, 3) := by decide +kernel
theorem dX1_acknowledge_63 : decode cX1_acknowledge 63 = .ok (.getfield 62, 3) := by decide +kernel
theorem dX1_acknowledge_66 : decode cX1_acknowledge 66 = .ok (.aload_n 1, 1) := by decide +kernel
theorem dX1_acknowledge_67 : decode cX1_acknowledge 67 = .ok (.getfield 226, 3) := by decide +kernel
theorem dX1_acknowledge_70 : decode cX1_acknowledge 70 = .ok (.isub, 1) := by decide +kernel
theorem dX1_acknowledge_71 : decode cX1_acknowledge 71 = .ok (.aload_n 2, 1) := by decide +kernel
theorem dX1_acknowledge_72 : decode cX1_acknowledge 72 = .ok (.getfield 251, 3) := by decide +kernel
theorem dX1_acknowledge_75 : decode cX1_acknowledge 75 = .ok (.invokevirtual 254, 3) := by decide +kernel
theorem dX1_acknowledge_78 : decode cX1_acknowledge 78 = .ok (.aload_n 2, 1) := by decide +kernel
theorem dX1_acknowledge_79 : decode cX1_acknowledge 79 = .ok (.aload_n 2, 1) := by decide +kernel
theorem dX1_acknowledge_80 : decode cX1_acknowledge 80 = .ok (.getfield 257, 3) := by decide +kernel
theorem dX1_acknowledge_83 : decode cX1_acknowledge 83 = .ok (.aload_n 1, 1) := by decide +kernel
theorem dX1_acknowledge_84 : decode cX1_acknowledge 84 = .ok (.getfield 260, 3) := by decide +kernel
theorem dX1_acknowledge_87 : decode cX1_acknowledge 87 = .ok (.invokestatic 263, 3) := by decide +kernel
theorem dX1_acknowledge_90 : decode cX1_acknowledge 90 = .ok (.putfield 257, 3) := by decide +kernel
theorem dX1_acknowledge_93 : decode cX1_acknowledge 93 = .ok (.goto 72, 3) := by decide +kernel
theorem dX1_acknowledge_96 : decode cX1_acknowledge 96 = .ok (.aload_n 1, 1) := by decide +kernel
theorem dX1_acknowledge_97 : decode cX1_acknowledge 97 = .ok (.getfield 95, 3) := by decide +kernel
theorem dX1_acknowledge_100 : decode cX1_acknowledge 100 = .ok (.iconst 2, 1) := by decide +kernel
theorem dX1_acknowledge_101 : decode cX1_acknowledge 101 = .ok (.if_icmp .ne 64, 3) := by decide +kernel
theorem dX1_acknowledge_104 : decode cX1_acknowledge 104 = .ok (.aload_n 1, 1) := by decide +kernel
theorem dX1_acknowledge_105 : decode cX1_acknowledge 105 = .ok (.iconst 3, 1) := by decide +kernel
theorem dX1_acknowledge_106 : decode cX1_acknowledge 106 = .ok (.putfield 95, 3) := by decide +kernel
theorem dX1_acknowledge_109 : decode cX1_acknowledge 109 = .ok (.aload_n 2, 1) := by decide +kernel
theorem dX1_acknowledge_110 : decode cX1_acknowledge 110 = .ok (.dup, 1) := by decide +kernel
theorem dX1_acknowledge_111 : decode cX1_acknowledge 111 = .ok (.getfield 266, 3) := by decide +kernel
theorem dX1_acknowledge_114 : decode cX1_acknowledge 114 = .ok (.iconst 1, 1) := by decide +kernel
theorem dX1_acknowledge_115 : decode cX1_acknowledge 115 = .ok (.iadd, 1) := by decide +kernel
theorem dX1_acknowledge_116 : decode cX1_acknowledge 116 = .ok (.putfield 266, 3) := by decide +kernel
theorem dX1_acknowledge_119 : decode cX1_acknowledge 119 = .ok (.aload_n 1, 1) := by decide +kernel
theorem dX1_acknowledge_120 : decode cX1_acknowledge 120 = .ok (.getfield 166, 3) := by decide +kernel
theorem dX1_acknowledge_123 : decode cX1_acknowledge 123 = .ok (.ifCond .lt 31, 3) := by decide +kernel
theorem dX1_acknowledge_126 : decode cX1_acknowledge 126 = .ok (.aload_n 1, 1) := by decide +kernel
theorem dX1_acknowledge_127 : decode cX1_acknowledge 127 = .ok (.getfield 166, 3) := by decide +kernel
theorem dX1_acknowledge_130 : decode cX1_acknowledge 130 = .ok (.iconst 4, 1) := by decide +kernel
theorem dX1_acknowledge_131 : decode cX1_acknowledge 131 = .ok (.if_icmp .ge 23, 3) := by decide +kernel
theorem dX1_acknowledge_134 : decode cX1_acknowledge 134 = .ok (.aload_n 0, 1) := by decide +kernel
theorem dX1_acknowledge_135 : decode cX1_acknowledge 135 = .ok (.getfield 49, 3) := by decide +kernel
theorem dX1_acknowledge_138 : decode cX1_acknowledge 138 = .ok (.aload_n 1, 1) := by decide +kernel
theorem dX1_acknowledge_139 : decode cX1_acknowledge 139 = .ok (.getfield 166, 3) := by decide +kernel
theorem dX1_acknowledge_142 : decode cX1_acknowledge 142 = .ok (.aaload, 1) := by decide +kernel
theorem dX1_acknowledge_143 : decode cX1_acknowledge 143 = .ok (.aload_n 1, 1) := by decide +kernel
theorem dX1_acknowledge_144 : decode cX1_acknowledge 144 = .ok (.getfield 169, 3) := by decide +kernel
theorem dX1_acknowledge_147 : decode cX1_acknowledge 147 = .ok (.aload_n 1, 1) := by decide +kernel
theorem dX1_acknowledge_148 : decode cX1_acknowledge 148 = .ok (.getfield 172, 3) := by decide +kernel
theorem dX1_acknowledge_151 : decode cX1_acknowledge 151 = .ok (.invokevirtual 175, 3) := by decide +kernel
theorem dX1_acknowledge_154 : decode cX1_acknowledge 154 = .ok (.aload_n 2, 1) := by decide +kernel
theorem dX1_acknowledge_155 : decode cX1_acknowledge 155 = .ok (.getfield 232, 3) := by decide +kernel
theorem dX1_acknowledge_158 : decode cX1_acknowledge 158 = .ok (.aload_n 1, 1) := by decide +kernel
theorem dX1_acknowledge_159 : decode cX1_acknowledge 159 = .ok (.getfield 236, 3) := by decide +kernel
theorem dX1_acknowledge_162 : decode cX1_acknowledge 162 = .ok (.invokevirtual 269, 3) := by decide +kernel
theorem dX1_acknowledge_165 : decode cX1_acknowledge 165 = .ok (.return_, 1) := by decide +kernel
theorem dX1_takeCredits_0 : decode cX1_takeCredits 0 = .ok (.iconst 0, 1) := by decide +kernel
theorem dX1_takeCredits_1 : decode cX1_takeCredits 1 = .ok (.istore_n 2, 1) := by decide +kernel
theorem dX1_takeCredits_2 : decode cX1_takeCredits 2 = .ok (.iload_n 2, 1) := by decide +kernel
theorem dX1_takeCredits_3 : decode cX1_takeCredits 3 = .ok (.iconst 4, 1) := by decide +kernel
theorem dX1_takeCredits_4 : decode cX1_takeCredits 4 = .ok (.if_icmp .ge 36, 3) := by decide +kernel
theorem dX1_takeCredits_7 : decode cX1_takeCredits 7 = .ok (.aload_n 0, 1) := by decide +kernel
theorem dX1_takeCredits_8 : decode cX1_takeCredits 8 = .ok (.getfield 49, 3) := by decide +kernel
theorem dX1_takeCredits_11 : decode cX1_takeCredits 11 = .ok (.iload_n 2, 1) := by decide +kernel
theorem dX1_takeCredits_12 : decode cX1_takeCredits 12 = .ok (.aaload, 1) := by decide +kernel
theorem dX1_takeCredits_13 : decode cX1_takeCredits 13 = .ok (.aload_n 0, 1) := by decide +kernel
theorem dX1_takeCredits_14 : decode cX1_takeCredits 14 = .ok (.getfield 49, 3) := by decide +kernel
theorem dX1_takeCredits_17 : decode cX1_takeCredits 17 = .ok (.iload_n 2, 1) := by decide +kernel
theorem dX1_takeCredits_18 : decode cX1_takeCredits 18 = .ok (.aaload, 1) := by decide +kernel
theorem dX1_takeCredits_19 : decode cX1_takeCredits 19 = .ok (.getfield 272, 3) := by decide +kernel
theorem dX1_takeCredits_22 : decode cX1_takeCredits 22 = .ok (.aload_n 1, 1) := by decide +kernel
theorem dX1_takeCredits_23 : decode cX1_takeCredits 23 = .ok (.getfield 275, 3) := by decide +kernel
theorem dX1_takeCredits_26 : decode cX1_takeCredits 26 = .ok (.iload_n 2, 1) := by decide +kernel
theorem dX1_takeCredits_27 : decode cX1_takeCredits 27 = .ok (.iaload, 1) := by decide +kernel
theorem dX1_takeCredits_28 : decode cX1_takeCredits 28 = .ok (.invokestatic 263, 3) := by decide +kernel
theorem dX1_takeCredits_31 : decode cX1_takeCredits 31 = .ok (.putfield 272, 3) := by decide +kernel
theorem dX1_takeCredits_34 : decode cX1_takeCredits 34 = .ok (.iinc 2 1, 3) := by decide +kernel
theorem dX1_takeCredits_37 : decode cX1_takeCredits 37 = .ok (.goto (-35), 3) := by decide +kernel
theorem dX1_takeCredits_40 : decode cX1_takeCredits 40 = .ok (.aload_n 0, 1) := by decide +kernel
theorem dX1_takeCredits_41 : decode cX1_takeCredits 41 = .ok (.aload_n 0, 1) := by decide +kernel
theorem dX1_takeCredits_42 : decode cX1_takeCredits 42 = .ok (.getfield 39, 3) := by decide +kernel
theorem dX1_takeCredits_45 : decode cX1_takeCredits 45 = .ok (.aload_n 1, 1) := by decide +kernel
theorem dX1_takeCredits_46 : decode cX1_takeCredits 46 = .ok (.getfield 278, 3) := by decide +kernel
theorem dX1_takeCredits_49 : decode cX1_takeCredits 49 = .ok (.invokestatic 263, 3) := by decide +kernel
theorem dX1_takeCredits_52 : decode cX1_takeCredits 52 = .ok (.putfield 39, 3) := by decide +kernel
theorem dX1_takeCredits_55 : decode cX1_takeCredits 55 = .ok (.return_, 1) := by decide +kernel
theorem dX1_findLosses_0 : decode cX1_findLosses 0 = .ok (.aload_n 0, 1) := by decide +kernel
theorem dX1_findLosses_1 : decode cX1_findLosses 1 = .ok (.aload_n 1, 1) := by decide +kernel
theorem dX1_findLosses_2 : decode cX1_findLosses 2 = .ok (.invokevirtual 279, 3) := by decide +kernel
theorem dX1_findLosses_5 : decode cX1_findLosses 5 = .ok (.astore_n 3, 1) := by decide +kernel
theorem dX1_findLosses_6 : decode cX1_findLosses 6 = .ok (.aload_n 1, 1) := by decide +kernel
theorem dX1_findLosses_7 : decode cX1_findLosses 7 = .ok (.getfield 163, 3) := by decide +kernel
theorem dX1_findLosses_10 : decode cX1_findLosses 10 = .ok (.istore 4, 2) := by decide +kernel
theorem dX1_findLosses_12 : decode cX1_findLosses 12 = .ok (.iload 4, 2) := by decide +kernel
theorem dX1_findLosses_14 : decode cX1_findLosses 14 = .ok (.ifCond .le 103, 3) := by decide +kernel
theorem dX1_findLosses_17 : decode cX1_findLosses 17 = .ok (.aload_n 3, 1) := by decide +kernel
theorem dX1_findLosses_18 : decode cX1_findLosses 18 = .ok (.ifnull 99, 3) := by decide +kernel
theorem dX1_findLosses_21 : decode cX1_findLosses 21 = .ok (.iload_n 2, 1) := by decide +kernel
theorem dX1_findLosses_22 : decode cX1_findLosses 22 = .ok (.ifCond .eq 15, 3) := by decide +kernel
theorem dX1_findLosses_25 : decode cX1_findLosses 25 = .ok (.aload_n 1, 1) := by decide +kernel
theorem dX1_findLosses_26 : decode cX1_findLosses 26 = .ok (.aload_n 3, 1) := by decide +kernel
theorem dX1_findLosses_27 : decode cX1_findLosses 27 = .ok (.invokevirtual 283, 3) := by decide +kernel
theorem dX1_findLosses_30 : decode cX1_findLosses 30 = .ok (.ifCond .eq 7, 3) := by decide +kernel
theorem dX1_findLosses_33 : decode cX1_findLosses 33 = .ok (.iconst 1, 1) := by decide +kernel
theorem dX1_findLosses_34 : decode cX1_findLosses 34 = .ok (.goto 4, 3) := by decide +kernel
theorem dX1_findLosses_37 : decode cX1_findLosses 37 = .ok (.iconst 0, 1) := by decide +kernel
theorem dX1_findLosses_38 : decode cX1_findLosses 38 = .ok (.istore 5, 2) := by decide +kernel
theorem dX1_findLosses_40 : decode cX1_findLosses 40 = .ok (.iload 5, 2) := by decide +kernel
theorem dX1_findLosses_42 : decode cX1_findLosses 42 = .ok (.ifCond .ne 21, 3) := by decide +kernel
theorem dX1_findLosses_45 : decode cX1_findLosses 45 = .ok (.aload_n 1, 1) := by decide +kernel
theorem dX1_findLosses_46 : decode cX1_findLosses 46 = .ok (.aload_n 3, 1) := by decide +kernel
theorem dX1_findLosses_47 : decode cX1_findLosses 47 = .ok (.aload_n 0, 1) := by decide +kernel
theorem dX1_findLosses_48 : decode cX1_findLosses 48 = .ok (.getfield 45, 3) := by decide +kernel
theorem dX1_findLosses_51 : decode cX1_findLosses 51 = .ok (.getfield 62, 3) := by decide +kernel
theorem dX1_findLosses_54 : decode cX1_findLosses 54 = .ok (.invokevirtual 286, 3) := by decide +kernel
theorem dX1_findLosses_57 : decode cX1_findLosses 57 = .ok (.ifCond .ne 6, 3) := by decide +kernel
theorem dX1_findLosses_60 : decode cX1_findLosses 60 = .ok (.goto 57, 3) := by decide +kernel
theorem dX1_findLosses_63 : decode cX1_findLosses 63 = .ok (.aload_n 0, 1) := by decide +kernel
theorem dX1_findLosses_64 : decode cX1_findLosses 64 = .ok (.aload_n 3, 1) := by decide +kernel
theorem dX1_findLosses_65 : decode cX1_findLosses 65 = .ok (.iconst 2, 1) := by decide +kernel
theorem dX1_findLosses_66 : decode cX1_findLosses 66 = .ok (.invokevirtual 158, 3) := by decide +kernel
theorem dX1_findLosses_69 : decode cX1_findLosses 69 = .ok (.aload_n 1, 1) := by decide +kernel
theorem dX1_findLosses_70 : decode cX1_findLosses 70 = .ok (.dup, 1) := by decide +kernel
theorem dX1_findLosses_71 : decode cX1_findLosses 71 = .ok (.getfield 290, 3) := by decide +kernel
theorem dX1_findLosses_74 : decode cX1_findLosses 74 = .ok (.iconst 1, 1) := by decide +kernel
theorem dX1_findLosses_75 : decode cX1_findLosses 75 = .ok (.iadd, 1) := by decide +kernel
theorem dX1_findLosses_76 : decode cX1_findLosses 76 = .ok (.putfield 290, 3) := by decide +kernel
theorem dX1_findLosses_79 : decode cX1_findLosses 79 = .ok (.aload_n 1, 1) := by decide +kernel
theorem dX1_findLosses_80 : decode cX1_findLosses 80 = .ok (.getfield 232, 3) := by decide +kernel
theorem dX1_findLosses_83 : decode cX1_findLosses 83 = .ok (.aload_n 3, 1) := by decide +kernel
theorem dX1_findLosses_84 : decode cX1_findLosses 84 = .ok (.getfield 236, 3) := by decide +kernel
theorem dX1_findLosses_87 : decode cX1_findLosses 87 = .ok (.aload_n 3, 1) := by decide +kernel
theorem dX1_findLosses_88 : decode cX1_findLosses 88 = .ok (.getfield 236, 3) := by decide +kernel
theorem dX1_findLosses_91 : decode cX1_findLosses 91 = .ok (.aload_n 0, 1) := by decide +kernel
theorem dX1_findLosses_92 : decode cX1_findLosses 92 = .ok (.getfield 53, 3) := by decide +kernel
theorem dX1_findLosses_95 : decode cX1_findLosses 95 = .ok (.aload_n 0, 1) := by decide +kernel
theorem dX1_findLosses_96 : decode cX1_findLosses 96 = .ok (.getfield 45, 3) := by decide +kernel
theorem dX1_findLosses_99 : decode cX1_findLosses 99 = .ok (.getfield 62, 3) := by decide +kernel
theorem dX1_findLosses_102 : decode cX1_findLosses 102 = .ok (.invokevirtual 239, 3) := by decide +kernel
theorem dX1_findLosses_105 : decode cX1_findLosses 105 = .ok (.aload_n 0, 1) := by decide +kernel
theorem dX1_findLosses_106 : decode cX1_findLosses 106 = .ok (.aload_n 1, 1) := by decide +kernel
theorem dX1_findLosses_107 : decode cX1_findLosses 107 = .ok (.invokevirtual 279, 3) := by decide +kernel
theorem dX1_findLosses_110 : decode cX1_findLosses 110 = .ok (.astore_n 3, 1) := by decide +kernel
theorem dX1_findLosses_111 : decode cX1_findLosses 111 = .ok (.iinc 4 (-1), 3) := by decide +kernel
theorem dX1_findLosses_114 : decode cX1_findLosses 114 = .ok (.goto (-102), 3) := by decide +kernel
theorem dX1_findLosses_117 : decode cX1_findLosses 117 = .ok (.return_, 1) := by decide +kernel
theorem dX1_lowestInFlight_0 : decode cX1_lowestInFlight 0 = .ok (.aload_n 0, 1) := by decide +kernel
theorem dX1_lowestInFlight_1 : decode cX1_lowestInFlight 1 = .ok (.aload_n 0, 1) := by decide +kernel
theorem dX1_lowestInFlight_2 : decode cX1_lowestInFlight 2 = .ok (.getfield 152, 3) := by decide +kernel
theorem dX1_lowestInFlight_5 : decode cX1_lowestInFlight 5 = .ok (.invokevirtual 83, 3) := by decide +kernel
theorem dX1_lowestInFlight_8 : decode cX1_lowestInFlight 8 = .ok (.astore_n 2, 1) := by decide +kernel
theorem dX1_lowestInFlight_9 : decode cX1_lowestInFlight 9 = .ok (.aload_n 0, 1) := by decide +kernel
theorem dX1_lowestInFlight_10 : decode cX1_lowestInFlight 10 = .ok (.getfield 152, 3) := by decide +kernel
theorem dX1_lowestInFlight_13 : decode cX1_lowestInFlight 13 = .ok (.aload_n 0, 1) := by decide +kernel
theorem dX1_lowestInFlight_14 : decode cX1_lowestInFlight 14 = .ok (.getfield 53, 3) := by decide +kernel
theorem dX1_lowestInFlight_17 : decode cX1_lowestInFlight 17 = .ok (.if_icmp .ge 36, 3) := by decide +kernel
theorem dX1_lowestInFlight_20 : decode cX1_lowestInFlight 20 = .ok (.aload_n 2, 1) := by decide +kernel
theorem dX1_lowestInFlight_21 : decode cX1_lowestInFlight 21 = .ok (.ifnull 32, 3) := by decide +kernel
theorem dX1_lowestInFlight_24 : decode cX1_lowestInFlight 24 = .ok (.aload_n 2, 1) := by decide +kernel
theorem dX1_lowestInFlight_25 : decode cX1_lowestInFlight 25 = .ok (.getfield 95, 3) := by decide +kernel
theorem dX1_lowestInFlight_28 : decode cX1_lowestInFlight 28 = .ok (.ifCond .eq 25, 3) := by decide +kernel
theorem dX1_lowestInFlight_31 : decode cX1_lowestInFlight 31 = .ok (.aload_n 0, 1) := by decide +kernel
theorem dX1_lowestInFlight_32 : decode cX1_lowestInFlight 32 = .ok (.dup, 1) := by decide +kernel
theorem dX1_lowestInFlight_33 : decode cX1_lowestInFlight 33 = .ok (.getfield 152, 3) := by decide +kernel
theorem dX1_lowestInFlight_36 : decode cX1_lowestInFlight 36 = .ok (.iconst 1, 1) := by decide +kernel
theorem dX1_lowestInFlight_37 : decode cX1_lowestInFlight 37 = .ok (.iadd, 1) := by decide +kernel
theorem dX1_lowestInFlight_38 : decode cX1_lowestInFlight 38 = .ok (.putfield 152, 3) := by decide +kernel
theorem dX1_lowestInFlight_41 : decode cX1_lowestInFlight 41 = .ok (.aload_n 0, 1) := by decide +kernel
theorem dX1_lowestInFlight_42 : decode cX1_lowestInFlight 42 = .ok (.aload_n 0, 1) := by decide +kernel
theorem dX1_lowestInFlight_43 : decode cX1_lowestInFlight 43 = .ok (.getfield 152, 3) := by decide +kernel
theorem dX1_lowestInFlight_46 : decode cX1_lowestInFlight 46 = .ok (.invokevirtual 83, 3) := by decide +kernel
theorem dX1_lowestInFlight_49 : decode cX1_lowestInFlight 49 = .ok (.astore_n 2, 1) := by decide +kernel
theorem dX1_lowestInFlight_50 : decode cX1_lowestInFlight 50 = .ok (.goto (-41), 3) := by decide +kernel
theorem dX1_lowestInFlight_53 : decode cX1_lowestInFlight 53 = .ok (.aload_n 0, 1) := by decide +kernel
theorem dX1_lowestInFlight_54 : decode cX1_lowestInFlight 54 = .ok (.getfield 152, 3) := by decide +kernel
theorem dX1_lowestInFlight_57 : decode cX1_lowestInFlight 57 = .ok (.istore_n 3, 1) := by decide +kernel
theorem dX1_lowestInFlight_58 : decode cX1_lowestInFlight 58 = .ok (.iload_n 3, 1) := by decide +kernel
theorem dX1_lowestInFlight_59 : decode cX1_lowestInFlight 59 = .ok (.aload_n 0, 1) := by decide +kernel
theorem dX1_lowestInFlight_60 : decode cX1_lowestInFlight 60 = .ok (.getfield 53, 3) := by decide +kernel
theorem dX1_lowestInFlight_63 : decode cX1_lowestInFlight 63 = .ok (.if_icmp .ge 51, 3) := by decide +kernel
theorem dX1_lowestInFlight_66 : decode cX1_lowestInFlight 66 = .ok (.aload_n 1, 1) := by decide +kernel
theorem dX1_lowestInFlight_67 : decode cX1_lowestInFlight 67 = .ok (.getfield 163, 3) := by decide +kernel
theorem dX1_lowestInFlight_70 : decode cX1_lowestInFlight 70 = .ok (.ifCond .le 44, 3) := by decide +kernel
theorem dX1_lowestInFlight_73 : decode cX1_lowestInFlight 73 = .ok (.aload_n 0, 1) := by decide +kernel
theorem dX1_lowestInFlight_74 : decode cX1_lowestInFlight 74 = .ok (.iload_n 3, 1) := by decide +kernel
theorem dX1_lowestInFlight_75 : decode cX1_lowestInFlight 75 = .ok (.invokevirtual 83, 3) := by decide +kernel
theorem dX1_lowestInFlight_78 : decode cX1_lowestInFlight 78 = .ok (.astore 4, 2) := by decide +kernel
theorem dX1_lowestInFlight_80 : decode cX1_lowestInFlight 80 = .ok (.aload 4, 2) := by decide +kernel
theorem dX1_lowestInFlight_82 : decode cX1_lowestInFlight 82 = .ok (.ifnull 26, 3) := by decide +kernel
theorem dX1_lowestInFlight_85 : decode cX1_lowestInFlight 85 = .ok (.aload 4, 2) := by decide +kernel
theorem dX1_lowestInFlight_87 : decode cX1_lowestInFlight 87 = .ok (.getfield 162, 3) := by decide +kernel
theorem dX1_lowestInFlight_90 : decode cX1_lowestInFlight 90 = .ok (.aload_n 1, 1) := by decide +kernel
theorem dX1_lowestInFlight_91 : decode cX1_lowestInFlight 91 = .ok (.getfield 293, 3) := by decide +kernel
theorem dX1_lowestInFlight_94 : decode cX1_lowestInFlight 94 = .ok (.if_icmp .ne 14, 3) := by decide +kernel
theorem dX1_lowestInFlight_97 : decode cX1_lowestInFlight 97 = .ok (.aload 4, 2) := by decide +kernel
theorem dX1_lowestInFlight_99 : decode cX1_lowestInFlight 99 = .ok (.getfield 95, 3) := by decide +kernel
theorem dX1_lowestInFlight_102 : decode cX1_lowestInFlight 102 = .ok (.ifCond .ne 6, 3) := by decide +kernel
theorem dX1_lowestInFlight_105 : decode cX1_lowestInFlight 105 = .ok (.aload 4, 2) := by decide +kernel
theorem dX1_lowestInFlight_107 : decode cX1_lowestInFlight 107 = .ok (.areturn, 1) := by decide +kernel
theorem dX1_lowestInFlight_108 : decode cX1_lowestInFlight 108 = .ok (.iinc 3 1, 3) := by decide +kernel
theorem dX1_lowestInFlight_111 : decode cX1_lowestInFlight 111 = .ok (.goto (-53), 3) := by decide +kernel
theorem dX1_lowestInFlight_114 : decode cX1_lowestInFlight 114 = .ok (.aconst_null, 1) := by decide +kernel
theorem dX1_lowestInFlight_115 : decode cX1_lowestInFlight 115 = .ok (.areturn, 1) := by decide +kernel
theorem dX1_lookAfter_0 : decode cX1_lookAfter 0 = .ok (.aload_n 0, 1) := by decide +kernel
theorem dX1_lookAfter_1 : decode cX1_lookAfter 1 = .ok (.getfield 29, 3) := by decide +kernel
theorem dX1_lookAfter_4 : decode cX1_lookAfter 4 = .ok (.iconst 1, 1) := by decide +kernel
theorem dX1_lookAfter_5 : decode cX1_lookAfter 5 = .ok (.if_icmp .eq 11, 3) := by decide +kernel
theorem dX1_lookAfter_8 : decode cX1_lookAfter 8 = .ok (.aload_n 0, 1) := by decide +kernel
theorem dX1_lookAfter_9 : decode cX1_lookAfter 9 = .ok (.getfield 29, 3) := by decide +kernel
theorem dX1_lookAfter_12 : decode cX1_lookAfter 12 = .ok (.iconst 2, 1) := by decide +kernel
theorem dX1_lookAfter_13 : decode cX1_lookAfter 13 = .ok (.if_icmp .ne 37, 3) := by decide +kernel
theorem dX1_lookAfter_16 : decode cX1_lookAfter 16 = .ok (.aload_n 0, 1) := by decide +kernel
theorem dX1_lookAfter_17 : decode cX1_lookAfter 17 = .ok (.aload_n 0, 1) := by decide +kernel
theorem dX1_lookAfter_18 : decode cX1_lookAfter 18 = .ok (.getfield 14, 3) := by decide +kernel
theorem dX1_lookAfter_21 : decode cX1_lookAfter 21 = .ok (.iconst 0, 1) := by decide +kernel
theorem dX1_lookAfter_22 : decode cX1_lookAfter 22 = .ok (.invokevirtual 222, 3) := by decide +kernel
theorem dX1_lookAfter_25 : decode cX1_lookAfter 25 = .ok (.aload_n 0, 1) := by decide +kernel
theorem dX1_lookAfter_26 : decode cX1_lookAfter 26 = .ok (.aload_n 0, 1) := by decide +kernel
theorem dX1_lookAfter_27 : decode cX1_lookAfter 27 = .ok (.getfield 20, 3) := by decide +kernel
theorem dX1_lookAfter_30 : decode cX1_lookAfter 30 = .ok (.iconst 0, 1) := by decide +kernel
theorem dX1_lookAfter_31 : decode cX1_lookAfter 31 = .ok (.invokevirtual 222, 3) := by decide +kernel
theorem dX1_lookAfter_34 : decode cX1_lookAfter 34 = .ok (.aload_n 0, 1) := by decide +kernel
theorem dX1_lookAfter_35 : decode cX1_lookAfter 35 = .ok (.aload_n 0, 1) := by decide +kernel
theorem dX1_lookAfter_36 : decode cX1_lookAfter 36 = .ok (.getfield 14, 3) := by decide +kernel
theorem dX1_lookAfter_39 : decode cX1_lookAfter 39 = .ok (.invokevirtual 294, 3) := by decide +kernel
theorem dX1_lookAfter_42 : decode cX1_lookAfter 42 = .ok (.aload_n 0, 1) := by decide +kernel
theorem dX1_lookAfter_43 : decode cX1_lookAfter 43 = .ok (.aload_n 0, 1) := by decide +kernel
theorem dX1_lookAfter_44 : decode cX1_lookAfter 44 = .ok (.getfield 20, 3) := by decide +kernel
theorem dX1_lookAfter_47 : decode cX1_lookAfter 47 = .ok (.invokevirtual 294, 3) := by decide +kernel
theorem dX1_lookAfter_50 : decode cX1_lookAfter 50 = .ok (.aload_n 0, 1) := by decide +kernel
theorem dX1_lookAfter_51 : decode cX1_lookAfter 51 = .ok (.getfield 29, 3) := by decide +kernel
theorem dX1_lookAfter_54 : decode cX1_lookAfter 54 = .ok (.iconst 1, 1) := by decide +kernel
theorem dX1_lookAfter_55 : decode cX1_lookAfter 55 = .ok (.if_icmp .ne 39, 3) := by decide +kernel
theorem dX1_lookAfter_58 : decode cX1_lookAfter 58 = .ok (.aload_n 0, 1) := by decide +kernel
theorem dX1_lookAfter_59 : decode cX1_lookAfter 59 = .ok (.getfield 45, 3) := by decide +kernel
theorem dX1_lookAfter_62 : decode cX1_lookAfter 62 = .ok (.getfield 62, 3) := by decide +kernel
theorem dX1_lookAfter_65 : decode cX1_lookAfter 65 = .ok (.aload_n 0, 1) := by decide +kernel
theorem dX1_lookAfter_66 : decode cX1_lookAfter 66 = .ok (.getfield 67, 3) := by decide +kernel
theorem dX1_lookAfter_69 : decode cX1_lookAfter 69 = .ok (.isub, 1) := by decide +kernel
theorem dX1_lookAfter_70 : decode cX1_lookAfter 70 = .ok (.aload_n 0, 1) := by decide +kernel
theorem dX1_lookAfter_71 : decode cX1_lookAfter 71 = .ok (.getfield 36, 3) := by decide +kernel
theorem dX1_lookAfter_74 : decode cX1_lookAfter 74 = .ok (.if_icmp .lt 20, 3) := by decide +kernel
theorem dX1_lookAfter_77 : decode cX1_lookAfter 77 = .ok (.aload_n 0, 1) := by decide +kernel
theorem dX1_lookAfter_78 : decode cX1_lookAfter 78 = .ok (.dup, 1) := by decide +kernel
theorem dX1_lookAfter_79 : decode cX1_lookAfter 79 = .ok (.getfield 36, 3) := by decide +kernel
theorem dX1_lookAfter_82 : decode cX1_lookAfter 82 = .ok (.iconst 2, 1) := by decide +kernel
theorem dX1_lookAfter_83 : decode cX1_lookAfter 83 = .ok (.imul, 1) := by decide +kernel
theorem dX1_lookAfter_84 : decode cX1_lookAfter 84 = .ok (.putfield 36, 3) := by decide +kernel
theorem dX1_lookAfter_87 : decode cX1_lookAfter 87 = .ok (.aload_n 0, 1) := by decide +kernel
theorem dX1_lookAfter_88 : decode cX1_lookAfter 88 = .ok (.invokevirtual 56, 3) := by decide +kernel
theorem dX1_lookAfter_91 : decode cX1_lookAfter 91 = .ok (.goto 30, 3) := by decide +kernel
theorem dX1_lookAfter_94 : decode cX1_lookAfter 94 = .ok (.aload_n 0, 1) := by decide +kernel
theorem dX1_lookAfter_95 : decode cX1_lookAfter 95 = .ok (.getfield 29, 3) := by decide +kernel
theorem dX1_lookAfter_98 : decode cX1_lookAfter 98 = .ok (.iconst 3, 1) := by decide +kernel
theorem dX1_lookAfter_99 : decode cX1_lookAfter 99 = .ok (.if_icmp .ne 22, 3) := by decide +kernel
theorem dX1_lookAfter_102 : decode cX1_lookAfter 102 = .ok (.aload_n 0, 1) := by decide +kernel
theorem dX1_lookAfter_103 : decode cX1_lookAfter 103 = .ok (.getfield 45, 3) := by decide +kernel
theorem dX1_lookAfter_106 : decode cX1_lookAfter 106 = .ok (.getfield 62, 3) := by decide +kernel
theorem dX1_lookAfter_109 : decode cX1_lookAfter 109 = .ok (.aload_n 0, 1) := by decide +kernel
theorem dX1_lookAfter_110 : decode cX1_lookAfter 110 = .ok (.getfield 98, 3) := by decide +kernel
theorem dX1_lookAfter_113 : decode cX1_lookAfter 113 = .ok (.if_icmp .lt 8, 3) := by decide +kernel
theorem dX1_lookAfter_116 : decode cX1_lookAfter 116 = .ok (.aload_n 0, 1) := by decide +kernel
theorem dX1_lookAfter_117 : decode cX1_lookAfter 117 = .ok (.iconst 4, 1) := by decide +kernel
theorem dX1_lookAfter_118 : decode cX1_lookAfter 118 = .ok (.putfield 29, 3) := by decide +kernel
theorem dX1_lookAfter_121 : decode cX1_lookAfter 121 = .ok (.return_, 1) := by decide +kernel
theorem dX1_probeInTime_0 : decode cX1_probeInTime 0 = .ok (.aload_n 1, 1) := by decide +kernel
theorem dX1_probeInTime_1 : decode cX1_probeInTime 1 = .ok (.aload_n 0, 1) := by decide +kernel
theorem dX1_probeInTime_2 : decode cX1_probeInTime 2 = .ok (.getfield 45, 3) := by decide +kernel
theorem dX1_probeInTime_5 : decode cX1_probeInTime 5 = .ok (.getfield 62, 3) := by decide +kernel
theorem dX1_probeInTime_8 : decode cX1_probeInTime 8 = .ok (.invokevirtual 298, 3) := by decide +kernel
theorem dX1_probeInTime_11 : decode cX1_probeInTime 11 = .ok (.ifCond .eq 11, 3) := by decide +kernel
theorem dX1_probeInTime_14 : decode cX1_probeInTime 14 = .ok (.aload_n 0, 1) := by decide +kernel
theorem dX1_probeInTime_15 : decode cX1_probeInTime 15 = .ok (.aload_n 1, 1) := by decide +kernel
theorem dX1_probeInTime_16 : decode cX1_probeInTime 16 = .ok (.invokevirtual 279, 3) := by decide +kernel
theorem dX1_probeInTime_19 : decode cX1_probeInTime 19 = .ok (.goto 4, 3) := by decide +kernel
theorem dX1_probeInTime_22 : decode cX1_probeInTime 22 = .ok (.aconst_null, 1) := by decide +kernel
theorem dX1_probeInTime_23 : decode cX1_probeInTime 23 = .ok (.astore_n 2, 1) := by decide +kernel
theorem dX1_probeInTime_24 : decode cX1_probeInTime 24 = .ok (.aload_n 2, 1) := by decide +kernel
theorem dX1_probeInTime_25 : decode cX1_probeInTime 25 = .ok (.ifnull 51, 3) := by decide +kernel
theorem dX1_probeInTime_28 : decode cX1_probeInTime 28 = .ok (.aload_n 0, 1) := by decide +kernel
theorem dX1_probeInTime_29 : decode cX1_probeInTime 29 = .ok (.getfield 53, 3) := by decide +kernel
theorem dX1_probeInTime_32 : decode cX1_probeInTime 32 = .ok (.sipush 400, 3) := by decide +kernel
theorem dX1_probeInTime_35 : decode cX1_probeInTime 35 = .ok (.if_icmp .ge 41, 3) := by decide +kernel
theorem dX1_probeInTime_38 : decode cX1_probeInTime 38 = .ok (.aload_n 1, 1) := by decide +kernel
theorem dX1_probeInTime_39 : decode cX1_probeInTime 39 = .ok (.dup, 1) := by decide +kernel
theorem dX1_probeInTime_40 : decode cX1_probeInTime 40 = .ok (.getfield 302, 3) := by decide +kernel
theorem dX1_probeInTime_43 : decode cX1_probeInTime 43 = .ok (.iconst 1, 1) := by decide +kernel
theorem dX1_probeInTime_44 : decode cX1_probeInTime 44 = .ok (.iadd, 1) := by decide +kernel
theorem dX1_probeInTime_45 : decode cX1_probeInTime 45 = .ok (.putfield 302, 3) := by decide +kernel
theorem dX1_probeInTime_48 : decode cX1_probeInTime 48 = .ok (.aload_n 1, 1) := by decide +kernel
theorem dX1_probeInTime_49 : decode cX1_probeInTime 49 = .ok (.dup, 1) := by decide +kernel
theorem dX1_probeInTime_50 : decode cX1_probeInTime 50 = .ok (.getfield 219, 3) := by decide +kernel
theorem dX1_probeInTime_53 : decode cX1_probeInTime 53 = .ok (.iconst 1, 1) := by decide +kernel
theorem dX1_probeInTime_54 : decode cX1_probeInTime 54 = .ok (.iadd, 1) := by decide +kernel
theorem dX1_probeInTime_55 : decode cX1_probeInTime 55 = .ok (.putfield 219, 3) := by decide +kernel
theorem dX1_probeInTime_58 : decode cX1_probeInTime 58 = .ok (.aload_n 0, 1) := by decide +kernel
theorem dX1_probeInTime_59 : decode cX1_probeInTime 59 = .ok (.aload_n 1, 1) := by decide +kernel
theorem dX1_probeInTime_60 : decode cX1_probeInTime 60 = .ok (.aload_n 2, 1) := by decide +kernel
theorem dX1_probeInTime_61 : decode cX1_probeInTime 61 = .ok (.getfield 166, 3) := by decide +kernel
theorem dX1_probeInTime_64 : decode cX1_probeInTime 64 = .ok (.aload_n 2, 1) := by decide +kernel
theorem dX1_probeInTime_65 : decode cX1_probeInTime 65 = .ok (.getfield 169, 3) := by decide +kernel
theorem dX1_probeInTime_68 : decode cX1_probeInTime 68 = .ok (.aload_n 2, 1) := by decide +kernel
theorem dX1_probeInTime_69 : decode cX1_probeInTime 69 = .ok (.getfield 172, 3) := by decide +kernel
theorem dX1_probeInTime_72 : decode cX1_probeInTime 72 = .ok (.iconst 1, 1) := by decide +kernel
theorem dX1_probeInTime_73 : decode cX1_probeInTime 73 = .ok (.invokevirtual 305, 3) := by decide +kernel
theorem dX1_probeInTime_76 : decode cX1_probeInTime 76 = .ok (.return_, 1) := by decide +kernel
theorem dX1_sendData_0 : decode cX1_sendData 0 = .ok (.aload_n 0, 1) := by decide +kernel
theorem dX1_sendData_1 : decode cX1_sendData 1 = .ok (.getfield 14, 3) := by decide +kernel
theorem dX1_sendData_4 : decode cX1_sendData 4 = .ok (.iconst 0, 1) := by decide +kernel
theorem dX1_sendData_5 : decode cX1_sendData 5 = .ok (.putfield 309, 3) := by decide +kernel
theorem dX1_sendData_8 : decode cX1_sendData 8 = .ok (.aload_n 0, 1) := by decide +kernel
theorem dX1_sendData_9 : decode cX1_sendData 9 = .ok (.getfield 20, 3) := by decide +kernel
theorem dX1_sendData_12 : decode cX1_sendData 12 = .ok (.iconst 0, 1) := by decide +kernel
theorem dX1_sendData_13 : decode cX1_sendData 13 = .ok (.putfield 309, 3) := by decide +kernel
theorem dX1_sendData_16 : decode cX1_sendData 16 = .ok (.aload_n 0, 1) := by decide +kernel
theorem dX1_sendData_17 : decode cX1_sendData 17 = .ok (.getfield 29, 3) := by decide +kernel
theorem dX1_sendData_20 : decode cX1_sendData 20 = .ok (.iconst 2, 1) := by decide +kernel
theorem dX1_sendData_21 : decode cX1_sendData 21 = .ok (.if_icmp .eq 20, 3) := by decide +kernel
theorem dX1_sendData_24 : decode cX1_sendData 24 = .ok (.aload_n 0, 1) := by decide +kernel
theorem dX1_sendData_25 : decode cX1_sendData 25 = .ok (.getfield 29, 3) := by decide +kernel
theorem dX1_sendData_28 : decode cX1_sendData 28 = .ok (.iconst 1, 1) := by decide +kernel
theorem dX1_sendData_29 : decode cX1_sendData 29 = .ok (.if_icmp .ne 11, 3) := by decide +kernel
theorem dX1_sendData_32 : decode cX1_sendData 32 = .ok (.aload_n 0, 1) := by decide +kernel
theorem dX1_sendData_33 : decode cX1_sendData 33 = .ok (.getfield 33, 3) := by decide +kernel
theorem dX1_sendData_36 : decode cX1_sendData 36 = .ok (.iconst (-1), 1) := by decide +kernel
theorem dX1_sendData_37 : decode cX1_sendData 37 = .ok (.if_icmp .ne 4, 3) := by decide +kernel
theorem dX1_sendData_40 : decode cX1_sendData 40 = .ok (.return_, 1) := by decide +kernel
theorem dX1_sendData_41 : decode cX1_sendData 41 = .ok (.aload_n 0, 1) := by decide +kernel
theorem dX1_sendData_42 : decode cX1_sendData 42 = .ok (.getfield 53, 3) := by decide +kernel
theorem dX1_sendData_45 : decode cX1_sendData 45 = .ok (.istore_n 1, 1) := by decide +kernel
theorem dX1_sendData_46 : decode cX1_sendData 46 = .ok (.iload_n 1, 1) := by decide +kernel
theorem dX1_sendData_47 : decode cX1_sendData 47 = .ok (.sipush 400, 3) := by decide +kernel
theorem dX1_sendData_50 : decode cX1_sendData 50 = .ok (.if_icmp .ge 47, 3) := by decide +kernel
theorem dX1_sendData_53 : decode cX1_sendData 53 = .ok (.aload_n 0, 1) := by decide +kernel
theorem dX1_sendData_54 : decode cX1_sendData 54 = .ok (.invokevirtual 312, 3) := by decide +kernel
theorem dX1_sendData_57 : decode cX1_sendData 57 = .ok (.astore_n 2, 1) := by decide +kernel
theorem dX1_sendData_58 : decode cX1_sendData 58 = .ok (.aload_n 2, 1) := by decide +kernel
theorem dX1_sendData_59 : decode cX1_sendData 59 = .ok (.ifnull 38, 3) := by decide +kernel
theorem dX1_sendData_62 : decode cX1_sendData 62 = .ok (.aload_n 0, 1) := by decide +kernel
theorem dX1_sendData_63 : decode cX1_sendData 63 = .ok (.aload_n 2, 1) := by decide +kernel
theorem dX1_sendData_64 : decode cX1_sendData 64 = .ok (.invokevirtual 316, 3) := by decide +kernel
theorem dX1_sendData_67 : decode cX1_sendData 67 = .ok (.ifCond .ne 14, 3) := by decide +kernel
theorem dX1_sendData_70 : decode cX1_sendData 70 = .ok (.aload_n 0, 1) := by decide +kernel
theorem dX1_sendData_71 : decode cX1_sendData 71 = .ok (.aload_n 2, 1) := by decide +kernel
theorem dX1_sendData_72 : decode cX1_sendData 72 = .ok (.invokevirtual 320, 3) := by decide +kernel
theorem dX1_sendData_75 : decode cX1_sendData 75 = .ok (.ifCond .ne 6, 3) := by decide +kernel
theorem dX1_sendData_78 : decode cX1_sendData 78 = .ok (.goto 19, 3) := by decide +kernel
theorem dX1_sendData_81 : decode cX1_sendData 81 = .ok (.aload_n 2, 1) := by decide +kernel
theorem dX1_sendData_82 : decode cX1_sendData 82 = .ok (.dup, 1) := by decide +kernel
theorem dX1_sendData_83 : decode cX1_sendData 83 = .ok (.getfield 309, 3) := by decide +kernel
theorem dX1_sendData_86 : decode cX1_sendData 86 = .ok (.iconst 1, 1) := by decide +kernel
theorem dX1_sendData_87 : decode cX1_sendData 87 = .ok (.iadd, 1) := by decide +kernel
theorem dX1_sendData_88 : decode cX1_sendData 88 = .ok (.putfield 309, 3) := by decide +kernel
theorem dX1_sendData_91 : decode cX1_sendData 91 = .ok (.iinc 1 1, 3) := by decide +kernel
theorem dX1_sendData_94 : decode cX1_sendData 94 = .ok (.goto (-48), 3) := by decide +kernel
theorem dX1_sendData_97 : decode cX1_sendData 97 = .ok (.return_, 1) := by decide +kernel
theorem dX1_routeToSend_0 : decode cX1_routeToSend 0 = .ok (.aload_n 0, 1) := by decide +kernel
theorem dX1_routeToSend_1 : decode cX1_routeToSend 1 = .ok (.getfield 101, 3) := by decide +kernel
theorem dX1_routeToSend_4 : decode cX1_routeToSend 4 = .ok (.iconst 1, 1) := by decide +kernel
theorem dX1_routeToSend_5 : decode cX1_routeToSend 5 = .ok (.if_icmp .eq 17, 3) := by decide +kernel
theorem dX1_routeToSend_8 : decode cX1_routeToSend 8 = .ok (.aload_n 0, 1) := by decide +kernel
theorem dX1_routeToSend_9 : decode cX1_routeToSend 9 = .ok (.getfield 14, 3) := by decide +kernel
theorem dX1_routeToSend_12 : decode cX1_routeToSend 12 = .ok (.invokevirtual 323, 3) := by decide +kernel
theorem dX1_routeToSend_15 : decode cX1_routeToSend 15 = .ok (.ifCond .eq 7, 3) := by decide +kernel
theorem dX1_routeToSend_18 : decode cX1_routeToSend 18 = .ok (.iconst 1, 1) := by decide +kernel
theorem dX1_routeToSend_19 : decode cX1_routeToSend 19 = .ok (.goto 4, 3) := by decide +kernel
theorem dX1_routeToSend_22 : decode cX1_routeToSend 22 = .ok (.iconst 0, 1) := by decide +kernel
theorem dX1_routeToSend_23 : decode cX1_routeToSend 23 = .ok (.istore_n 1, 1) := by decide +kernel
theorem dX1_routeToSend_24 : decode cX1_routeToSend 24 = .ok (.aload_n 0, 1) := by decide +kernel
theorem dX1_routeToSend_25 : decode cX1_routeToSend 25 = .ok (.getfield 101, 3) := by decide +kernel
theorem dX1_routeToSend_28 : decode cX1_routeToSend 28 = .ok (.ifCond .eq 17, 3) := by decide +kernel
theorem dX1_routeToSend_31 : decode cX1_routeToSend 31 = .ok (.aload_n 0, 1) := by decide +kernel
theorem dX1_routeToSend_32 : decode cX1_routeToSend 32 = .ok (.getfield 20, 3) := by decide +kernel
theorem dX1_routeToSend_35 : decode cX1_routeToSend 35 = .ok (.invokevirtual 323, 3) := by decide +kernel
theorem dX1_routeToSend_38 : decode cX1_routeToSend 38 = .ok (.ifCond .eq 7, 3) := by decide +kernel
theorem dX1_routeToSend_41 : decode cX1_routeToSend 41 = .ok (.iconst 1, 1) := by decide +kernel
theorem dX1_routeToSend_42 : decode cX1_routeToSend 42 = .ok (.goto 4, 3) := by decide +kernel
theorem dX1_routeToSend_45 : decode cX1_routeToSend 45 = .ok (.iconst 0, 1) := by decide +kernel
theorem dX1_routeToSend_46 : decode cX1_routeToSend 46 = .ok (.istore_n 2, 1) := by decide +kernel
theorem dX1_routeToSend_47 : decode cX1_routeToSend 47 = .ok (.iload_n 1, 1) := by decide +kernel
theorem dX1_routeToSend_48 : decode cX1_routeToSend 48 = .ok (.ifCond .eq 36, 3) := by decide +kernel
theorem dX1_routeToSend_51 : decode cX1_routeToSend 51 = .ok (.iload_n 2, 1) := by decide +kernel
theorem dX1_routeToSend_52 : decode cX1_routeToSend 52 = .ok (.ifCond .eq 32, 3) := by decide +kernel
theorem dX1_routeToSend_55 : decode cX1_routeToSend 55 = .ok (.aload_n 0, 1) := by decide +kernel
theorem dX1_routeToSend_56 : decode cX1_routeToSend 56 = .ok (.getfield 20, 3) := by decide +kernel
theorem dX1_routeToSend_59 : decode cX1_routeToSend 59 = .ok (.getfield 163, 3) := by decide +kernel
theorem dX1_routeToSend_62 : decode cX1_routeToSend 62 = .ok (.aload_n 0, 1) := by decide +kernel
theorem dX1_routeToSend_63 : decode cX1_routeToSend 63 = .ok (.getfield 14, 3) := by decide +kernel
theorem dX1_routeToSend_66 : decode cX1_routeToSend 66 = .ok (.getfield 163, 3) := by decide +kernel
theorem dX1_routeToSend_69 : decode cX1_routeToSend 69 = .ok (.if_icmp .ge 10, 3) := by decide +kernel
theorem dX1_routeToSend_72 : decode cX1_routeToSend 72 = .ok (.aload_n 0, 1) := by decide +kernel
theorem dX1_routeToSend_73 : decode cX1_routeToSend 73 = .ok (.getfield 20, 3) := by decide +kernel
theorem dX1_routeToSend_76 : decode cX1_routeToSend 76 = .ok (.goto 7, 3) := by decide +kernel
theorem dX1_routeToSend_79 : decode cX1_routeToSend 79 = .ok (.aload_n 0, 1) := by decide +kernel
theorem dX1_routeToSend_80 : decode cX1_routeToSend 80 = .ok (.getfield 14, 3) := by decide +kernel
theorem dX1_routeToSend_83 : decode cX1_routeToSend 83 = .ok (.areturn, 1) := by decide +kernel
theorem dX1_routeToSend_84 : decode cX1_routeToSend 84 = .ok (.iload_n 1, 1) := by decide +kernel
theorem dX1_routeToSend_85 : decode cX1_routeToSend 85 = .ok (.ifCond .eq 8, 3) := by decide +kernel
theorem dX1_routeToSend_88 : decode cX1_routeToSend 88 = .ok (.aload_n 0, 1) := by decide +kernel
theorem dX1_routeToSend_89 : decode cX1_routeToSend 89 = .ok (.getfield 14, 3) := by decide +kernel
theorem dX1_routeToSend_92 : decode cX1_routeToSend 92 = .ok (.areturn, 1) := by decide +kernel
theorem dX1_routeToSend_93 : decode cX1_routeToSend 93 = .ok (.iload_n 2, 1) := by decide +kernel
theorem dX1_routeToSend_94 : decode cX1_routeToSend 94 = .ok (.ifCond .eq 10, 3) := by decide +kernel
theorem dX1_routeToSend_97 : decode cX1_routeToSend 97 = .ok (.aload_n 0, 1) := by decide +kernel
theorem dX1_routeToSend_98 : decode cX1_routeToSend 98 = .ok (.getfield 20, 3) := by decide +kernel
theorem dX1_routeToSend_101 : decode cX1_routeToSend 101 = .ok (.goto 4, 3) := by decide +kernel
theorem dX1_routeToSend_104 : decode cX1_routeToSend 104 = .ok (.aconst_null, 1) := by decide +kernel
theorem dX1_routeToSend_105 : decode cX1_routeToSend 105 = .ok (.areturn, 1) := by decide +kernel
theorem dX1_sendLost_0 : decode cX1_sendLost 0 = .ok (.iconst 0, 1) := by decide +kernel
theorem dX1_sendLost_1 : decode cX1_sendLost 1 = .ok (.istore_n 2, 1) := by decide +kernel
theorem dX1_sendLost_2 : decode cX1_sendLost 2 = .ok (.iload_n 2, 1) := by decide +kernel
theorem dX1_sendLost_3 : decode cX1_sendLost 3 = .ok (.iconst 4, 1) := by decide +kernel
theorem dX1_sendLost_4 : decode cX1_sendLost 4 = .ok (.if_icmp .ge 51, 3) := by decide +kernel
theorem dX1_sendLost_7 : decode cX1_sendLost 7 = .ok (.aload_n 0, 1) := by decide +kernel
theorem dX1_sendLost_8 : decode cX1_sendLost 8 = .ok (.getfield 49, 3) := by decide +kernel
theorem dX1_sendLost_11 : decode cX1_sendLost 11 = .ok (.iload_n 2, 1) := by decide +kernel
theorem dX1_sendLost_12 : decode cX1_sendLost 12 = .ok (.aaload, 1) := by decide +kernel
theorem dX1_sendLost_13 : decode cX1_sendLost 13 = .ok (.getfield 327, 3) := by decide +kernel
theorem dX1_sendLost_16 : decode cX1_sendLost 16 = .ok (.ifCond .le 33, 3) := by decide +kernel
theorem dX1_sendLost_19 : decode cX1_sendLost 19 = .ok (.aload_n 0, 1) := by decide +kernel
theorem dX1_sendLost_20 : decode cX1_sendLost 20 = .ok (.getfield 49, 3) := by decide +kernel
theorem dX1_sendLost_23 : decode cX1_sendLost 23 = .ok (.iload_n 2, 1) := by decide +kernel
theorem dX1_sendLost_24 : decode cX1_sendLost 24 = .ok (.aaload, 1) := by decide +kernel
theorem dX1_sendLost_25 : decode cX1_sendLost 25 = .ok (.invokevirtual 330, 3) := by decide +kernel
theorem dX1_sendLost_28 : decode cX1_sendLost 28 = .ok (.istore_n 3, 1) := by decide +kernel
theorem dX1_sendLost_29 : decode cX1_sendLost 29 = .ok (.aload_n 0, 1) := by decide +kernel
theorem dX1_sendLost_30 : decode cX1_sendLost 30 = .ok (.aload_n 1, 1) := by decide +kernel
theorem dX1_sendLost_31 : decode cX1_sendLost 31 = .ok (.iload_n 2, 1) := by decide +kernel
theorem dX1_sendLost_32 : decode cX1_sendLost 32 = .ok (.iload_n 3, 1) := by decide +kernel
theorem dX1_sendLost_33 : decode cX1_sendLost 33 = .ok (.aload_n 0, 1) := by decide +kernel
theorem dX1_sendLost_34 : decode cX1_sendLost 34 = .ok (.getfield 49, 3) := by decide +kernel
theorem dX1_sendLost_37 : decode cX1_sendLost 37 = .ok (.iload_n 2, 1) := by decide +kernel
theorem dX1_sendLost_38 : decode cX1_sendLost 38 = .ok (.aaload, 1) := by decide +kernel
theorem dX1_sendLost_39 : decode cX1_sendLost 39 = .ok (.iload_n 3, 1) := by decide +kernel
theorem dX1_sendLost_40 : decode cX1_sendLost 40 = .ok (.invokevirtual 333, 3) := by decide +kernel
theorem dX1_sendLost_43 : decode cX1_sendLost 43 = .ok (.iconst 0, 1) := by decide +kernel
theorem dX1_sendLost_44 : decode cX1_sendLost 44 = .ok (.invokevirtual 305, 3) := by decide +kernel
theorem dX1_sendLost_47 : decode cX1_sendLost 47 = .ok (.iconst 1, 1) := by decide +kernel
theorem dX1_sendLost_48 : decode cX1_sendLost 48 = .ok (.ireturn, 1) := by decide +kernel
theorem dX1_sendLost_49 : decode cX1_sendLost 49 = .ok (.iinc 2 1, 3) := by decide +kernel
theorem dX1_sendLost_52 : decode cX1_sendLost 52 = .ok (.goto (-50), 3) := by decide +kernel
theorem dX1_sendLost_55 : decode cX1_sendLost 55 = .ok (.iconst 0, 1) := by decide +kernel
theorem dX1_sendLost_56 : decode cX1_sendLost 56 = .ok (.ireturn, 1) := by decide +kernel
theorem dX1_sendNew_0 : decode cX1_sendNew 0 = .ok (.aload_n 0, 1) := by decide +kernel
theorem dX1_sendNew_1 : decode cX1_sendNew 1 = .ok (.getfield 39, 3) := by decide +kernel
theorem dX1_sendNew_4 : decode cX1_sendNew 4 = .ok (.istore_n 2, 1) := by decide +kernel
theorem dX1_sendNew_5 : decode cX1_sendNew 5 = .ok (.iconst 0, 1) := by decide +kernel
theorem dX1_sendNew_6 : decode cX1_sendNew 6 = .ok (.istore_n 3, 1) := by decide +kernel
theorem dX1_sendNew_7 : decode cX1_sendNew 7 = .ok (.iload_n 3, 1) := by decide +kernel
theorem dX1_sendNew_8 : decode cX1_sendNew 8 = .ok (.iconst 4, 1) := by decide +kernel
theorem dX1_sendNew_9 : decode cX1_sendNew 9 = .ok (.if_icmp .ge 21, 3) := by decide +kernel
theorem dX1_sendNew_12 : decode cX1_sendNew 12 = .ok (.iload_n 2, 1) := by decide +kernel
theorem dX1_sendNew_13 : decode cX1_sendNew 13 = .ok (.aload_n 0, 1) := by decide +kernel
theorem dX1_sendNew_14 : decode cX1_sendNew 14 = .ok (.getfield 49, 3) := by decide +kernel
theorem dX1_sendNew_17 : decode cX1_sendNew 17 = .ok (.iload_n 3, 1) := by decide +kernel
theorem dX1_sendNew_18 : decode cX1_sendNew 18 = .ok (.aaload, 1) := by decide +kernel
theorem dX1_sendNew_19 : decode cX1_sendNew 19 = .ok (.getfield 337, 3) := by decide +kernel
theorem dX1_sendNew_22 : decode cX1_sendNew 22 = .ok (.isub, 1) := by decide +kernel
theorem dX1_sendNew_23 : decode cX1_sendNew 23 = .ok (.istore_n 2, 1) := by decide +kernel
theorem dX1_sendNew_24 : decode cX1_sendNew 24 = .ok (.iinc 3 1, 3) := by decide +kernel
theorem dX1_sendNew_27 : decode cX1_sendNew 27 = .ok (.goto (-20), 3) := by decide +kernel
theorem dX1_sendNew_30 : decode cX1_sendNew 30 = .ok (.iconst 1, 1) := by decide +kernel
theorem dX1_sendNew_31 : decode cX1_sendNew 31 = .ok (.istore_n 3, 1) := by decide +kernel
theorem dX1_sendNew_32 : decode cX1_sendNew 32 = .ok (.iload_n 3, 1) := by decide +kernel
theorem dX1_sendNew_33 : decode cX1_sendNew 33 = .ok (.iconst 4, 1) := by decide +kernel
theorem dX1_sendNew_34 : decode cX1_sendNew 34 = .ok (.if_icmp .gt 65, 3) := by decide +kernel
theorem dX1_sendNew_37 : decode cX1_sendNew 37 = .ok (.aload_n 0, 1) := by decide +kernel
theorem dX1_sendNew_38 : decode cX1_sendNew 38 = .ok (.getfield 42, 3) := by decide +kernel
theorem dX1_sendNew_41 : decode cX1_sendNew 41 = .ok (.iload_n 3, 1) := by decide +kernel
theorem dX1_sendNew_42 : decode cX1_sendNew 42 = .ok (.iadd, 1) := by decide +kernel
theorem dX1_sendNew_43 : decode cX1_sendNew 43 = .ok (.iconst 4, 1) := by decide +kernel
theorem dX1_sendNew_44 : decode cX1_sendNew 44 = .ok (.irem, 1) := by decide +kernel
theorem dX1_sendNew_45 : decode cX1_sendNew 45 = .ok (.istore 4, 2) := by decide +kernel
theorem dX1_sendNew_47 : decode cX1_sendNew 47 = .ok (.aload_n 0, 1) := by decide +kernel
theorem dX1_sendNew_48 : decode cX1_sendNew 48 = .ok (.getfield 49, 3) := by decide +kernel
theorem dX1_sendNew_51 : decode cX1_sendNew 51 = .ok (.iload 4, 2) := by decide +kernel
theorem dX1_sendNew_53 : decode cX1_sendNew 53 = .ok (.aaload, 1) := by decide +kernel
theorem dX1_sendNew_54 : decode cX1_sendNew 54 = .ok (.iload_n 2, 1) := by decide +kernel
theorem dX1_sendNew_55 : decode cX1_sendNew 55 = .ok (.invokevirtual 338, 3) := by decide +kernel
theorem dX1_sendNew_58 : decode cX1_sendNew 58 = .ok (.istore 5, 2) := by decide +kernel
theorem dX1_sendNew_60 : decode cX1_sendNew 60 = .ok (.iload 5, 2) := by decide +kernel
theorem dX1_sendNew_62 : decode cX1_sendNew 62 = .ok (.ifCond .le 31, 3) := by decide +kernel
theorem dX1_sendNew_65 : decode cX1_sendNew 65 = .ok (.aload_n 0, 1) := by decide +kernel
theorem dX1_sendNew_66 : decode cX1_sendNew 66 = .ok (.iload 4, 2) := by decide +kernel
theorem dX1_sendNew_68 : decode cX1_sendNew 68 = .ok (.putfield 42, 3) := by decide +kernel
theorem dX1_sendNew_71 : decode cX1_sendNew 71 = .ok (.aload_n 0, 1) := by decide +kernel
theorem dX1_sendNew_72 : decode cX1_sendNew 72 = .ok (.aload_n 1, 1) := by decide +kernel
theorem dX1_sendNew_73 : decode cX1_sendNew 73 = .ok (.iload 4, 2) := by decide +kernel
theorem dX1_sendNew_75 : decode cX1_sendNew 75 = .ok (.aload_n 0, 1) := by decide +kernel
theorem dX1_sendNew_76 : decode cX1_sendNew 76 = .ok (.getfield 49, 3) := by decide +kernel
theorem dX1_sendNew_79 : decode cX1_sendNew 79 = .ok (.iload 4, 2) := by decide +kernel
theorem dX1_sendNew_81 : decode cX1_sendNew 81 = .ok (.aaload, 1) := by decide +kernel
theorem dX1_sendNew_82 : decode cX1_sendNew 82 = .ok (.getfield 337, 3) := by decide +kernel
theorem dX1_sendNew_85 : decode cX1_sendNew 85 = .ok (.iload 5, 2) := by decide +kernel
theorem dX1_sendNew_87 : decode cX1_sendNew 87 = .ok (.iconst 0, 1) := by decide +kernel
theorem dX1_sendNew_88 : decode cX1_sendNew 88 = .ok (.invokevirtual 305, 3) := by decide +kernel
theorem dX1_sendNew_91 : decode cX1_sendNew 91 = .ok (.iconst 1, 1) := by decide +kernel
theorem dX1_sendNew_92 : decode cX1_sendNew 92 = .ok (.ireturn, 1) := by decide +kernel
theorem dX1_sendNew_93 : decode cX1_sendNew 93 = .ok (.iinc 3 1, 3) := by decide +kernel
theorem dX1_sendNew_96 : decode cX1_sendNew 96 = .ok (.goto (-64), 3) := by decide +kernel
theorem dX1_sendNew_99 : decode cX1_sendNew 99 = .ok (.iconst 0, 1) := by decide +kernel
theorem dX1_sendNew_100 : decode cX1_sendNew 100 = .ok (.ireturn, 1) := by decide +kernel
theorem dX1_sendPacket_0 : decode cX1_sendPacket 0 = .ok (.aload_n 0, 1) := by decide +kernel
theorem dX1_sendPacket_1 : decode cX1_sendPacket 1 = .ok (.getfield 53, 3) := by decide +kernel
theorem dX1_sendPacket_4 : decode cX1_sendPacket 4 = .ok (.sipush 400, 3) := by decide +kernel
theorem dX1_sendPacket_7 : decode cX1_sendPacket 7 = .ok (.if_icmp .ge 12, 3) := by decide +kernel
theorem dX1_sendPacket_10 : decode cX1_sendPacket 10 = .ok (.iload_n 2, 1) := by decide +kernel
theorem dX1_sendPacket_11 : decode cX1_sendPacket 11 = .ok (.ifCond .lt 8, 3) := by decide +kernel
theorem dX1_sendPacket_14 : decode cX1_sendPacket 14 = .ok (.iload_n 2, 1) := by decide +kernel
theorem dX1_sendPacket_15 : decode cX1_sendPacket 15 = .ok (.iconst 4, 1) := by decide +kernel
theorem dX1_sendPacket_16 : decode cX1_sendPacket 16 = .ok (.if_icmp .lt 4, 3) := by decide +kernel
theorem dX1_sendPacket_19 : decode cX1_sendPacket 19 = .ok (.return_, 1) := by decide +kernel
theorem dX1_sendPacket_20 : decode cX1_sendPacket 20 = .ok (.new 23, 3) := by decide +kernel
theorem dX1_sendPacket_23 : decode cX1_sendPacket 23 = .ok (.dup, 1) := by decide +kernel
theorem dX1_sendPacket_24 : decode cX1_sendPacket 24 = .ok (.aload_n 0, 1) := by decide +kernel
theorem dX1_sendPacket_25 : decode cX1_sendPacket 25 = .ok (.getfield 53, 3) := by decide +kernel
theorem dX1_sendPacket_28 : decode cX1_sendPacket 28 = .ok (.aload_n 1, 1) := by decide +kernel
theorem dX1_sendPacket_29 : decode cX1_sendPacket 29 = .ok (.getfield 293, 3) := by decide +kernel
theorem dX1_sendPacket_32 : decode cX1_sendPacket 32 = .ok (.aload_n 0, 1) := by decide +kernel
theorem dX1_sendPacket_33 : decode cX1_sendPacket 33 = .ok (.getfield 45, 3) := by decide +kernel
theorem dX1_sendPacket_36 : decode cX1_sendPacket 36 = .ok (.getfield 62, 3) := by decide +kernel
theorem dX1_sendPacket_39 : decode cX1_sendPacket 39 = .ok (.iload_n 2, 1) := by decide +kernel
theorem dX1_sendPacket_40 : decode cX1_sendPacket 40 = .ok (.iload_n 3, 1) := by decide +kernel
theorem dX1_sendPacket_41 : decode cX1_sendPacket 41 = .ok (.iload 4, 2) := by decide +kernel
theorem dX1_sendPacket_43 : decode cX1_sendPacket 43 = .ok (.invokespecial 341, 3) := by decide +kernel
theorem dX1_sendPacket_46 : decode cX1_sendPacket 46 = .ok (.astore 6, 2) := by decide +kernel
theorem dX1_sendPacket_48 : decode cX1_sendPacket 48 = .ok (.aload 6, 2) := by decide +kernel
theorem dX1_sendPacket_50 : decode cX1_sendPacket 50 = .ok (.aload_n 0, 1) := by decide +kernel
theorem dX1_sendPacket_51 : decode cX1_sendPacket 51 = .ok (.getfield 90, 3) := by decide +kernel
theorem dX1_sendPacket_54 : decode cX1_sendPacket 54 = .ok (.putfield 87, 3) := by decide +kernel
theorem dX1_sendPacket_57 : decode cX1_sendPacket 57 = .ok (.aload 6, 2) := by decide +kernel
theorem dX1_sendPacket_59 : decode cX1_sendPacket 59 = .ok (.iload 5, 2) := by decide +kernel
theorem dX1_sendPacket_61 : decode cX1_sendPacket 61 = .ok (.putfield 344, 3) := by decide +kernel
theorem dX1_sendPacket_64 : decode cX1_sendPacket 64 = .ok (.aload 6, 2) := by decide +kernel
theorem dX1_sendPacket_66 : decode cX1_sendPacket 66 = .ok (.aload_n 0, 1) := by decide +kernel
theorem dX1_sendPacket_67 : decode cX1_sendPacket 67 = .ok (.getfield 29, 3) := by decide +kernel
theorem dX1_sendPacket_70 : decode cX1_sendPacket 70 = .ok (.iconst 1, 1) := by decide +kernel
theorem dX1_sendPacket_71 : decode cX1_sendPacket 71 = .ok (.if_icmp .ne 7, 3) := by decide +kernel
theorem dX1_sendPacket_74 : decode cX1_sendPacket 74 = .ok (.iconst 1, 1) := by decide +kernel
theorem dX1_sendPacket_75 : decode cX1_sendPacket 75 = .ok (.goto 4, 3) := by decide +kernel
theorem dX1_sendPacket_78 : decode cX1_sendPacket 78 = .ok (.iconst 0, 1) := by decide +kernel
theorem dX1_sendPacket_79 : decode cX1_sendPacket 79 = .ok (.putfield 155, 3) := by decide +kernel
theorem dX1_sendPacket_82 : decode cX1_sendPacket 82 = .ok (.aload 6, 2) := by decide +kernel
theorem dX1_sendPacket_84 : decode cX1_sendPacket 84 = .ok (.aload_n 1, 1) := by decide +kernel
theorem dX1_sendPacket_85 : decode cX1_sendPacket 85 = .ok (.getfield 347, 3) := by decide +kernel
theorem dX1_sendPacket_88 : decode cX1_sendPacket 88 = .ok (.putfield 260, 3) := by decide +kernel
theorem dX1_sendPacket_91 : decode cX1_sendPacket 91 = .ok (.aload 6, 2) := by decide +kernel
theorem dX1_sendPacket_93 : decode cX1_sendPacket 93 = .ok (.aload_n 1, 1) := by decide +kernel
theorem dX1_sendPacket_94 : decode cX1_sendPacket 94 = .ok (.getfield 245, 3) := by decide +kernel
theorem dX1_sendPacket_97 : decode cX1_sendPacket 97 = .ok (.putfield 248, 3) := by decide +kernel
theorem dX1_sendPacket_100 : decode cX1_sendPacket 100 = .ok (.aload_n 0, 1) := by decide +kernel
theorem dX1_sendPacket_101 : decode cX1_sendPacket 101 = .ok (.getfield 25, 3) := by decide +kernel
theorem dX1_sendPacket_104 : decode cX1_sendPacket 104 = .ok (.aload_n 0, 1) := by decide +kernel
theorem dX1_sendPacket_105 : decode cX1_sendPacket 105 = .ok (.getfield 53, 3) := by decide +kernel
theorem dX1_sendPacket_108 : decode cX1_sendPacket 108 = .ok (.aload 6, 2) := by decide +kernel
theorem dX1_sendPacket_110 : decode cX1_sendPacket 110 = .ok (.aastore, 1) := by decide +kernel
theorem dX1_sendPacket_111 : decode cX1_sendPacket 111 = .ok (.aload_n 0, 1) := by decide +kernel
theorem dX1_sendPacket_112 : decode cX1_sendPacket 112 = .ok (.dup, 1) := by decide +kernel
theorem dX1_sendPacket_113 : decode cX1_sendPacket 113 = .ok (.getfield 53, 3) := by decide +kernel
theorem dX1_sendPacket_116 : decode cX1_sendPacket 116 = .ok (.iconst 1, 1) := by decide +kernel
theorem dX1_sendPacket_117 : decode cX1_sendPacket 117 = .ok (.iadd, 1) := by decide +kernel
theorem dX1_sendPacket_118 : decode cX1_sendPacket 118 = .ok (.putfield 53, 3) := by decide +kernel
theorem dX1_sendPacket_121 : decode cX1_sendPacket 121 = .ok (.aload_n 1, 1) := by decide +kernel
theorem dX1_sendPacket_122 : decode cX1_sendPacket 122 = .ok (.dup, 1) := by decide +kernel
theorem dX1_sendPacket_123 : decode cX1_sendPacket 123 = .ok (.getfield 347, 3) := by decide +kernel
theorem dX1_sendPacket_126 : decode cX1_sendPacket 126 = .ok (.iconst 1, 1) := by decide +kernel
theorem dX1_sendPacket_127 : decode cX1_sendPacket 127 = .ok (.iadd, 1) := by decide +kernel
theorem dX1_sendPacket_128 : decode cX1_sendPacket 128 = .ok (.putfield 347, 3) := by decide +kernel
theorem dX1_sendPacket_131 : decode cX1_sendPacket 131 = .ok (.aload_n 1, 1) := by decide +kernel
theorem dX1_sendPacket_132 : decode cX1_sendPacket 132 = .ok (.dup, 1) := by decide +kernel
theorem dX1_sendPacket_133 : decode cX1_sendPacket 133 = .ok (.getfield 163, 3) := by decide +kernel
theorem dX1_sendPacket_136 : decode cX1_sendPacket 136 = .ok (.iconst 1, 1) := by decide +kernel
theorem dX1_sendPacket_137 : decode cX1_sendPacket 137 = .ok (.iadd, 1) := by decide +kernel
theorem dX1_sendPacket_138 : decode cX1_sendPacket 138 = .ok (.putfield 163, 3) := by decide +kernel
theorem dX1_sendPacket_141 : decode cX1_sendPacket 141 = .ok (.aload_n 1, 1) := by decide +kernel
theorem dX1_sendPacket_142 : decode cX1_sendPacket 142 = .ok (.aload_n 0, 1) := by decide +kernel
theorem dX1_sendPacket_143 : decode cX1_sendPacket 143 = .ok (.getfield 45, 3) := by decide +kernel
theorem dX1_sendPacket_146 : decode cX1_sendPacket 146 = .ok (.getfield 62, 3) := by decide +kernel
theorem dX1_sendPacket_149 : decode cX1_sendPacket 149 = .ok (.putfield 350, 3) := by decide +kernel
theorem dX1_sendPacket_152 : decode cX1_sendPacket 152 = .ok (.aload_n 0, 1) := by decide +kernel
theorem dX1_sendPacket_153 : decode cX1_sendPacket 153 = .ok (.getfield 49, 3) := by decide +kernel
theorem dX1_sendPacket_156 : decode cX1_sendPacket 156 = .ok (.iload_n 2, 1) := by decide +kernel
theorem dX1_sendPacket_157 : decode cX1_sendPacket 157 = .ok (.aaload, 1) := by decide +kernel
theorem dX1_sendPacket_158 : decode cX1_sendPacket 158 = .ok (.iload_n 3, 1) := by decide +kernel
theorem dX1_sendPacket_159 : decode cX1_sendPacket 159 = .ok (.iload 4, 2) := by decide +kernel
theorem dX1_sendPacket_161 : decode cX1_sendPacket 161 = .ok (.invokevirtual 353, 3) := by decide +kernel
theorem dX1_sendPacket_164 : decode cX1_sendPacket 164 = .ok (.new 70, 3) := by decide +kernel
theorem dX1_sendPacket_167 : decode cX1_sendPacket 167 = .ok (.dup, 1) := by decide +kernel
theorem dX1_sendPacket_168 : decode cX1_sendPacket 168 = .ok (.iconst 3, 1) := by decide +kernel
theorem dX1_sendPacket_169 : decode cX1_sendPacket 169 = .ok (.invokespecial 72, 3) := by decide +kernel
theorem dX1_sendPacket_172 : decode cX1_sendPacket 172 = .ok (.astore 7, 2) := by decide +kernel
theorem dX1_sendPacket_174 : decode cX1_sendPacket 174 = .ok (.aload 7, 2) := by decide +kernel
theorem dX1_sendPacket_176 : decode cX1_sendPacket 176 = .ok (.aload 6, 2) := by decide +kernel
theorem dX1_sendPacket_178 : decode cX1_sendPacket 178 = .ok (.putfield 356, 3) := by decide +kernel
theorem dX1_sendPacket_181 : decode cX1_sendPacket 181 = .ok (.aload_n 0, 1) := by decide +kernel
theorem dX1_sendPacket_182 : decode cX1_sendPacket 182 = .ok (.getfield 45, 3) := by decide +kernel
theorem dX1_sendPacket_185 : decode cX1_sendPacket 185 = .ok (.aload_n 1, 1) := by decide +kernel
theorem dX1_sendPacket_186 : decode cX1_sendPacket 186 = .ok (.getfield 293, 3) := by decide +kernel
theorem dX1_sendPacket_189 : decode cX1_sendPacket 189 = .ok (.aload 7, 2) := by decide +kernel
theorem dX1_sendPacket_191 : decode cX1_sendPacket 191 = .ok (.invokevirtual 79, 3) := by decide +kernel
theorem dX1_sendPacket_194 : decode cX1_sendPacket 194 = .ok (.return_, 1) := by decide +kernel
theorem dX2_init_0 : decode cX2_init 0 = .ok (.aload_n 0, 1) := by decide +kernel
theorem dX2_init_1 : decode cX2_init 1 = .ok (.invokespecial 3, 3) := by decide +kernel
theorem dX2_init_4 : decode cX2_init 4 = .ok (.aload_n 0, 1) := by decide +kernel
theorem dX2_init_5 : decode cX2_init 5 = .ok (.iconst 0, 1) := by decide +kernel
theorem dX2_init_6 : decode cX2_init 6 = .ok (.putfield 9, 3) := by decide +kernel
theorem dX2_init_9 : decode cX2_init 9 = .ok (.aload_n 0, 1) := by decide +kernel
theorem dX2_init_10 : decode cX2_init 10 = .ok (.sipush 160, 3) := by decide +kernel
theorem dX2_init_13 : decode cX2_init 13 = .ok (.putfield 15, 3) := by decide +kernel
theorem dX2_init_16 : decode cX2_init 16 = .ok (.aload_n 0, 1) := by decide +kernel
theorem dX2_init_17 : decode cX2_init 17 = .ok (.ldc 18, 2) := by decide +kernel
theorem dX2_init_19 : decode cX2_init 19 = .ok (.putfield 19, 3) := by decide +kernel
theorem dX2_init_22 : decode cX2_init 22 = .ok (.aload_n 0, 1) := by decide +kernel
theorem dX2_init_23 : decode cX2_init 23 = .ok (.sipush 160, 3) := by decide +kernel
theorem dX2_init_26 : decode cX2_init 26 = .ok (.putfield 22, 3) := by decide +kernel
theorem dX2_init_29 : decode cX2_init 29 = .ok (.aload_n 0, 1) := by decide +kernel
theorem dX2_init_30 : decode cX2_init 30 = .ok (.ldc 18, 2) := by decide +kernel
theorem dX2_init_32 : decode cX2_init 32 = .ok (.putfield 25, 3) := by decide +kernel
theorem dX2_init_35 : decode cX2_init 35 = .ok (.aload_n 0, 1) := by decide +kernel
theorem dX2_init_36 : decode cX2_init 36 = .ok (.iconst (-1), 1) := by decide +kernel
theorem dX2_init_37 : decode cX2_init 37 = .ok (.putfield 28, 3) := by decide +kernel
theorem dX2_init_40 : decode cX2_init 40 = .ok (.aload_n 0, 1) := by decide +kernel
theorem dX2_init_41 : decode cX2_init 41 = .ok (.bipush 8, 2) := by decide +kernel
theorem dX2_init_43 : decode cX2_init 43 = .ok (.newarray .int, 2) := by decide +kernel
theorem dX2_init_45 : decode cX2_init 45 = .ok (.putfield 31, 3) := by decide +kernel
theorem dX2_init_48 : decode cX2_init 48 = .ok (.return_, 1) := by decide +kernel
theorem dX2_grow_0 : decode cX2_grow 0 = .ok (.aload_n 0, 1) := by decide +kernel
theorem dX2_grow_1 : decode cX2_grow 1 = .ok (.getfield 9, 3) := by decide +kernel
theorem dX2_grow_4 : decode cX2_grow 4 = .ok (.iconst 2, 1) := by decide +kernel
theorem dX2_grow_5 : decode cX2_grow 5 = .ok (.if_icmp .ne 38, 3) := by decide +kernel
theorem dX2_grow_8 : decode cX2_grow 8 = .ok (.aload_n 0, 1) := by decide +kernel
theorem dX2_grow_9 : decode cX2_grow 9 = .ok (.bipush 16, 2) := by decide +kernel
theorem dX2_grow_11 : decode cX2_grow 11 = .ok (.iload_n 2, 1) := by decide +kernel
theorem dX2_grow_12 : decode cX2_grow 12 = .ok (.imul, 1) := by decide +kernel
theorem dX2_grow_13 : decode cX2_grow 13 = .ok (.iconst 1, 1) := by decide +kernel
theorem dX2_grow_14 : decode cX2_grow 14 = .ok (.iload_n 3, 1) := by decide +kernel
theorem dX2_grow_15 : decode cX2_grow 15 = .ok (.invokestatic 35, 3) := by decide +kernel
theorem dX2_grow_18 : decode cX2_grow 18 = .ok (.idiv, 1) := by decide +kernel
theorem dX2_grow_19 : decode cX2_grow 19 = .ok (.invokevirtual 41, 3) := by decide +kernel
theorem dX2_grow_22 : decode cX2_grow 22 = .ok (.aload_n 0, 1) := by decide +kernel
theorem dX2_grow_23 : decode cX2_grow 23 = .ok (.bipush 64, 2) := by decide +kernel
theorem dX2_grow_25 : decode cX2_grow 25 = .ok (.iconst 2, 1) := by decide +kernel
theorem dX2_grow_26 : decode cX2_grow 26 = .ok (.aload_n 0, 1) := by decide +kernel
theorem dX2_grow_27 : decode cX2_grow 27 = .ok (.invokevirtual 45, 3) := by decide +kernel
theorem dX2_grow_30 : decode cX2_grow 30 = .ok (.imul, 1) := by decide +kernel
theorem dX2_grow_31 : decode cX2_grow 31 = .ok (.iload 4, 2) := by decide +kernel
theorem dX2_grow_33 : decode cX2_grow 33 = .ok (.imul, 1) := by decide +kernel
theorem dX2_grow_34 : decode cX2_grow 34 = .ok (.invokestatic 35, 3) := by decide +kernel
theorem dX2_grow_37 : decode cX2_grow 37 = .ok (.putfield 15, 3) := by decide +kernel
theorem dX2_grow_40 : decode cX2_grow 40 = .ok (.goto 77, 3) := by decide +kernel
theorem dX2_grow_43 : decode cX2_grow 43 = .ok (.aload_n 0, 1) := by decide +kernel
theorem dX2_grow_44 : decode cX2_grow 44 = .ok (.getfield 15, 3) := by decide +kernel
theorem dX2_grow_47 : decode cX2_grow 47 = .ok (.aload_n 0, 1) := by decide +kernel
theorem dX2_grow_48 : decode cX2_grow 48 = .ok (.getfield 19, 3) := by decide +kernel
theorem dX2_grow_51 : decode cX2_grow 51 = .ok (.if_icmp .ge 17, 3) := by decide +kernel
theorem dX2_grow_54 : decode cX2_grow 54 = .ok (.aload_n 0, 1) := by decide +kernel
theorem dX2_grow_55 : decode cX2_grow 55 = .ok (.dup, 1) := by decide +kernel
theorem dX2_grow_56 : decode cX2_grow 56 = .ok (.getfield 15, 3) := by decide +kernel
theorem dX2_grow_59 : decode cX2_grow 59 = .ok (.bipush 16, 2) := by decide +kernel
theorem dX2_grow_61 : decode cX2_grow 61 = .ok (.iadd, 1) := by decide +kernel
theorem dX2_grow_62 : decode cX2_grow 62 = .ok (.putfield 15, 3) := by decide +kernel
theorem dX2_grow_65 : decode cX2_grow 65 = .ok (.goto 52, 3) := by decide +kernel
theorem dX2_grow_68 : decode cX2_grow 68 = .ok (.aload_n 0, 1) := by decide +kernel
theorem dX2_grow_69 : decode cX2_grow 69 = .ok (.getfield 9, 3) := by decide +kernel
theorem dX2_grow_72 : decode cX2_grow 72 = .ok (.ifCond .ne 31, 3) := by decide +kernel
theorem dX2_grow_75 : decode cX2_grow 75 = .ok (.aload_n 0, 1) := by decide +kernel
theorem dX2_grow_76 : decode cX2_grow 76 = .ok (.dup, 1) := by decide +kernel
theorem dX2_grow_77 : decode cX2_grow 77 = .ok (.getfield 15, 3) := by decide +kernel
theorem dX2_grow_80 : decode cX2_grow 80 = .ok (.iconst 1, 1) := by decide +kernel
theorem dX2_grow_81 : decode cX2_grow 81 = .ok (.sipush 256, 3) := by decide +kernel
theorem dX2_grow_84 : decode cX2_grow 84 = .ok (.iconst 1, 1) := by decide +kernel
theorem dX2_grow_85 : decode cX2_grow 85 = .ok (.aload_n 0, 1) := by decide +kernel
theorem dX2_grow_86 : decode cX2_grow 86 = .ok (.getfield 15, 3) := by decide +kernel
theorem dX2_grow_89 : decode cX2_grow 89 = .ok (.invokestatic 35, 3) := by decide +kernel
theorem dX2_grow_92 : decode cX2_grow 92 = .ok (.idiv, 1) := by decide +kernel
theorem dX2_grow_93 : decode cX2_grow 93 = .ok (.invokestatic 35, 3) := by decide +kernel
theorem dX2_grow_96 : decode cX2_grow 96 = .ok (.iadd, 1) := by decide +kernel
theorem dX2_grow_97 : decode cX2_grow 97 = .ok (.putfield 15, 3) := by decide +kernel
theorem dX2_grow_100 : decode cX2_grow 100 = .ok (.goto 17, 3) := by decide +kernel
theorem dX2_grow_103 : decode cX2_grow 103 = .ok (.aload_n 0, 1) := by decide +kernel
theorem dX2_grow_104 : decode cX2_grow 104 = .ok (.dup, 1) := by decide +kernel
theorem dX2_grow_105 : decode cX2_grow 105 = .ok (.getfield 15, 3) := by decide +kernel
theorem dX2_grow_108 : decode cX2_grow 108 = .ok (.aload_n 0, 1) := by decide +kernel
theorem dX2_grow_109 : decode cX2_grow 109 = .ok (.iload_n 1, 1) := by decide +kernel
theorem dX2_grow_110 : decode cX2_grow 110 = .ok (.invokevirtual 49, 3) := by decide +kernel
theorem dX2_grow_113 : decode cX2_grow 113 = .ok (.iadd, 1) := by decide +kernel
theorem dX2_grow_114 : decode cX2_grow 114 = .ok (.putfield 15, 3) := by decide +kernel
theorem dX2_grow_117 : decode cX2_grow 117 = .ok (.return_, 1) := by decide +kernel
theorem dX2_cubeStep_0 : decode cX2_cubeStep 0 = .ok (.ldc2_w 53, 3) := by decide +kernel
theorem dX2_cubeStep_3 : decode cX2_cubeStep 3 = .ok (.aload_n 0, 1) := by decide +kernel
theorem dX2_cubeStep_4 : decode cX2_cubeStep 4 = .ok (.getfield 22, 3) := by decide +kernel
theorem dX2_cubeStep_7 : decode cX2_cubeStep 7 = .ok (.i2l, 1) := by decide +kernel
theorem dX2_cubeStep_8 : decode cX2_cubeStep 8 = .ok (.lmul, 1) := by decide +kernel
theorem dX2_cubeStep_9 : decode cX2_cubeStep 9 = .ok (.ldc2_w 55, 3) := by decide +kernel
theorem dX2_cubeStep_12 : decode cX2_cubeStep 12 = .ok (.ldiv, 1) := by decide +kernel
theorem dX2_cubeStep_13 : decode cX2_cubeStep 13 = .ok (.lstore_n 2, 1) := by decide +kernel
theorem dX2_cubeStep_14 : decode cX2_cubeStep 14 = .ok (.lconst 0, 1) := by decide +kernel
theorem dX2_cubeStep_15 : decode cX2_cubeStep 15 = .ok (.lstore 4, 2) := by decide +kernel
theorem dX2_cubeStep_17 : decode cX2_cubeStep 17 = .ok (.lload 4, 2) := by decide +kernel
theorem dX2_cubeStep_19 : decode cX2_cubeStep 19 = .ok (.ldc2_w 57, 3) := by decide +kernel
theorem dX2_cubeStep_22 : decode cX2_cubeStep 22 = .ok (.lcmp, 1) := by decide +kernel
theorem dX2_cubeStep_23 : decode cX2_cubeStep 23 = .ok (.ifCond .ge 33, 3) := by decide +kernel
theorem dX2_cubeStep_26 : decode cX2_cubeStep 26 = .ok (.ldc2_w 59, 3) := by decide +kernel
theorem dX2_cubeStep_29 : decode cX2_cubeStep 29 = .ok (.lload 4, 2) := by decide +kernel
theorem dX2_cubeStep_31 : decode cX2_cubeStep 31 = .ok (.lmul, 1) := by decide +kernel
theorem dX2_cubeStep_32 : decode cX2_cubeStep 32 = .ok (.lload 4, 2) := by decide +kernel
theorem dX2_cubeStep_34 : decode cX2_cubeStep 34 = .ok (.lmul, 1) := by decide +kernel
theorem dX2_cubeStep_35 : decode cX2_cubeStep 35 = .ok (.lload 4, 2) := by decide +kernel
theorem dX2_cubeStep_37 : decode cX2_cubeStep 37 = .ok (.lmul, 1) := by decide +kernel
theorem dX2_cubeStep_38 : decode cX2_cubeStep 38 = .ok (.ldc2_w 61, 3) := by decide +kernel
theorem dX2_cubeStep_41 : decode cX2_cubeStep 41 = .ok (.ldiv, 1) := by decide +kernel
theorem dX2_cubeStep_42 : decode cX2_cubeStep 42 = .ok (.lload_n 2, 1) := by decide +kernel
theorem dX2_cubeStep_43 : decode cX2_cubeStep 43 = .ok (.lcmp, 1) := by decide +kernel
theorem dX2_cubeStep_44 : decode cX2_cubeStep 44 = .ok (.ifCond .ge 12, 3) := by decide +kernel
theorem dX2_cubeStep_47 : decode cX2_cubeStep 47 = .ok (.lload 4, 2) := by decide +kernel
theorem dX2_cubeStep_49 : decode cX2_cubeStep 49 = .ok (.lconst 1, 1) := by decide +kernel
theorem dX2_cubeStep_50 : decode cX2_cubeStep 50 = .ok (.ladd, 1) := by decide +kernel
theorem dX2_cubeStep_51 : decode cX2_cubeStep 51 = .ok (.lstore 4, 2) := by decide +kernel
theorem dX2_cubeStep_53 : decode cX2_cubeStep 53 = .ok (.goto (-36), 3) := by decide +kernel
theorem dX2_cubeStep_56 : decode cX2_cubeStep 56 = .ok (.iload_n 1, 1) := by decide +kernel
theorem dX2_cubeStep_57 : decode cX2_cubeStep 57 = .ok (.aload_n 0, 1) := by decide +kernel
theorem dX2_cubeStep_58 : decode cX2_cubeStep 58 = .ok (.getfield 63, 3) := by decide +kernel
theorem dX2_cubeStep_61 : decode cX2_cubeStep 61 = .ok (.isub, 1) := by decide +kernel
theorem dX2_cubeStep_62 : decode cX2_cubeStep 62 = .ok (.i2l, 1) := by decide +kernel
theorem dX2_cubeStep_63 : decode cX2_cubeStep 63 = .ok (.lload 4, 2) := by decide +kernel
theorem dX2_cubeStep_65 : decode cX2_cubeStep 65 = .ok (.lsub, 1) := by decide +kernel
theorem dX2_cubeStep_66 : decode cX2_cubeStep 66 = .ok (.lstore 6, 2) := by decide +kernel
theorem dX2_cubeStep_68 : decode cX2_cubeStep 68 = .ok (.aload_n 0, 1) := by decide +kernel
theorem dX2_cubeStep_69 : decode cX2_cubeStep 69 = .ok (.getfield 22, 3) := by decide +kernel
theorem dX2_cubeStep_72 : decode cX2_cubeStep 72 = .ok (.i2l, 1) := by decide +kernel
theorem dX2_cubeStep_73 : decode cX2_cubeStep 73 = .ok (.ldc2_w 59, 3) := by decide +kernel
theorem dX2_cubeStep_76 : decode cX2_cubeStep 76 = .ok (.lload 6, 2) := by decide +kernel
theorem dX2_cubeStep_78 : decode cX2_cubeStep 78 = .ok (.lmul, 1) := by decide +kernel
theorem dX2_cubeStep_79 : decode cX2_cubeStep 79 = .ok (.lload 6, 2) := by decide +kernel
theorem dX2_cubeStep_81 : decode cX2_cubeStep 81 = .ok (.lmul, 1) := by decide +kernel
theorem dX2_cubeStep_82 : decode cX2_cubeStep 82 = .ok (.lload 6, 2) := by decide +kernel
theorem dX2_cubeStep_84 : decode cX2_cubeStep 84 = .ok (.lmul, 1) := by decide +kernel
theorem dX2_cubeStep_85 : decode cX2_cubeStep 85 = .ok (.ldc2_w 61, 3) := by decide +kernel
theorem dX2_cubeStep_88 : decode cX2_cubeStep 88 = .ok (.ldiv, 1) := by decide +kernel
theorem dX2_cubeStep_89 : decode cX2_cubeStep 89 = .ok (.ladd, 1) := by decide +kernel
theorem dX2_cubeStep_90 : decode cX2_cubeStep 90 = .ok (.lstore 8, 2) := by decide +kernel
theorem dX2_cubeStep_92 : decode cX2_cubeStep 92 = .ok (.lconst 1, 1) := by decide +kernel
theorem dX2_cubeStep_93 : decode cX2_cubeStep 93 = .ok (.ldc2_w 66, 3) := by decide +kernel
theorem dX2_cubeStep_96 : decode cX2_cubeStep 96 = .ok (.lload 8, 2) := by decide +kernel
theorem dX2_cubeStep_98 : decode cX2_cubeStep 98 = .ok (.aload_n 0, 1) := by decide +kernel
theorem dX2_cubeStep_99 : decode cX2_cubeStep 99 = .ok (.getfield 15, 3) := by decide +kernel
theorem dX2_cubeStep_102 : decode cX2_cubeStep 102 = .ok (.i2l, 1) := by decide +kernel
theorem dX2_cubeStep_103 : decode cX2_cubeStep 103 = .ok (.lsub, 1) := by decide +kernel
theorem dX2_cubeStep_104 : decode cX2_cubeStep 104 = .ok (.lmul, 1) := by decide +kernel
theorem dX2_cubeStep_105 : decode cX2_cubeStep 105 = .ok (.iconst 1, 1) := by decide +kernel
theorem dX2_cubeStep_106 : decode cX2_cubeStep 106 = .ok (.aload_n 0, 1) := by decide +kernel
theorem dX2_cubeStep_107 : decode cX2_cubeStep 107 = .ok (.getfield 15, 3) := by decide +kernel
theorem dX2_cubeStep_110 : decode cX2_cubeStep 110 = .ok (.invokestatic 35, 3) := by decide +kernel
theorem dX2_cubeStep_113 : decode cX2_cubeStep 113 = .ok (.i2l, 1) := by decide +kernel
theorem dX2_cubeStep_114 : decode cX2_cubeStep 114 = .ok (.ldiv, 1) := by decide +kernel
theorem dX2_cubeStep_115 : decode cX2_cubeStep 115 = .ok (.invokestatic 68, 3) := by decide +kernel
theorem dX2_cubeStep_118 : decode cX2_cubeStep 118 = .ok (.l2i, 1) := by decide +kernel
theorem dX2_cubeStep_119 : decode cX2_cubeStep 119 = .ok (.ireturn, 1) := by decide +kernel
theorem dX2_keepRate_0 : decode cX2_keepRate 0 = .ok (.aload_n 0, 1) := by decide +kernel
theorem dX2_keepRate_1 : decode cX2_keepRate 1 = .ok (.getfield 31, 3) := by decide +kernel
theorem dX2_keepRate_4 : decode cX2_keepRate 4 = .ok (.aload_n 0, 1) := by decide +kernel
theorem dX2_keepRate_5 : decode cX2_keepRate 5 = .ok (.getfield 71, 3) := by decide +kernel
theorem dX2_keepRate_8 : decode cX2_keepRate 8 = .ok (.iload_n 1, 1) := by decide +kernel
theorem dX2_keepRate_9 : decode cX2_keepRate 9 = .ok (.iastore, 1) := by decide +kernel
theorem dX2_keepRate_10 : decode cX2_keepRate 10 = .ok (.aload_n 0, 1) := by decide +kernel
theorem dX2_keepRate_11 : decode cX2_keepRate 11 = .ok (.aload_n 0, 1) := by decide +kernel
theorem dX2_keepRate_12 : decode cX2_keepRate 12 = .ok (.getfield 71, 3) := by decide +kernel
theorem dX2_keepRate_15 : decode cX2_keepRate 15 = .ok (.iconst 1, 1) := by decide +kernel
theorem dX2_keepRate_16 : decode cX2_keepRate 16 = .ok (.iadd, 1) := by decide +kernel
theorem dX2_keepRate_17 : decode cX2_keepRate 17 = .ok (.bipush 8, 2) := by decide +kernel
theorem dX2_keepRate_19 : decode cX2_keepRate 19 = .ok (.irem, 1) := by decide +kernel
theorem dX2_keepRate_20 : decode cX2_keepRate 20 = .ok (.putfield 71, 3) := by decide +kernel
theorem dX2_keepRate_23 : decode cX2_keepRate 23 = .ok (.return_, 1) := by decide +kernel
theorem dX2_greatestRate_0 : decode cX2_greatestRate 0 = .ok (.iconst 0, 1) := by decide +kernel
theorem dX2_greatestRate_1 : decode cX2_greatestRate 1 = .ok (.istore_n 1, 1) := by decide +kernel
theorem dX2_greatestRate_2 : decode cX2_greatestRate 2 = .ok (.aload_n 0, 1) := by decide +kernel
theorem dX2_greatestRate_3 : decode cX2_greatestRate 3 = .ok (.getfield 31, 3) := by decide +kernel
theorem dX2_greatestRate_6 : decode cX2_greatestRate 6 = .ok (.astore_n 2, 1) := by decide +kernel
theorem dX2_greatestRate_7 : decode cX2_greatestRate 7 = .ok (.aload_n 2, 1) := by decide +kernel
theorem dX2_greatestRate_8 : decode cX2_greatestRate 8 = .ok (.arraylength, 1) := by decide +kernel
theorem dX2_greatestRate_9 : decode cX2_greatestRate 9 = .ok (.istore_n 3, 1) := by decide +kernel
theorem dX2_greatestRate_10 : decode cX2_greatestRate 10 = .ok (.iconst 0, 1) := by decide +kernel
theorem dX2_greatestRate_11 : decode cX2_greatestRate 11 = .ok (.istore 4, 2) := by decide +kernel
theorem dX2_greatestRate_13 : decode cX2_greatestRate 13 = .ok (.iload 4, 2) := by decide +kernel
theorem dX2_greatestRate_15 : decode cX2_greatestRate 15 = .ok (.iload_n 3, 1) := by decide +kernel
theorem dX2_greatestRate_16 : decode cX2_greatestRate 16 = .ok (.if_icmp .ge 22, 3) := by decide +kernel
theorem dX2_greatestRate_19 : decode cX2_greatestRate 19 = .ok (.aload_n 2, 1) := by decide +kernel
theorem dX2_greatestRate_20 : decode cX2_greatestRate 20 = .ok (.iload 4, 2) := by decide +kernel
theorem dX2_greatestRate_22 : decode cX2_greatestRate 22 = .ok (.iaload, 1) := by decide +kernel
theorem dX2_greatestRate_23 : decode cX2_greatestRate 23 = .ok (.istore 5, 2) := by decide +kernel
theorem dX2_greatestRate_25 : decode cX2_greatestRate 25 = .ok (.iload_n 1, 1) := by decide +kernel
theorem dX2_greatestRate_26 : decode cX2_greatestRate 26 = .ok (.iload 5, 2) := by decide +kernel
theorem dX2_greatestRate_28 : decode cX2_greatestRate 28 = .ok (.invokestatic 35, 3) := by decide +kernel
theorem dX2_greatestRate_31 : decode cX2_greatestRate 31 = .ok (.istore_n 1, 1) := by decide +kernel
theorem dX2_greatestRate_32 : decode cX2_greatestRate 32 = .ok (.iinc 4 1, 3) := by decide +kernel
theorem dX2_greatestRate_35 : decode cX2_greatestRate 35 = .ok (.goto (-22), 3) := by decide +kernel
theorem dX2_greatestRate_38 : decode cX2_greatestRate 38 = .ok (.iload_n 1, 1) := by decide +kernel
theorem dX2_greatestRate_39 : decode cX2_greatestRate 39 = .ok (.ireturn, 1) := by decide +kernel
theorem dX2_harm_0 : decode cX2_harm 0 = .ok (.iload_n 1, 1) := by decide +kernel
theorem dX2_harm_1 : decode cX2_harm 1 = .ok (.aload_n 0, 1) := by decide +kernel
theorem dX2_harm_2 : decode cX2_harm 2 = .ok (.getfield 74, 3) := by decide +kernel
theorem dX2_harm_5 : decode cX2_harm 5 = .ok (.if_icmp .ge 4, 3) := by decide +kernel
theorem dX2_harm_8 : decode cX2_harm 8 = .ok (.return_, 1) := by decide +kernel
theorem dX2_harm_9 : decode cX2_harm 9 = .ok (.aload_n 0, 1) := by decide +kernel
theorem dX2_harm_10 : decode cX2_harm 10 = .ok (.dup, 1) := by decide +kernel
theorem dX2_harm_11 : decode cX2_harm 11 = .ok (.getfield 77, 3) := by decide +kernel
theorem dX2_harm_14 : decode cX2_harm 14 = .ok (.iconst 1, 1) := by decide +kernel
theorem dX2_harm_15 : decode cX2_harm 15 = .ok (.iadd, 1) := by decide +kernel
theorem dX2_harm_16 : decode cX2_harm 16 = .ok (.putfield 77, 3) := by decide +kernel
theorem dX2_harm_19 : decode cX2_harm 19 = .ok (.aload_n 0, 1) := by decide +kernel
theorem dX2_harm_20 : decode cX2_harm 20 = .ok (.aload_n 0, 1) := by decide +kernel
theorem dX2_harm_21 : decode cX2_harm 21 = .ok (.getfield 15, 3) := by decide +kernel
theorem dX2_harm_24 : decode cX2_harm 24 = .ok (.putfield 22, 3) := by decide +kernel
theorem dX2_harm_27 : decode cX2_harm 27 = .ok (.aload_n 0, 1) := by decide +kernel
theorem dX2_harm_28 : decode cX2_harm 28 = .ok (.aload_n 0, 1) := by decide +kernel
theorem dX2_harm_29 : decode cX2_harm 29 = .ok (.getfield 19, 3) := by decide +kernel
theorem dX2_harm_32 : decode cX2_harm 32 = .ok (.putfield 25, 3) := by decide +kernel
theorem dX2_harm_35 : decode cX2_harm 35 = .ok (.aload_n 0, 1) := by decide +kernel
theorem dX2_harm_36 : decode cX2_harm 36 = .ok (.iload 4, 2) := by decide +kernel
theorem dX2_harm_38 : decode cX2_harm 38 = .ok (.putfield 63, 3) := by decide +kernel
theorem dX2_harm_41 : decode cX2_harm 41 = .ok (.aload_n 0, 1) := by decide +kernel
theorem dX2_harm_42 : decode cX2_harm 42 = .ok (.iload_n 3, 1) := by decide +kernel
theorem dX2_harm_43 : decode cX2_harm 43 = .ok (.putfield 74, 3) := by decide +kernel
theorem dX2_harm_46 : decode cX2_harm 46 = .ok (.aload_n 0, 1) := by decide +kernel
theorem dX2_harm_47 : decode cX2_harm 47 = .ok (.iload_n 2, 1) := by decide +kernel
theorem dX2_harm_48 : decode cX2_harm 48 = .ok (.putfield 28, 3) := by decide +kernel
theorem dX2_harm_51 : decode cX2_harm 51 = .ok (.aload_n 0, 1) := by decide +kernel
theorem dX2_harm_52 : decode cX2_harm 52 = .ok (.getfield 9, 3) := by decide +kernel
theorem dX2_harm_55 : decode cX2_harm 55 = .ok (.iconst 2, 1) := by decide +kernel
theorem dX2_harm_56 : decode cX2_harm 56 = .ok (.if_icmp .eq 47, 3) := by decide +kernel
theorem dX2_harm_59 : decode cX2_harm 59 = .ok (.aload_n 0, 1) := by decide +kernel
theorem dX2_harm_60 : decode cX2_harm 60 = .ok (.bipush 32, 2) := by decide +kernel
theorem dX2_harm_62 : decode cX2_harm 62 = .ok (.aload_n 0, 1) := by decide +kernel
theorem dX2_harm_63 : decode cX2_harm 63 = .ok (.getfield 9, 3) := by decide +kernel
theorem dX2_harm_66 : decode cX2_harm 66 = .ok (.iconst 1, 1) := by decide +kernel
theorem dX2_harm_67 : decode cX2_harm 67 = .ok (.if_icmp .ne 16, 3) := by decide +kernel
theorem dX2_harm_70 : decode cX2_harm 70 = .ok (.aload_n 0, 1) := by decide +kernel
theorem dX2_harm_71 : decode cX2_harm 71 = .ok (.getfield 15, 3) := by decide +kernel
theorem dX2_harm_74 : decode cX2_harm 74 = .ok (.bipush 7, 2) := by decide +kernel
theorem dX2_harm_76 : decode cX2_harm 76 = .ok (.imul, 1) := by decide +kernel
theorem dX2_harm_77 : decode cX2_harm 77 = .ok (.bipush 10, 2) := by decide +kernel
theorem dX2_harm_79 : decode cX2_harm 79 = .ok (.idiv, 1) := by decide +kernel
theorem dX2_harm_80 : decode cX2_harm 80 = .ok (.goto 9, 3) := by decide +kernel
theorem dX2_harm_83 : decode cX2_harm 83 = .ok (.aload_n 0, 1) := by decide +kernel
theorem dX2_harm_84 : decode cX2_harm 84 = .ok (.getfield 15, 3) := by decide +kernel
theorem dX2_harm_87 : decode cX2_harm 87 = .ok (.iconst 2, 1) := by decide +kernel
theorem dX2_harm_88 : decode cX2_harm 88 = .ok (.idiv, 1) := by decide +kernel
theorem dX2_harm_89 : decode cX2_harm 89 = .ok (.invokestatic 35, 3) := by decide +kernel
theorem dX2_harm_92 : decode cX2_harm 92 = .ok (.putfield 15, 3) := by decide +kernel
theorem dX2_harm_95 : decode cX2_harm 95 = .ok (.aload_n 0, 1) := by decide +kernel
theorem dX2_harm_96 : decode cX2_harm 96 = .ok (.aload_n 0, 1) := by decide +kernel
theorem dX2_harm_97 : decode cX2_harm 97 = .ok (.getfield 15, 3) := by decide +kernel
theorem dX2_harm_100 : decode cX2_harm 100 = .ok (.putfield 19, 3) := by decide +kernel
theorem dX2_harm_103 : decode cX2_harm 103 = .ok (.return_, 1) := by decide +kernel
theorem dX2_takeBackHarm_0 : decode cX2_takeBackHarm 0 = .ok (.iload_n 1, 1) := by decide +kernel
theorem dX2_takeBackHarm_1 : decode cX2_takeBackHarm 1 = .ok (.aload_n 0, 1) := by decide +kernel
theorem dX2_takeBackHarm_2 : decode cX2_takeBackHarm 2 = .ok (.getfield 28, 3) := by decide +kernel
theorem dX2_takeBackHarm_5 : decode cX2_takeBackHarm 5 = .ok (.if_icmp .ne 38, 3) := by decide +kernel
theorem dX2_takeBackHarm_8 : decode cX2_takeBackHarm 8 = .ok (.aload_n 0, 1) := by decide +kernel
theorem dX2_takeBackHarm_9 : decode cX2_takeBackHarm 9 = .ok (.iconst (-1), 1) := by decide +kernel
theorem dX2_takeBackHarm_10 : decode cX2_takeBackHarm 10 = .ok (.putfield 28, 3) := by decide +kernel
theorem dX2_takeBackHarm_13 : decode cX2_takeBackHarm 13 = .ok (.aload_n 0, 1) := by decide +kernel
theorem dX2_takeBackHarm_14 : decode cX2_takeBackHarm 14 = .ok (.aload_n 0, 1) := by decide +kernel
theorem dX2_takeBackHarm_15 : decode cX2_takeBackHarm 15 = .ok (.getfield 15, 3) := by decide +kernel
theorem dX2_takeBackHarm_18 : decode cX2_takeBackHarm 18 = .ok (.aload_n 0, 1) := by decide +kernel
theorem dX2_takeBackHarm_19 : decode cX2_takeBackHarm 19 = .ok (.getfield 22, 3) := by decide +kernel
theorem dX2_takeBackHarm_22 : decode cX2_takeBackHarm 22 = .ok (.invokestatic 35, 3) := by decide +kernel
theorem dX2_takeBackHarm_25 : decode cX2_takeBackHarm 25 = .ok (.putfield 15, 3) := by decide +kernel
theorem dX2_takeBackHarm_28 : decode cX2_takeBackHarm 28 = .ok (.aload_n 0, 1) := by decide +kernel
theorem dX2_takeBackHarm_29 : decode cX2_takeBackHarm 29 = .ok (.aload_n 0, 1) := by decide +kernel
theorem dX2_takeBackHarm_30 : decode cX2_takeBackHarm 30 = .ok (.getfield 19, 3) := by decide +kernel
theorem dX2_takeBackHarm_33 : decode cX2_takeBackHarm 33 = .ok (.aload_n 0, 1) := by decide +kernel
theorem dX2_takeBackHarm_34 : decode cX2_takeBackHarm 34 = .ok (.getfield 25, 3) := by decide +kernel
theorem dX2_takeBackHarm_37 : decode cX2_takeBackHarm 37 = .ok (.invokestatic 35, 3) := by decide +kernel
theorem dX2_takeBackHarm_40 : decode cX2_takeBackHarm 40 = .ok (.putfield 19, 3) := by decide +kernel
theorem dX2_takeBackHarm_43 : decode cX2_takeBackHarm 43 = .ok (.return_, 1) := by decide +kernel
theorem dX3_init_0 : decode cX3_init 0 = .ok (.aload_n 0, 1) := by decide +kernel
theorem dX3_init_1 : decode cX3_init 1 = .ok (.invokespecial 3, 3) := by decide +kernel
theorem dX3_init_4 : decode cX3_init 4 = .ok (.aload_n 0, 1) := by decide +kernel
theorem dX3_init_5 : decode cX3_init 5 = .ok (.iconst 5, 1) := by decide +kernel
theorem dX3_init_6 : decode cX3_init 6 = .ok (.putfield 9, 3) := by decide +kernel
theorem dX3_init_9 : decode cX3_init 9 = .ok (.aload_n 0, 1) := by decide +kernel
theorem dX3_init_10 : decode cX3_init 10 = .ok (.iconst 2, 1) := by decide +kernel
theorem dX3_init_11 : decode cX3_init 11 = .ok (.putfield 15, 3) := by decide +kernel
theorem dX3_init_14 : decode cX3_init 14 = .ok (.aload_n 0, 1) := by decide +kernel
theorem dX3_init_15 : decode cX3_init 15 = .ok (.bipush 8, 2) := by decide +kernel
theorem dX3_init_17 : decode cX3_init 17 = .ok (.putfield 18, 3) := by decide +kernel
theorem dX3_init_20 : decode cX3_init 20 = .ok (.aload_n 0, 1) := by decide +kernel
theorem dX3_init_21 : decode cX3_init 21 = .ok (.bipush 6, 2) := by decide +kernel
theorem dX3_init_23 : decode cX3_init 23 = .ok (.putfield 21, 3) := by decide +kernel
theorem dX3_init_26 : decode cX3_init 26 = .ok (.aload_n 0, 1) := by decide +kernel
theorem dX3_init_27 : decode cX3_init 27 = .ok (.iconst 1, 1) := by decide +kernel
theorem dX3_init_28 : decode cX3_init 28 = .ok (.putfield 24, 3) := by decide +kernel
theorem dX3_init_31 : decode cX3_init 31 = .ok (.aload_n 0, 1) := by decide +kernel
theorem dX3_init_32 : decode cX3_init 32 = .ok (.bipush 30, 2) := by decide +kernel
theorem dX3_init_34 : decode cX3_init 34 = .ok (.anewarray 28, 3) := by decide +kernel
theorem dX3_init_37 : decode cX3_init 37 = .ok (.putfield 30, 3) := by decide +kernel
theorem dX3_init_40 : decode cX3_init 40 = .ok (.return_, 1) := by decide +kernel
theorem dX3_letsToServer_0 : decode cX3_letsToServer 0 = .ok (.aload_n 0, 1) := by decide +kernel
theorem dX3_letsToServer_1 : decode cX3_letsToServer 1 = .ok (.getfield 24, 3) := by decide +kernel
theorem dX3_letsToServer_4 : decode cX3_letsToServer 4 = .ok (.ifCond .ne 5, 3) := by decide +kernel
theorem dX3_letsToServer_7 : decode cX3_letsToServer 7 = .ok (.iconst 0, 1) := by decide +kernel
theorem dX3_letsToServer_8 : decode cX3_letsToServer 8 = .ok (.ireturn, 1) := by decide +kernel
theorem dX3_letsToServer_9 : decode cX3_letsToServer 9 = .ok (.aload_n 0, 1) := by decide +kernel
theorem dX3_letsToServer_10 : decode cX3_letsToServer 10 = .ok (.getfield 34, 3) := by decide +kernel
theorem dX3_letsToServer_13 : decode cX3_letsToServer 13 = .ok (.ifCond .le 15, 3) := by decide +kernel
theorem dX3_letsToServer_16 : decode cX3_letsToServer 16 = .ok (.aload_n 0, 1) := by decide +kernel
theorem dX3_letsToServer_17 : decode cX3_letsToServer 17 = .ok (.dup, 1) := by decide +kernel
theorem dX3_letsToServer_18 : decode cX3_letsToServer 18 = .ok (.getfield 34, 3) := by decide +kernel
theorem dX3_letsToServer_21 : decode cX3_letsToServer 21 = .ok (.iconst 1, 1) := by decide +kernel
theorem dX3_letsToServer_22 : decode cX3_letsToServer 22 = .ok (.isub, 1) := by decide +kernel
theorem dX3_letsToServer_23 : decode cX3_letsToServer 23 = .ok (.putfield 34, 3) := by decide +kernel
theorem dX3_letsToServer_26 : decode cX3_letsToServer 26 = .ok (.iconst 0, 1) := by decide +kernel
theorem dX3_letsToServer_27 : decode cX3_letsToServer 27 = .ok (.ireturn, 1) := by decide +kernel
theorem dX3_letsToServer_28 : decode cX3_letsToServer 28 = .ok (.aload_n 0, 1) := by decide +kernel
theorem dX3_letsToServer_29 : decode cX3_letsToServer 29 = .ok (.invokevirtual 37, 3) := by decide +kernel
theorem dX3_letsToServer_32 : decode cX3_letsToServer 32 = .ok (.ireturn, 1) := by decide +kernel
theorem dX3_letsToClient_0 : decode cX3_letsToClient 0 = .ok (.aload_n 0, 1) := by decide +kernel
theorem dX3_letsToClient_1 : decode cX3_letsToClient 1 = .ok (.getfield 24, 3) := by decide +kernel
theorem dX3_letsToClient_4 : decode cX3_letsToClient 4 = .ok (.ifCond .ne 5, 3) := by decide +kernel
theorem dX3_letsToClient_7 : decode cX3_letsToClient 7 = .ok (.iconst 0, 1) := by decide +kernel
theorem dX3_letsToClient_8 : decode cX3_letsToClient 8 = .ok (.ireturn, 1) := by decide +kernel
theorem dX3_letsToClient_9 : decode cX3_letsToClient 9 = .ok (.aload_n 0, 1) := by decide +kernel
theorem dX3_letsToClient_10 : decode cX3_letsToClient 10 = .ok (.getfield 41, 3) := by decide +kernel
theorem dX3_letsToClient_13 : decode cX3_letsToClient 13 = .ok (.ifCond .le 15, 3) := by decide +kernel
theorem dX3_letsToClient_16 : decode cX3_letsToClient 16 = .ok (.aload_n 0, 1) := by decide +kernel
theorem dX3_letsToClient_17 : decode cX3_letsToClient 17 = .ok (.dup, 1) := by decide +kernel
theorem dX3_letsToClient_18 : decode cX3_letsToClient 18 = .ok (.getfield 41, 3) := by decide +kernel
theorem dX3_letsToClient_21 : decode cX3_letsToClient 21 = .ok (.iconst 1, 1) := by decide +kernel
theorem dX3_letsToClient_22 : decode cX3_letsToClient 22 = .ok (.isub, 1) := by decide +kernel
theorem dX3_letsToClient_23 : decode cX3_letsToClient 23 = .ok (.putfield 41, 3) := by decide +kernel
theorem dX3_letsToClient_26 : decode cX3_letsToClient 26 = .ok (.iconst 0, 1) := by decide +kernel
theorem dX3_letsToClient_27 : decode cX3_letsToClient 27 = .ok (.ireturn, 1) := by decide +kernel
theorem dX3_letsToClient_28 : decode cX3_letsToClient 28 = .ok (.iconst 1, 1) := by decide +kernel
theorem dX3_letsToClient_29 : decode cX3_letsToClient 29 = .ok (.ireturn, 1) := by decide +kernel
theorem dX3_hasRoom_0 : decode cX3_hasRoom 0 = .ok (.aload_n 0, 1) := by decide +kernel
theorem dX3_hasRoom_1 : decode cX3_hasRoom 1 = .ok (.getfield 44, 3) := by decide +kernel
theorem dX3_hasRoom_4 : decode cX3_hasRoom 4 = .ok (.aload_n 0, 1) := by decide +kernel
theorem dX3_hasRoom_5 : decode cX3_hasRoom 5 = .ok (.getfield 18, 3) := by decide +kernel
theorem dX3_hasRoom_8 : decode cX3_hasRoom 8 = .ok (.if_icmp .ge 16, 3) := by decide +kernel
theorem dX3_hasRoom_11 : decode cX3_hasRoom 11 = .ok (.aload_n 0, 1) := by decide +kernel
theorem dX3_hasRoom_12 : decode cX3_hasRoom 12 = .ok (.getfield 44, 3) := by decide +kernel
theorem dX3_hasRoom_15 : decode cX3_hasRoom 15 = .ok (.bipush 30, 2) := by decide +kernel
theorem dX3_hasRoom_17 : decode cX3_hasRoom 17 = .ok (.if_icmp .ge 7, 3) := by decide +kernel
theorem dX3_hasRoom_20 : decode cX3_hasRoom 20 = .ok (.iconst 1, 1) := by decide +kernel
theorem dX3_hasRoom_21 : decode cX3_hasRoom 21 = .ok (.goto 4, 3) := by decide +kernel
theorem dX3_hasRoom_24 : decode cX3_hasRoom 24 = .ok (.iconst 0, 1) := by decide +kernel
theorem dX3_hasRoom_25 : decode cX3_hasRoom 25 = .ok (.ireturn, 1) := by decide +kernel
theorem dX3_append_0 : decode cX3_append 0 = .ok (.aload_n 0, 1) := by decide +kernel
theorem dX3_append_1 : decode cX3_append 1 = .ok (.getfield 44, 3) := by decide +kernel
theorem dX3_append_4 : decode cX3_append 4 = .ok (.bipush 30, 2) := by decide +kernel
theorem dX3_append_6 : decode cX3_append 6 = .ok (.if_icmp .ge 31, 3) := by decide +kernel
theorem dX3_append_9 : decode cX3_append 9 = .ok (.aload_n 0, 1) := by decide +kernel
theorem dX3_append_10 : decode cX3_append 10 = .ok (.getfield 30, 3) := by decide +kernel
theorem dX3_append_13 : decode cX3_append 13 = .ok (.aload_n 0, 1) := by decide +kernel
theorem dX3_append_14 : decode cX3_append 14 = .ok (.getfield 47, 3) := by decide +kernel
theorem dX3_append_17 : decode cX3_append 17 = .ok (.aload_n 0, 1) := by decide +kernel
theorem dX3_append_18 : decode cX3_append 18 = .ok (.getfield 44, 3) := by decide +kernel
theorem dX3_append_21 : decode cX3_append 21 = .ok (.iadd, 1) := by decide +kernel
theorem dX3_append_22 : decode cX3_append 22 = .ok (.bipush 30, 2) := by decide +kernel
theorem dX3_append_24 : decode cX3_append 24 = .ok (.irem, 1) := by decide +kernel
theorem dX3_append_25 : decode cX3_append 25 = .ok (.aload_n 1, 1) := by decide +kernel
theorem dX3_append_26 : decode cX3_append 26 = .ok (.aastore, 1) := by decide +kernel
theorem dX3_append_27 : decode cX3_append 27 = .ok (.aload_n 0, 1) := by decide +kernel
theorem dX3_append_28 : decode cX3_append 28 = .ok (.dup, 1) := by decide +kernel
theorem dX3_append_29 : decode cX3_append 29 = .ok (.getfield 44, 3) := by decide +kernel
theorem dX3_append_32 : decode cX3_append 32 = .ok (.iconst 1, 1) := by decide +kernel
theorem dX3_append_33 : decode cX3_append 33 = .ok (.iadd, 1) := by decide +kernel
theorem dX3_append_34 : decode cX3_append 34 = .ok (.putfield 44, 3) := by decide +kernel
theorem dX3_append_37 : decode cX3_append 37 = .ok (.return_, 1) := by decide +kernel
theorem dX3_removeFirst_0 : decode cX3_removeFirst 0 = .ok (.aload_n 0, 1) := by decide +kernel
theorem dX3_removeFirst_1 : decode cX3_removeFirst 1 = .ok (.getfield 30, 3) := by decide +kernel
theorem dX3_removeFirst_4 : decode cX3_removeFirst 4 = .ok (.aload_n 0, 1) := by decide +kernel
theorem dX3_removeFirst_5 : decode cX3_removeFirst 5 = .ok (.getfield 47, 3) := by decide +kernel
theorem dX3_removeFirst_8 : decode cX3_removeFirst 8 = .ok (.aaload, 1) := by decide +kernel
theorem dX3_removeFirst_9 : decode cX3_removeFirst 9 = .ok (.astore_n 1, 1) := by decide +kernel
theorem dX3_removeFirst_10 : decode cX3_removeFirst 10 = .ok (.aload_n 0, 1) := by decide +kernel
theorem dX3_removeFirst_11 : decode cX3_removeFirst 11 = .ok (.getfield 30, 3) := by decide +kernel
theorem dX3_removeFirst_14 : decode cX3_removeFirst 14 = .ok (.aload_n 0, 1) := by decide +kernel
theorem dX3_removeFirst_15 : decode cX3_removeFirst 15 = .ok (.getfield 47, 3) := by decide +kernel
theorem dX3_removeFirst_18 : decode cX3_removeFirst 18 = .ok (.aconst_null, 1) := by decide +kernel
theorem dX3_removeFirst_19 : decode cX3_removeFirst 19 = .ok (.aastore, 1) := by decide +kernel
theorem dX3_removeFirst_20 : decode cX3_removeFirst 20 = .ok (.aload_n 0, 1) := by decide +kernel
theorem dX3_removeFirst_21 : decode cX3_removeFirst 21 = .ok (.aload_n 0, 1) := by decide +kernel
theorem dX3_removeFirst_22 : decode cX3_removeFirst 22 = .ok (.getfield 47, 3) := by decide +kernel
theorem dX3_removeFirst_25 : decode cX3_removeFirst 25 = .ok (.iconst 1, 1) := by decide +kernel
theorem dX3_removeFirst_26 : decode cX3_removeFirst 26 = .ok (.iadd, 1) := by decide +kernel
theorem dX3_removeFirst_27 : decode cX3_removeFirst 27 = .ok (.bipush 30, 2) := by decide +kernel
theorem dX3_removeFirst_29 : decode cX3_removeFirst 29 = .ok (.irem, 1) := by decide +kernel
theorem dX3_removeFirst_30 : decode cX3_removeFirst 30 = .ok (.putfield 47, 3) := by decide +kernel
theorem dX3_removeFirst_33 : decode cX3_removeFirst 33 = .ok (.aload_n 0, 1) := by decide +kernel
theorem dX3_removeFirst_34 : decode cX3_removeFirst 34 = .ok (.dup, 1) := by decide +kernel
theorem dX3_removeFirst_35 : decode cX3_removeFirst 35 = .ok (.getfield 44, 3) := by decide +kernel
theorem dX3_removeFirst_38 : decode cX3_removeFirst 38 = .ok (.iconst 1, 1) := by decide +kernel
theorem dX3_removeFirst_39 : decode cX3_removeFirst 39 = .ok (.isub, 1) := by decide +kernel
theorem dX3_removeFirst_40 : decode cX3_removeFirst 40 = .ok (.putfield 44, 3) := by decide +kernel
theorem dX3_removeFirst_43 : decode cX3_removeFirst 43 = .ok (.aload_n 1, 1) := by decide +kernel
theorem dX3_removeFirst_44 : decode cX3_removeFirst 44 = .ok (.areturn, 1) := by decide +kernel
theorem dX3_takeLateness_0 : decode cX3_takeLateness 0 = .ok (.aload_n 0, 1) := by decide +kernel
theorem dX3_takeLateness_1 : decode cX3_takeLateness 1 = .ok (.getfield 50, 3) := by decide +kernel
theorem dX3_takeLateness_4 : decode cX3_takeLateness 4 = .ok (.ifCond .gt 5, 3) := by decide +kernel
theorem dX3_takeLateness_7 : decode cX3_takeLateness 7 = .ok (.iconst 0, 1) := by decide +kernel
theorem dX3_takeLateness_8 : decode cX3_takeLateness 8 = .ok (.ireturn, 1) := by decide +kernel
theorem dX3_takeLateness_9 : decode cX3_takeLateness 9 = .ok (.aload_n 0, 1) := by decide +kernel
theorem dX3_takeLateness_10 : decode cX3_takeLateness 10 = .ok (.dup, 1) := by decide +kernel
theorem dX3_takeLateness_11 : decode cX3_takeLateness 11 = .ok (.getfield 50, 3) := by decide +kernel
theorem dX3_takeLateness_14 : decode cX3_takeLateness 14 = .ok (.iconst 1, 1) := by decide +kernel
theorem dX3_takeLateness_15 : decode cX3_takeLateness 15 = .ok (.isub, 1) := by decide +kernel
theorem dX3_takeLateness_16 : decode cX3_takeLateness 16 = .ok (.putfield 50, 3) := by decide +kernel
theorem dX3_takeLateness_19 : decode cX3_takeLateness 19 = .ok (.aload_n 0, 1) := by decide +kernel
theorem dX3_takeLateness_20 : decode cX3_takeLateness 20 = .ok (.getfield 53, 3) := by decide +kernel
theorem dX3_takeLateness_23 : decode cX3_takeLateness 23 = .ok (.ireturn, 1) := by decide +kernel
theorem dX4_init_0 : decode cX4_init 0 = .ok (.aload_n 0, 1) := by decide +kernel
theorem dX4_init_1 : decode cX4_init 1 = .ok (.invokespecial 3, 3) := by decide +kernel
theorem dX4_init_4 : decode cX4_init 4 = .ok (.aload_n 0, 1) := by decide +kernel
theorem dX4_init_5 : decode cX4_init 5 = .ok (.iconst (-1), 1) := by decide +kernel
theorem dX4_init_6 : decode cX4_init 6 = .ok (.putfield 9, 3) := by decide +kernel
theorem dX4_init_9 : decode cX4_init 9 = .ok (.aload_n 0, 1) := by decide +kernel
theorem dX4_init_10 : decode cX4_init 10 = .ok (.iload_n 1, 1) := by decide +kernel
theorem dX4_init_11 : decode cX4_init 11 = .ok (.putfield 15, 3) := by decide +kernel
theorem dX4_init_14 : decode cX4_init 14 = .ok (.return_, 1) := by decide +kernel
theorem dX5_init_0 : decode cX5_init 0 = .ok (.aload_n 0, 1) := by decide +kernel
theorem dX5_init_1 : decode cX5_init 1 = .ok (.invokespecial 3, 3) := by decide +kernel
theorem dX5_init_4 : decode cX5_init 4 = .ok (.aload_n 0, 1) := by decide +kernel
theorem dX5_init_5 : decode cX5_init 5 = .ok (.new 9, 3) := by decide +kernel
theorem dX5_init_8 : decode cX5_init 8 = .ok (.dup, 1) := by decide +kernel
theorem dX5_init_9 : decode cX5_init 9 = .ok (.invokespecial 11, 3) := by decide +kernel
theorem dX5_init_12 : decode cX5_init 12 = .ok (.putfield 12, 3) := by decide +kernel
theorem dX5_init_15 : decode cX5_init 15 = .ok (.aload_n 0, 1) := by decide +kernel
theorem dX5_init_16 : decode cX5_init 16 = .ok (.new 9, 3) := by decide +kernel
theorem dX5_init_19 : decode cX5_init 19 = .ok (.dup, 1) := by decide +kernel
theorem dX5_init_20 : decode cX5_init 20 = .ok (.invokespecial 11, 3) := by decide +kernel
theorem dX5_init_23 : decode cX5_init 23 = .ok (.putfield 18, 3) := by decide +kernel
theorem dX5_init_26 : decode cX5_init 26 = .ok (.aload_n 0, 1) := by decide +kernel
theorem dX5_init_27 : decode cX5_init 27 = .ok (.new 21, 3) := by decide +kernel
theorem dX5_init_30 : decode cX5_init 30 = .ok (.dup, 1) := by decide +kernel
theorem dX5_init_31 : decode cX5_init 31 = .ok (.sipush 1024, 3) := by decide +kernel
theorem dX5_init_34 : decode cX5_init 34 = .ok (.invokespecial 23, 3) := by decide +kernel
theorem dX5_init_37 : decode cX5_init 37 = .ok (.putfield 26, 3) := by decide +kernel
theorem dX5_init_40 : decode cX5_init 40 = .ok (.aload_n 0, 1) := by decide +kernel
theorem dX5_init_41 : decode cX5_init 41 = .ok (.new 21, 3) := by decide +kernel
theorem dX5_init_44 : decode cX5_init 44 = .ok (.dup, 1) := by decide +kernel
theorem dX5_init_45 : decode cX5_init 45 = .ok (.sipush 2048, 3) := by decide +kernel
theorem dX5_init_48 : decode cX5_init 48 = .ok (.invokespecial 23, 3) := by decide +kernel
theorem dX5_init_51 : decode cX5_init 51 = .ok (.putfield 30, 3) := by decide +kernel
theorem dX5_init_54 : decode cX5_init 54 = .ok (.aload_n 0, 1) := by decide +kernel
theorem dX5_init_55 : decode cX5_init 55 = .ok (.new 33, 3) := by decide +kernel
theorem dX5_init_58 : decode cX5_init 58 = .ok (.dup, 1) := by decide +kernel
theorem dX5_init_59 : decode cX5_init 59 = .ok (.bipush 9, 2) := by decide +kernel
theorem dX5_init_61 : decode cX5_init 61 = .ok (.invokespecial 35, 3) := by decide +kernel
theorem dX5_init_64 : decode cX5_init 64 = .ok (.putfield 36, 3) := by decide +kernel
theorem dX5_init_67 : decode cX5_init 67 = .ok (.return_, 1) := by decide +kernel
theorem dX5_laneOf_0 : decode cX5_laneOf 0 = .ok (.iload_n 1, 1) := by decide +kernel
theorem dX5_laneOf_1 : decode cX5_laneOf 1 = .ok (.ifCond .ne 10, 3) := by decide +kernel
theorem dX5_laneOf_4 : decode cX5_laneOf 4 = .ok (.aload_n 0, 1) := by decide +kernel
theorem dX5_laneOf_5 : decode cX5_laneOf 5 = .ok (.getfield 12, 3) := by decide +kernel
theorem dX5_laneOf_8 : decode cX5_laneOf 8 = .ok (.goto 7, 3) := by decide +kernel
theorem dX5_laneOf_11 : decode cX5_laneOf 11 = .ok (.aload_n 0, 1) := by decide +kernel
theorem dX5_laneOf_12 : decode cX5_laneOf 12 = .ok (.getfield 18, 3) := by decide +kernel
theorem dX5_laneOf_15 : decode cX5_laneOf 15 = .ok (.areturn, 1) := by decide +kernel
theorem dX5_putToServer_0 : decode cX5_putToServer 0 = .ok (.aload_n 0, 1) := by decide +kernel
theorem dX5_putToServer_1 : decode cX5_putToServer 1 = .ok (.iload_n 1, 1) := by decide +kernel
theorem dX5_putToServer_2 : decode cX5_putToServer 2 = .ok (.invokevirtual 40, 3) := by decide +kernel
theorem dX5_putToServer_5 : decode cX5_putToServer 5 = .ok (.astore_n 3, 1) := by decide +kernel
theorem dX5_putToServer_6 : decode cX5_putToServer 6 = .ok (.aload_n 2, 1) := by decide +kernel
theorem dX5_putToServer_7 : decode cX5_putToServer 7 = .ok (.iload_n 1, 1) := by decide +kernel
theorem dX5_putToServer_8 : decode cX5_putToServer 8 = .ok (.putfield 44, 3) := by decide +kernel
theorem dX5_putToServer_11 : decode cX5_putToServer 11 = .ok (.aload_n 3, 1) := by decide +kernel
theorem dX5_putToServer_12 : decode cX5_putToServer 12 = .ok (.invokevirtual 48, 3) := by decide +kernel
theorem dX5_putToServer_15 : decode cX5_putToServer 15 = .ok (.istore 4, 2) := by decide +kernel
theorem dX5_putToServer_17 : decode cX5_putToServer 17 = .ok (.aload_n 2, 1) := by decide +kernel
theorem dX5_putToServer_18 : decode cX5_putToServer 18 = .ok (.getfield 52, 3) := by decide +kernel
theorem dX5_putToServer_21 : decode cX5_putToServer 21 = .ok (.ifnull 44, 3) := by decide +kernel
theorem dX5_putToServer_24 : decode cX5_putToServer 24 = .ok (.aload_n 2, 1) := by decide +kernel
theorem dX5_putToServer_25 : decode cX5_putToServer 25 = .ok (.getfield 52, 3) := by decide +kernel
theorem dX5_putToServer_28 : decode cX5_putToServer 28 = .ok (.iload 4, 2) := by decide +kernel
theorem dX5_putToServer_30 : decode cX5_putToServer 30 = .ok (.ifCond .eq 18, 3) := by decide +kernel
theorem dX5_putToServer_33 : decode cX5_putToServer 33 = .ok (.aload_n 3, 1) := by decide +kernel
theorem dX5_putToServer_34 : decode cX5_putToServer 34 = .ok (.getfield 56, 3) := by decide +kernel
theorem dX5_putToServer_37 : decode cX5_putToServer 37 = .ok (.aload_n 3, 1) := by decide +kernel
theorem dX5_putToServer_38 : decode cX5_putToServer 38 = .ok (.getfield 59, 3) := by decide +kernel
theorem dX5_putToServer_41 : decode cX5_putToServer 41 = .ok (.if_icmp .lt 7, 3) := by decide +kernel
theorem dX5_putToServer_44 : decode cX5_putToServer 44 = .ok (.iconst 1, 1) := by decide +kernel
theorem dX5_putToServer_45 : decode cX5_putToServer 45 = .ok (.goto 4, 3) := by decide +kernel
theorem dX5_putToServer_48 : decode cX5_putToServer 48 = .ok (.iconst 0, 1) := by decide +kernel
theorem dX5_putToServer_49 : decode cX5_putToServer 49 = .ok (.putfield 62, 3) := by decide +kernel
theorem dX5_putToServer_52 : decode cX5_putToServer 52 = .ok (.iload 4, 2) := by decide +kernel
theorem dX5_putToServer_54 : decode cX5_putToServer 54 = .ok (.ifCond .ne 11, 3) := by decide +kernel
theorem dX5_putToServer_57 : decode cX5_putToServer 57 = .ok (.aload_n 2, 1) := by decide +kernel
theorem dX5_putToServer_58 : decode cX5_putToServer 58 = .ok (.getfield 52, 3) := by decide +kernel
theorem dX5_putToServer_61 : decode cX5_putToServer 61 = .ok (.iconst 3, 1) := by decide +kernel
theorem dX5_putToServer_62 : decode cX5_putToServer 62 = .ok (.putfield 68, 3) := by decide +kernel
theorem dX5_putToServer_65 : decode cX5_putToServer 65 = .ok (.iload 4, 2) := by decide +kernel
theorem dX5_putToServer_67 : decode cX5_putToServer 67 = .ok (.ifCond .eq 8, 3) := by decide +kernel
theorem dX5_putToServer_70 : decode cX5_putToServer 70 = .ok (.aload_n 3, 1) := by decide +kernel
theorem dX5_putToServer_71 : decode cX5_putToServer 71 = .ok (.aload_n 2, 1) := by decide +kernel
theorem dX5_putToServer_72 : decode cX5_putToServer 72 = .ok (.invokevirtual 71, 3) := by decide +kernel
theorem dX5_putToServer_75 : decode cX5_putToServer 75 = .ok (.return_, 1) := by decide +kernel
theorem dX5_putToClient_0 : decode cX5_putToClient 0 = .ok (.aload_n 0, 1) := by decide +kernel
theorem dX5_putToClient_1 : decode cX5_putToClient 1 = .ok (.iload_n 1, 1) := by decide +kernel
theorem dX5_putToClient_2 : decode cX5_putToClient 2 = .ok (.invokevirtual 40, 3) := by decide +kernel
theorem dX5_putToClient_5 : decode cX5_putToClient 5 = .ok (.astore_n 3, 1) := by decide +kernel
theorem dX5_putToClient_6 : decode cX5_putToClient 6 = .ok (.aload_n 2, 1) := by decide +kernel
theorem dX5_putToClient_7 : decode cX5_putToClient 7 = .ok (.iload_n 1, 1) := by decide +kernel
theorem dX5_putToClient_8 : decode cX5_putToClient 8 = .ok (.putfield 44, 3) := by decide +kernel
theorem dX5_putToClient_11 : decode cX5_putToClient 11 = .ok (.aload_n 3, 1) := by decide +kernel
theorem dX5_putToClient_12 : decode cX5_putToClient 12 = .ok (.invokevirtual 75, 3) := by decide +kernel
theorem dX5_putToClient_15 : decode cX5_putToClient 15 = .ok (.ifCond .eq 20, 3) := by decide +kernel
theorem dX5_putToClient_18 : decode cX5_putToClient 18 = .ok (.aload_n 0, 1) := by decide +kernel
theorem dX5_putToClient_19 : decode cX5_putToClient 19 = .ok (.getfield 30, 3) := by decide +kernel
theorem dX5_putToClient_22 : decode cX5_putToClient 22 = .ok (.aload_n 2, 1) := by decide +kernel
theorem dX5_putToClient_23 : decode cX5_putToClient 23 = .ok (.aload_n 0, 1) := by decide +kernel
theorem dX5_putToClient_24 : decode cX5_putToClient 24 = .ok (.getfield 78, 3) := by decide +kernel
theorem dX5_putToClient_27 : decode cX5_putToClient 27 = .ok (.aload_n 3, 1) := by decide +kernel
theorem dX5_putToClient_28 : decode cX5_putToClient 28 = .ok (.getfield 81, 3) := by decide +kernel
theorem dX5_putToClient_31 : decode cX5_putToClient 31 = .ok (.iadd, 1) := by decide +kernel
theorem dX5_putToClient_32 : decode cX5_putToClient 32 = .ok (.invokevirtual 84, 3) := by decide +kernel
theorem dX5_putToClient_35 : decode cX5_putToClient 35 = .ok (.return_, 1) := by decide +kernel
theorem dX5_putForeign_0 : decode cX5_putForeign 0 = .ok (.aload_n 0, 1) := by decide +kernel
theorem dX5_putForeign_1 : decode cX5_putForeign 1 = .ok (.iload_n 1, 1) := by decide +kernel
theorem dX5_putForeign_2 : decode cX5_putForeign 2 = .ok (.invokevirtual 40, 3) := by decide +kernel
theorem dX5_putForeign_5 : decode cX5_putForeign 5 = .ok (.astore_n 3, 1) := by decide +kernel
theorem dX5_putForeign_6 : decode cX5_putForeign 6 = .ok (.iconst 0, 1) := by decide +kernel
theorem dX5_putForeign_7 : decode cX5_putForeign 7 = .ok (.istore 4, 2) := by decide +kernel
theorem dX5_putForeign_9 : decode cX5_putForeign 9 = .ok (.iload 4, 2) := by decide +kernel
theorem dX5_putForeign_11 : decode cX5_putForeign 11 = .ok (.iload_n 2, 1) := by decide +kernel
theorem dX5_putForeign_12 : decode cX5_putForeign 12 = .ok (.if_icmp .ge 24, 3) := by decide +kernel
theorem dX5_putForeign_15 : decode cX5_putForeign 15 = .ok (.aload_n 3, 1) := by decide +kernel
theorem dX5_putForeign_16 : decode cX5_putForeign 16 = .ok (.invokevirtual 87, 3) := by decide +kernel
theorem dX5_putForeign_19 : decode cX5_putForeign 19 = .ok (.ifCond .eq 17, 3) := by decide +kernel
theorem dX5_putForeign_22 : decode cX5_putForeign 22 = .ok (.aload_n 3, 1) := by decide +kernel
theorem dX5_putForeign_23 : decode cX5_putForeign 23 = .ok (.aload_n 0, 1) := by decide +kernel
theorem dX5_putForeign_24 : decode cX5_putForeign 24 = .ok (.getfield 36, 3) := by decide +kernel
theorem dX5_putForeign_27 : decode cX5_putForeign 27 = .ok (.invokevirtual 71, 3) := by decide +kernel
theorem dX5_putForeign_30 : decode cX5_putForeign 30 = .ok (.iinc 4 1, 3) := by decide +kernel
theorem dX5_putForeign_33 : decode cX5_putForeign 33 = .ok (.goto (-24), 3) := by decide +kernel
theorem dX5_putForeign_36 : decode cX5_putForeign 36 = .ok (.iload 4, 2) := by decide +kernel
theorem dX5_putForeign_38 : decode cX5_putForeign 38 = .ok (.ireturn, 1) := by decide +kernel
theorem dX5_letLeave_0 : decode cX5_letLeave 0 = .ok (.aload_n 0, 1) := by decide +kernel
theorem dX5_letLeave_1 : decode cX5_letLeave 1 = .ok (.aload_n 0, 1) := by decide +kernel
theorem dX5_letLeave_2 : decode cX5_letLeave 2 = .ok (.getfield 12, 3) := by decide +kernel
theorem dX5_letLeave_5 : decode cX5_letLeave 5 = .ok (.invokevirtual 90, 3) := by decide +kernel
theorem dX5_letLeave_8 : decode cX5_letLeave 8 = .ok (.aload_n 0, 1) := by decide +kernel
theorem dX5_letLeave_9 : decode cX5_letLeave 9 = .ok (.aload_n 0, 1) := by decide +kernel
theorem dX5_letLeave_10 : decode cX5_letLeave 10 = .ok (.getfield 18, 3) := by decide +kernel
theorem dX5_letLeave_13 : decode cX5_letLeave 13 = .ok (.invokevirtual 90, 3) := by decide +kernel
theorem dX5_letLeave_16 : decode cX5_letLeave 16 = .ok (.return_, 1) := by decide +kernel
theorem dX5_letLeaveLane_0 : decode cX5_letLeaveLane 0 = .ok (.iconst 0, 1) := by decide +kernel
theorem dX5_letLeaveLane_1 : decode cX5_letLeaveLane 1 = .ok (.istore_n 2, 1) := by decide +kernel
theorem dX5_letLeaveLane_2 : decode cX5_letLeaveLane 2 = .ok (.iload_n 2, 1) := by decide +kernel
theorem dX5_letLeaveLane_3 : decode cX5_letLeaveLane 3 = .ok (.aload_n 1, 1) := by decide +kernel
theorem dX5_letLeaveLane_4 : decode cX5_letLeaveLane 4 = .ok (.getfield 94, 3) := by decide +kernel
theorem dX5_letLeaveLane_7 : decode cX5_letLeaveLane 7 = .ok (.if_icmp .ge 56, 3) := by decide +kernel
theorem dX5_letLeaveLane_10 : decode cX5_letLeaveLane 10 = .ok (.aload_n 1, 1) := by decide +kernel
theorem dX5_letLeaveLane_11 : decode cX5_letLeaveLane 11 = .ok (.getfield 56, 3) := by decide +kernel
theorem dX5_letLeaveLane_14 : decode cX5_letLeaveLane 14 = .ok (.ifCond .le 49, 3) := by decide +kernel
theorem dX5_letLeaveLane_17 : decode cX5_letLeaveLane 17 = .ok (.aload_n 1, 1) := by decide +kernel
theorem dX5_letLeaveLane_18 : decode cX5_letLeaveLane 18 = .ok (.invokevirtual 97, 3) := by decide +kernel
theorem dX5_letLeaveLane_21 : decode cX5_letLeaveLane 21 = .ok (.astore_n 3, 1) := by decide +kernel
theorem dX5_letLeaveLane_22 : decode cX5_letLeaveLane 22 = .ok (.aload_n 3, 1) := by decide +kernel
theorem dX5_letLeaveLane_23 : decode cX5_letLeaveLane 23 = .ok (.ifnull 34, 3) := by decide +kernel
theorem dX5_letLeaveLane_26 : decode cX5_letLeaveLane 26 = .ok (.aload_n 3, 1) := by decide +kernel
theorem dX5_letLeaveLane_27 : decode cX5_letLeaveLane 27 = .ok (.getfield 101, 3) := by decide +kernel
theorem dX5_letLeaveLane_30 : decode cX5_letLeaveLane 30 = .ok (.bipush 9, 2) := by decide +kernel
theorem dX5_letLeaveLane_32 : decode cX5_letLeaveLane 32 = .ok (.if_icmp .eq 25, 3) := by decide +kernel
theorem dX5_letLeaveLane_35 : decode cX5_letLeaveLane 35 = .ok (.aload_n 0, 1) := by decide +kernel
theorem dX5_letLeaveLane_36 : decode cX5_letLeaveLane 36 = .ok (.getfield 26, 3) := by decide +kernel
theorem dX5_letLeaveLane_39 : decode cX5_letLeaveLane 39 = .ok (.aload_n 3, 1) := by decide +kernel
theorem dX5_letLeaveLane_40 : decode cX5_letLeaveLane 40 = .ok (.aload_n 0, 1) := by decide +kernel
theorem dX5_letLeaveLane_41 : decode cX5_letLeaveLane 41 = .ok (.getfield 78, 3) := by decide +kernel
theorem dX5_letLeaveLane_44 : decode cX5_letLeaveLane 44 = .ok (.aload_n 1, 1) := by decide +kernel
theorem dX5_letLeaveLane_45 : decode cX5_letLeaveLane 45 = .ok (.getfield 81, 3) := by decide +kernel
theorem dX5_letLeaveLane_48 : decode cX5_letLeaveLane 48 = .ok (.iadd, 1) := by decide +kernel
theorem dX5_letLeaveLane_49 : decode cX5_letLeaveLane 49 = .ok (.aload_n 1, 1) := by decide +kernel
theorem dX5_letLeaveLane_50 : decode cX5_letLeaveLane 50 = .ok (.invokevirtual 104, 3) := by decide +kernel
theorem dX5_letLeaveLane_53 : decode cX5_letLeaveLane 53 = .ok (.iadd, 1) := by decide +kernel
theorem dX5_letLeaveLane_54 : decode cX5_letLeaveLane 54 = .ok (.invokevirtual 84, 3) := by decide +kernel
theorem dX5_letLeaveLane_57 : decode cX5_letLeaveLane 57 = .ok (.iinc 2 1, 3) := by decide +kernel
theorem dX5_letLeaveLane_60 : decode cX5_letLeaveLane 60 = .ok (.goto (-58), 3) := by decide +kernel
theorem dX5_letLeaveLane_63 : decode cX5_letLeaveLane 63 = .ok (.return_, 1) := by decide +kernel
theorem dX6_init_0 : decode cX6_init 0 = .ok (.aload_n 0, 1) := by decide +kernel
theorem dX6_init_1 : decode cX6_init 1 = .ok (.invokespecial 3, 3) := by decide +kernel
theorem dX6_init_4 : decode cX6_init 4 = .ok (.aload_n 0, 1) := by decide +kernel
theorem dX6_init_5 : decode cX6_init 5 = .ok (.iconst 0, 1) := by decide +kernel
theorem dX6_init_6 : decode cX6_init 6 = .ok (.putfield 9, 3) := by decide +kernel
theorem dX6_init_9 : decode cX6_init 9 = .ok (.aload_n 0, 1) := by decide +kernel
theorem dX6_init_10 : decode cX6_init 10 = .ok (.iload_n 1, 1) := by decide +kernel
theorem dX6_init_11 : decode cX6_init 11 = .ok (.putfield 15, 3) := by decide +kernel
theorem dX6_init_14 : decode cX6_init 14 = .ok (.aload_n 0, 1) := by decide +kernel
theorem dX6_init_15 : decode cX6_init 15 = .ok (.iload_n 2, 1) := by decide +kernel
theorem dX6_init_16 : decode cX6_init 16 = .ok (.putfield 18, 3) := by decide +kernel
theorem dX6_init_19 : decode cX6_init 19 = .ok (.aload_n 0, 1) := by decide +kernel
theorem dX6_init_20 : decode cX6_init 20 = .ok (.iload_n 3, 1) := by decide +kernel
theorem dX6_init_21 : decode cX6_init 21 = .ok (.putfield 21, 3) := by decide +kernel
theorem dX6_init_24 : decode cX6_init 24 = .ok (.aload_n 0, 1) := by decide +kernel
theorem dX6_init_25 : decode cX6_init 25 = .ok (.iload 4, 2) := by decide +kernel
theorem dX6_init_27 : decode cX6_init 27 = .ok (.putfield 24, 3) := by decide +kernel
theorem dX6_init_30 : decode cX6_init 30 = .ok (.aload_n 0, 1) := by decide +kernel
theorem dX6_init_31 : decode cX6_init 31 = .ok (.iload 5, 2) := by decide +kernel
theorem dX6_init_33 : decode cX6_init 33 = .ok (.putfield 27, 3) := by decide +kernel
theorem dX6_init_36 : decode cX6_init 36 = .ok (.aload_n 0, 1) := by decide +kernel
theorem dX6_init_37 : decode cX6_init 37 = .ok (.iload 6, 2) := by decide +kernel
theorem dX6_init_39 : decode cX6_init 39 = .ok (.putfield 30, 3) := by decide +kernel
theorem dX6_init_42 : decode cX6_init 42 = .ok (.return_, 1) := by decide +kernel
theorem dX7_init_0 : decode cX7_init 0 = .ok (.aload_n 0, 1) := by decide +kernel
theorem dX7_init_1 : decode cX7_init 1 = .ok (.invokespecial 3, 3) := by decide +kernel
theorem dX7_init_4 : decode cX7_init 4 = .ok (.aload_n 0, 1) := by decide +kernel
theorem dX7_init_5 : decode cX7_init 5 = .ok (.new 9, 3) := by decide +kernel
theorem dX7_init_8 : decode cX7_init 8 = .ok (.dup, 1) := by decide +kernel
theorem dX7_init_9 : decode cX7_init 9 = .ok (.invokespecial 11, 3) := by decide +kernel
theorem dX7_init_12 : decode cX7_init 12 = .ok (.putfield 12, 3) := by decide +kernel
theorem dX7_init_15 : decode cX7_init 15 = .ok (.aload_n 0, 1) := by decide +kernel
theorem dX7_init_16 : decode cX7_init 16 = .ok (.bipush 80, 2) := by decide +kernel
theorem dX7_init_18 : decode cX7_init 18 = .ok (.putfield 18, 3) := by decide +kernel
theorem dX7_init_21 : decode cX7_init 21 = .ok (.aload_n 0, 1) := by decide +kernel
theorem dX7_init_22 : decode cX7_init 22 = .ok (.bipush 20, 2) := by decide +kernel
theorem dX7_init_24 : decode cX7_init 24 = .ok (.putfield 22, 3) := by decide +kernel
theorem dX7_init_27 : decode cX7_init 27 = .ok (.aload_n 0, 1) := by decide +kernel
theorem dX7_init_28 : decode cX7_init 28 = .ok (.bipush 10, 2) := by decide +kernel
theorem dX7_init_30 : decode cX7_init 30 = .ok (.putfield 25, 3) := by decide +kernel
theorem dX7_init_33 : decode cX7_init 33 = .ok (.aload_n 0, 1) := by decide +kernel
theorem dX7_init_34 : decode cX7_init 34 = .ok (.bipush 10, 2) := by decide +kernel
theorem dX7_init_36 : decode cX7_init 36 = .ok (.putfield 28, 3) := by decide +kernel
theorem dX7_init_39 : decode cX7_init 39 = .ok (.aload_n 0, 1) := by decide +kernel
theorem dX7_init_40 : decode cX7_init 40 = .ok (.iconst (-1), 1) := by decide +kernel
theorem dX7_init_41 : decode cX7_init 41 = .ok (.putfield 31, 3) := by decide +kernel
theorem dX7_init_44 : decode cX7_init 44 = .ok (.aload_n 0, 1) := by decide +kernel
theorem dX7_init_45 : decode cX7_init 45 = .ok (.iload_n 1, 1) := by decide +kernel
theorem dX7_init_46 : decode cX7_init 46 = .ok (.putfield 34, 3) := by decide +kernel
theorem dX7_init_49 : decode cX7_init 49 = .ok (.aload_n 0, 1) := by decide +kernel
theorem dX7_init_50 : decode cX7_init 50 = .ok (.iload_n 1, 1) := by decide +kernel
theorem dX7_init_51 : decode cX7_init 51 = .ok (.ifCond .ne 7, 3) := by decide +kernel
theorem dX7_init_54 : decode cX7_init 54 = .ok (.iconst 1, 1) := by decide +kernel
theorem dX7_init_55 : decode cX7_init 55 = .ok (.goto 4, 3) := by decide +kernel
theorem dX7_init_58 : decode cX7_init 58 = .ok (.iconst 0, 1) := by decide +kernel
theorem dX7_init_59 : decode cX7_init 59 = .ok (.putfield 37, 3) := by decide +kernel
theorem dX7_init_62 : decode cX7_init 62 = .ok (.return_, 1) := by decide +kernel
theorem dX7_measure_0 : decode cX7_measure 0 = .ok (.aload_n 0, 1) := by decide +kernel
theorem dX7_measure_1 : decode cX7_measure 1 = .ok (.iload_n 1, 1) := by decide +kernel
theorem dX7_measure_2 : decode cX7_measure 2 = .ok (.putfield 28, 3) := by decide +kernel
theorem dX7_measure_5 : decode cX7_measure 5 = .ok (.aload_n 0, 1) := by decide +kernel
theorem dX7_measure_6 : decode cX7_measure 6 = .ok (.getfield 41, 3) := by decide +kernel
theorem dX7_measure_9 : decode cX7_measure 9 = .ok (.ifCond .eq 64, 3) := by decide +kernel
theorem dX7_measure_12 : decode cX7_measure 12 = .ok (.aload_n 0, 1) := by decide +kernel
theorem dX7_measure_13 : decode cX7_measure 13 = .ok (.aload_n 0, 1) := by decide +kernel
theorem dX7_measure_14 : decode cX7_measure 14 = .ok (.getfield 25, 3) := by decide +kernel
theorem dX7_measure_17 : decode cX7_measure 17 = .ok (.iload_n 1, 1) := by decide +kernel
theorem dX7_measure_18 : decode cX7_measure 18 = .ok (.invokestatic 44, 3) := by decide +kernel
theorem dX7_measure_21 : decode cX7_measure 21 = .ok (.putfield 25, 3) := by decide +kernel
theorem dX7_measure_24 : decode cX7_measure 24 = .ok (.aload_n 0, 1) := by decide +kernel
theorem dX7_measure_25 : decode cX7_measure 25 = .ok (.dup, 1) := by decide +kernel
theorem dX7_measure_26 : decode cX7_measure 26 = .ok (.getfield 22, 3) := by decide +kernel
theorem dX7_measure_29 : decode cX7_measure 29 = .ok (.iload_n 1, 1) := by decide +kernel
theorem dX7_measure_30 : decode cX7_measure 30 = .ok (.aload_n 0, 1) := by decide +kernel
theorem dX7_measure_31 : decode cX7_measure 31 = .ok (.getfield 18, 3) := by decide +kernel
theorem dX7_measure_34 : decode cX7_measure 34 = .ok (.bipush 8, 2) := by decide +kernel
theorem dX7_measure_36 : decode cX7_measure 36 = .ok (.idiv, 1) := by decide +kernel
theorem dX7_measure_37 : decode cX7_measure 37 = .ok (.isub, 1) := by decide +kernel
theorem dX7_measure_38 : decode cX7_measure 38 = .ok (.invokestatic 50, 3) := by decide +kernel
theorem dX7_measure_41 : decode cX7_measure 41 = .ok (.aload_n 0, 1) := by decide +kernel
theorem dX7_measure_42 : decode cX7_measure 42 = .ok (.getfield 22, 3) := by decide +kernel
theorem dX7_measure_45 : decode cX7_measure 45 = .ok (.iconst 4, 1) := by decide +kernel
theorem dX7_measure_46 : decode cX7_measure 46 = .ok (.idiv, 1) := by decide +kernel
theorem dX7_measure_47 : decode cX7_measure 47 = .ok (.isub, 1) := by decide +kernel
theorem dX7_measure_48 : decode cX7_measure 48 = .ok (.iadd, 1) := by decide +kernel
theorem dX7_measure_49 : decode cX7_measure 49 = .ok (.putfield 22, 3) := by decide +kernel
theorem dX7_measure_52 : decode cX7_measure 52 = .ok (.aload_n 0, 1) := by decide +kernel
theorem dX7_measure_53 : decode cX7_measure 53 = .ok (.dup, 1) := by decide +kernel
theorem dX7_measure_54 : decode cX7_measure 54 = .ok (.getfield 18, 3) := by decide +kernel
theorem dX7_measure_57 : decode cX7_measure 57 = .ok (.iload_n 1, 1) := by decide +kernel
theorem dX7_measure_58 : decode cX7_measure 58 = .ok (.aload_n 0, 1) := by decide +kernel
theorem dX7_measure_59 : decode cX7_measure 59 = .ok (.getfield 18, 3) := by decide +kernel
theorem dX7_measure_62 : decode cX7_measure 62 = .ok (.bipush 8, 2) := by decide +kernel
theorem dX7_measure_64 : decode cX7_measure 64 = .ok (.idiv, 1) := by decide +kernel
theorem dX7_measure_65 : decode cX7_measure 65 = .ok (.isub, 1) := by decide +kernel
theorem dX7_measure_66 : decode cX7_measure 66 = .ok (.iadd, 1) := by decide +kernel
theorem dX7_measure_67 : decode cX7_measure 67 = .ok (.putfield 18, 3) := by decide +kernel
theorem dX7_measure_70 : decode cX7_measure 70 = .ok (.goto 28, 3) := by decide +kernel
theorem dX7_measure_73 : decode cX7_measure 73 = .ok (.aload_n 0, 1) := by decide +kernel
theorem dX7_measure_74 : decode cX7_measure 74 = .ok (.iconst 1, 1) := by decide +kernel
theorem dX7_measure_75 : decode cX7_measure 75 = .ok (.putfield 41, 3) := by decide +kernel
theorem dX7_measure_78 : decode cX7_measure 78 = .ok (.aload_n 0, 1) := by decide +kernel
theorem dX7_measure_79 : decode cX7_measure 79 = .ok (.iload_n 1, 1) := by decide +kernel
theorem dX7_measure_80 : decode cX7_measure 80 = .ok (.putfield 25, 3) := by decide +kernel
theorem dX7_measure_83 : decode cX7_measure 83 = .ok (.aload_n 0, 1) := by decide +kernel
theorem dX7_measure_84 : decode cX7_measure 84 = .ok (.iconst 2, 1) := by decide +kernel
theorem dX7_measure_85 : decode cX7_measure 85 = .ok (.iload_n 1, 1) := by decide +kernel
theorem dX7_measure_86 : decode cX7_measure 86 = .ok (.imul, 1) := by decide +kernel
theorem dX7_measure_87 : decode cX7_measure 87 = .ok (.putfield 22, 3) := by decide +kernel
theorem dX7_measure_90 : decode cX7_measure 90 = .ok (.aload_n 0, 1) := by decide +kernel
theorem dX7_measure_91 : decode cX7_measure 91 = .ok (.bipush 8, 2) := by decide +kernel
theorem dX7_measure_93 : decode cX7_measure 93 = .ok (.iload_n 1, 1) := by decide +kernel
theorem dX7_measure_94 : decode cX7_measure 94 = .ok (.imul, 1) := by decide +kernel
theorem dX7_measure_95 : decode cX7_measure 95 = .ok (.putfield 18, 3) := by decide +kernel
theorem dX7_measure_98 : decode cX7_measure 98 = .ok (.return_, 1) := by decide +kernel
theorem dX7_canSend_0 : decode cX7_canSend 0 = .ok (.aload_n 0, 1) := by decide +kernel
theorem dX7_canSend_1 : decode cX7_canSend 1 = .ok (.getfield 54, 3) := by decide +kernel
theorem dX7_canSend_4 : decode cX7_canSend 4 = .ok (.iconst 1, 1) := by decide +kernel
theorem dX7_canSend_5 : decode cX7_canSend 5 = .ok (.iadd, 1) := by decide +kernel
theorem dX7_canSend_6 : decode cX7_canSend 6 = .ok (.bipush 16, 2) := by decide +kernel
theorem dX7_canSend_8 : decode cX7_canSend 8 = .ok (.imul, 1) := by decide +kernel
theorem dX7_canSend_9 : decode cX7_canSend 9 = .ok (.aload_n 0, 1) := by decide +kernel
theorem dX7_canSend_10 : decode cX7_canSend 10 = .ok (.getfield 12, 3) := by decide +kernel
theorem dX7_canSend_13 : decode cX7_canSend 13 = .ok (.getfield 57, 3) := by decide +kernel
theorem dX7_canSend_16 : decode cX7_canSend 16 = .ok (.if_icmp .gt 18, 3) := by decide +kernel
theorem dX7_canSend_19 : decode cX7_canSend 19 = .ok (.aload_n 0, 1) := by decide +kernel
theorem dX7_canSend_20 : decode cX7_canSend 20 = .ok (.getfield 60, 3) := by decide +kernel
theorem dX7_canSend_23 : decode cX7_canSend 23 = .ok (.aload_n 0, 1) := by decide +kernel
theorem dX7_canSend_24 : decode cX7_canSend 24 = .ok (.invokevirtual 63, 3) := by decide +kernel
theorem dX7_canSend_27 : decode cX7_canSend 27 = .ok (.if_icmp .ge 7, 3) := by decide +kernel
theorem dX7_canSend_30 : decode cX7_canSend 30 = .ok (.iconst 1, 1) := by decide +kernel
theorem dX7_canSend_31 : decode cX7_canSend 31 = .ok (.goto 4, 3) := by decide +kernel
theorem dX7_canSend_34 : decode cX7_canSend 34 = .ok (.iconst 0, 1) := by decide +kernel
theorem dX7_canSend_35 : decode cX7_canSend 35 = .ok (.ireturn, 1) := by decide +kernel
theorem dX7_mostPerTick_0 : decode cX7_mostPerTick 0 = .ok (.aload_n 0, 1) := by decide +kernel
theorem dX7_mostPerTick_1 : decode cX7_mostPerTick 1 = .ok (.getfield 12, 3) := by decide +kernel
theorem dX7_mostPerTick_4 : decode cX7_mostPerTick 4 = .ok (.getfield 57, 3) := by decide +kernel
theorem dX7_mostPerTick_7 : decode cX7_mostPerTick 7 = .ok (.bipush 16, 2) := by decide +kernel
theorem dX7_mostPerTick_9 : decode cX7_mostPerTick 9 = .ok (.idiv, 1) := by decide +kernel
theorem dX7_mostPerTick_10 : decode cX7_mostPerTick 10 = .ok (.iconst 2, 1) := by decide +kernel
theorem dX7_mostPerTick_11 : decode cX7_mostPerTick 11 = .ok (.imul, 1) := by decide +kernel
theorem dX7_mostPerTick_12 : decode cX7_mostPerTick 12 = .ok (.istore_n 1, 1) := by decide +kernel
theorem dX7_mostPerTick_13 : decode cX7_mostPerTick 13 = .ok (.iconst 1, 1) := by decide +kernel
theorem dX7_mostPerTick_14 : decode cX7_mostPerTick 14 = .ok (.aload_n 0, 1) := by decide +kernel
theorem dX7_mostPerTick_15 : decode cX7_mostPerTick 15 = .ok (.getfield 18, 3) := by decide +kernel
theorem dX7_mostPerTick_18 : decode cX7_mostPerTick 18 = .ok (.bipush 8, 2) := by decide +kernel
theorem dX7_mostPerTick_20 : decode cX7_mostPerTick 20 = .ok (.idiv, 1) := by decide +kernel
theorem dX7_mostPerTick_21 : decode cX7_mostPerTick 21 = .ok (.invokestatic 67, 3) := by decide +kernel
theorem dX7_mostPerTick_24 : decode cX7_mostPerTick 24 = .ok (.istore_n 2, 1) := by decide +kernel
theorem dX7_mostPerTick_25 : decode cX7_mostPerTick 25 = .ok (.iconst 2, 1) := by decide +kernel
theorem dX7_mostPerTick_26 : decode cX7_mostPerTick 26 = .ok (.iload_n 1, 1) := by decide +kernel
theorem dX7_mostPerTick_27 : decode cX7_mostPerTick 27 = .ok (.iload_n 2, 1) := by decide +kernel
theorem dX7_mostPerTick_28 : decode cX7_mostPerTick 28 = .ok (.iadd, 1) := by decide +kernel
theorem dX7_mostPerTick_29 : decode cX7_mostPerTick 29 = .ok (.iconst 1, 1) := by decide +kernel
theorem dX7_mostPerTick_30 : decode cX7_mostPerTick 30 = .ok (.isub, 1) := by decide +kernel
theorem dX7_mostPerTick_31 : decode cX7_mostPerTick 31 = .ok (.iload_n 2, 1) := by decide +kernel
theorem dX7_mostPerTick_32 : decode cX7_mostPerTick 32 = .ok (.idiv, 1) := by decide +kernel
theorem dX7_mostPerTick_33 : decode cX7_mostPerTick 33 = .ok (.invokestatic 67, 3) := by decide +kernel
theorem dX7_mostPerTick_36 : decode cX7_mostPerTick 36 = .ok (.ireturn, 1) := by decide +kernel
theorem dX7_isProbeDue_0 : decode cX7_isProbeDue 0 = .ok (.aload_n 0, 1) := by decide +kernel
theorem dX7_isProbeDue_1 : decode cX7_isProbeDue 1 = .ok (.getfield 18, 3) := by decide +kernel
theorem dX7_isProbeDue_4 : decode cX7_isProbeDue 4 = .ok (.bipush 8, 2) := by decide +kernel
theorem dX7_isProbeDue_6 : decode cX7_isProbeDue 6 = .ok (.idiv, 1) := by decide +kernel
theorem dX7_isProbeDue_7 : decode cX7_isProbeDue 7 = .ok (.iconst 1, 1) := by decide +kernel
theorem dX7_isProbeDue_8 : decode cX7_isProbeDue 8 = .ok (.aload_n 0, 1) := by decide +kernel
theorem dX7_isProbeDue_9 : decode cX7_isProbeDue 9 = .ok (.getfield 22, 3) := by decide +kernel
theorem dX7_isProbeDue_12 : decode cX7_isProbeDue 12 = .ok (.invokestatic 67, 3) := by decide +kernel
theorem dX7_isProbeDue_15 : decode cX7_isProbeDue 15 = .ok (.iadd, 1) := by decide +kernel
theorem dX7_isProbeDue_16 : decode cX7_isProbeDue 16 = .ok (.iconst 3, 1) := by decide +kernel
theorem dX7_isProbeDue_17 : decode cX7_isProbeDue 17 = .ok (.iadd, 1) := by decide +kernel
theorem dX7_isProbeDue_18 : decode cX7_isProbeDue 18 = .ok (.istore_n 2, 1) := by decide +kernel
theorem dX7_isProbeDue_19 : decode cX7_isProbeDue 19 = .ok (.aload_n 0, 1) := by decide +kernel
theorem dX7_isProbeDue_20 : decode cX7_isProbeDue 20 = .ok (.getfield 54, 3) := by decide +kernel
theorem dX7_isProbeDue_23 : decode cX7_isProbeDue 23 = .ok (.ifCond .le 27, 3) := by decide +kernel
theorem dX7_isProbeDue_26 : decode cX7_isProbeDue 26 = .ok (.iload_n 1, 1) := by decide +kernel
theorem dX7_isProbeDue_27 : decode cX7_isProbeDue 27 = .ok (.aload_n 0, 1) := by decide +kernel
theorem dX7_isProbeDue_28 : decode cX7_isProbeDue 28 = .ok (.getfield 70, 3) := by decide +kernel
theorem dX7_isProbeDue_31 : decode cX7_isProbeDue 31 = .ok (.isub, 1) := by decide +kernel
theorem dX7_isProbeDue_32 : decode cX7_isProbeDue 32 = .ok (.iload_n 2, 1) := by decide +kernel
theorem dX7_isProbeDue_33 : decode cX7_isProbeDue 33 = .ok (.aload_n 0, 1) := by decide +kernel
theorem dX7_isProbeDue_34 : decode cX7_isProbeDue 34 = .ok (.getfield 73, 3) := by decide +kernel
theorem dX7_isProbeDue_37 : decode cX7_isProbeDue 37 = .ok (.bipush 6, 2) := by decide +kernel
theorem dX7_isProbeDue_39 : decode cX7_isProbeDue 39 = .ok (.invokestatic 44, 3) := by decide +kernel
theorem dX7_isProbeDue_42 : decode cX7_isProbeDue 42 = .ok (.ishl, 1) := by decide +kernel
theorem dX7_isProbeDue_43 : decode cX7_isProbeDue 43 = .ok (.if_icmp .lt 7, 3) := by decide +kernel
theorem dX7_isProbeDue_46 : decode cX7_isProbeDue 46 = .ok (.iconst 1, 1) := by decide +kernel
theorem dX7_isProbeDue_47 : decode cX7_isProbeDue 47 = .ok (.goto 4, 3) := by decide +kernel
theorem dX7_isProbeDue_50 : decode cX7_isProbeDue 50 = .ok (.iconst 0, 1) := by decide +kernel
theorem dX7_isProbeDue_51 : decode cX7_isProbeDue 51 = .ok (.ireturn, 1) := by decide +kernel
theorem dX7_isLostByOrder_0 : decode cX7_isLostByOrder 0 = .ok (.aload_n 1, 1) := by decide +kernel
theorem dX7_isLostByOrder_1 : decode cX7_isLostByOrder 1 = .ok (.getfield 76, 3) := by decide +kernel
theorem dX7_isLostByOrder_4 : decode cX7_isLostByOrder 4 = .ok (.iconst 3, 1) := by decide +kernel
theorem dX7_isLostByOrder_5 : decode cX7_isLostByOrder 5 = .ok (.iadd, 1) := by decide +kernel
theorem dX7_isLostByOrder_6 : decode cX7_isLostByOrder 6 = .ok (.aload_n 0, 1) := by decide +kernel
theorem dX7_isLostByOrder_7 : decode cX7_isLostByOrder 7 = .ok (.getfield 31, 3) := by decide +kernel
theorem dX7_isLostByOrder_10 : decode cX7_isLostByOrder 10 = .ok (.if_icmp .gt 7, 3) := by decide +kernel
theorem dX7_isLostByOrder_13 : decode cX7_isLostByOrder 13 = .ok (.iconst 1, 1) := by decide +kernel
theorem dX7_isLostByOrder_14 : decode cX7_isLostByOrder 14 = .ok (.goto 4, 3) := by decide +kernel
theorem dX7_isLostByOrder_17 : decode cX7_isLostByOrder 17 = .ok (.iconst 0, 1) := by decide +kernel
theorem dX7_isLostByOrder_18 : decode cX7_isLostByOrder 18 = .ok (.ireturn, 1) := by decide +kernel
theorem dX7_isLostByTime_0 : decode cX7_isLostByTime 0 = .ok (.iconst 1, 1) := by decide +kernel
theorem dX7_isLostByTime_1 : decode cX7_isLostByTime 1 = .ok (.bipush 9, 2) := by decide +kernel
theorem dX7_isLostByTime_3 : decode cX7_isLostByTime 3 = .ok (.aload_n 0, 1) := by decide +kernel
theorem dX7_isLostByTime_4 : decode cX7_isLostByTime 4 = .ok (.getfield 18, 3) := by decide +kernel
theorem dX7_isLostByTime_7 : decode cX7_isLostByTime 7 = .ok (.bipush 8, 2) := by decide +kernel
theorem dX7_isLostByTime_9 : decode cX7_isLostByTime 9 = .ok (.idiv, 1) := by decide +kernel
theorem dX7_isLostByTime_10 : decode cX7_isLostByTime 10 = .ok (.aload_n 0, 1) := by decide +kernel
theorem dX7_isLostByTime_11 : decode cX7_isLostByTime 11 = .ok (.getfield 28, 3) := by decide +kernel
theorem dX7_isLostByTime_14 : decode cX7_isLostByTime 14 = .ok (.invokestatic 67, 3) := by decide +kernel
theorem dX7_isLostByTime_17 : decode cX7_isLostByTime 17 = .ok (.imul, 1) := by decide +kernel
theorem dX7_isLostByTime_18 : decode cX7_isLostByTime 18 = .ok (.bipush 8, 2) := by decide +kernel
theorem dX7_isLostByTime_20 : decode cX7_isLostByTime 20 = .ok (.idiv, 1) := by decide +kernel
theorem dX7_isLostByTime_21 : decode cX7_isLostByTime 21 = .ok (.invokestatic 67, 3) := by decide +kernel
theorem dX7_isLostByTime_24 : decode cX7_isLostByTime 24 = .ok (.istore_n 3, 1) := by decide +kernel
theorem dX7_isLostByTime_25 : decode cX7_isLostByTime 25 = .ok (.aload_n 1, 1) := by decide +kernel
theorem dX7_isLostByTime_26 : decode cX7_isLostByTime 26 = .ok (.getfield 76, 3) := by decide +kernel
theorem dX7_isLostByTime_29 : decode cX7_isLostByTime 29 = .ok (.aload_n 0, 1) := by decide +kernel
theorem dX7_isLostByTime_30 : decode cX7_isLostByTime 30 = .ok (.getfield 31, 3) := by decide +kernel
theorem dX7_isLostByTime_33 : decode cX7_isLostByTime 33 = .ok (.if_icmp .ge 17, 3) := by decide +kernel
theorem dX7_isLostByTime_36 : decode cX7_isLostByTime 36 = .ok (.iload_n 2, 1) := by decide +kernel
theorem dX7_isLostByTime_37 : decode cX7_isLostByTime 37 = .ok (.aload_n 1, 1) := by decide +kernel
theorem dX7_isLostByTime_38 : decode cX7_isLostByTime 38 = .ok (.getfield 81, 3) := by decide +kernel
theorem dX7_isLostByTime_41 : decode cX7_isLostByTime 41 = .ok (.isub, 1) := by decide +kernel
theorem dX7_isLostByTime_42 : decode cX7_isLostByTime 42 = .ok (.iload_n 3, 1) := by decide +kernel
theorem dX7_isLostByTime_43 : decode cX7_isLostByTime 43 = .ok (.if_icmp .lt 7, 3) := by decide +kernel
theorem dX7_isLostByTime_46 : decode cX7_isLostByTime 46 = .ok (.iconst 1, 1) := by decide +kernel
theorem dX7_isLostByTime_47 : decode cX7_isLostByTime 47 = .ok (.goto 4, 3) := by decide +kernel
theorem dX7_isLostByTime_50 : decode cX7_isLostByTime 50 = .ok (.iconst 0, 1) := by decide +kernel
theorem dX7_isLostByTime_51 : decode cX7_isLostByTime 51 = .ok (.ireturn, 1) := by decide +kernel
theorem dX8_init_0 : decode cX8_init 0 = .ok (.aload_n 0, 1) := by decide +kernel
theorem dX8_init_1 : decode cX8_init 1 = .ok (.invokespecial 3, 3) := by decide +kernel
theorem dX8_init_4 : decode cX8_init 4 = .ok (.aload_n 0, 1) := by decide +kernel
theorem dX8_init_5 : decode cX8_init 5 = .ok (.iconst 0, 1) := by decide +kernel
theorem dX8_init_6 : decode cX8_init 6 = .ok (.putfield 9, 3) := by decide +kernel
theorem dX8_init_9 : decode cX8_init 9 = .ok (.aload_n 0, 1) := by decide +kernel
theorem dX8_init_10 : decode cX8_init 10 = .ok (.bipush 10, 2) := by decide +kernel
theorem dX8_init_12 : decode cX8_init 12 = .ok (.newarray .boolean, 2) := by decide +kernel
theorem dX8_init_14 : decode cX8_init 14 = .ok (.putfield 15, 3) := by decide +kernel
theorem dX8_init_17 : decode cX8_init 17 = .ok (.aload_n 0, 1) := by decide +kernel
theorem dX8_init_18 : decode cX8_init 18 = .ok (.iconst (-1), 1) := by decide +kernel
theorem dX8_init_19 : decode cX8_init 19 = .ok (.putfield 19, 3) := by decide +kernel
theorem dX8_init_22 : decode cX8_init 22 = .ok (.aload_n 0, 1) := by decide +kernel
theorem dX8_init_23 : decode cX8_init 23 = .ok (.sipush 400, 3) := by decide +kernel
theorem dX8_init_26 : decode cX8_init 26 = .ok (.newarray .boolean, 2) := by decide +kernel
theorem dX8_init_28 : decode cX8_init 28 = .ok (.putfield 22, 3) := by decide +kernel
theorem dX8_init_31 : decode cX8_init 31 = .ok (.aload_n 0, 1) := by decide +kernel
theorem dX8_init_32 : decode cX8_init 32 = .ok (.iconst (-1), 1) := by decide +kernel
theorem dX8_init_33 : decode cX8_init 33 = .ok (.putfield 25, 3) := by decide +kernel
theorem dX8_init_36 : decode cX8_init 36 = .ok (.aload_n 0, 1) := by decide +kernel
theorem dX8_init_37 : decode cX8_init 37 = .ok (.iconst (-1), 1) := by decide +kernel
theorem dX8_init_38 : decode cX8_init 38 = .ok (.putfield 28, 3) := by decide +kernel
theorem dX8_init_41 : decode cX8_init 41 = .ok (.aload_n 0, 1) := by decide +kernel
theorem dX8_init_42 : decode cX8_init 42 = .ok (.iconst (-1), 1) := by decide +kernel
theorem dX8_init_43 : decode cX8_init 43 = .ok (.putfield 31, 3) := by decide +kernel
theorem dX8_init_46 : decode cX8_init 46 = .ok (.aload_n 0, 1) := by decide +kernel
theorem dX8_init_47 : decode cX8_init 47 = .ok (.aload_n 1, 1) := by decide +kernel
theorem dX8_init_48 : decode cX8_init 48 = .ok (.putfield 34, 3) := by decide +kernel
theorem dX8_init_51 : decode cX8_init 51 = .ok (.aload_n 0, 1) := by decide +kernel
theorem dX8_init_52 : decode cX8_init 52 = .ok (.aload_n 2, 1) := by decide +kernel
theorem dX8_init_53 : decode cX8_init 53 = .ok (.putfield 38, 3) := by decide +kernel
theorem dX8_init_56 : decode cX8_init 56 = .ok (.return_, 1) := by decide +kernel
theorem dX8_readBytes_0 : decode cX8_readBytes 0 = .ok (.iconst 0, 1) := by decide +kernel
theorem dX8_readBytes_1 : decode cX8_readBytes 1 = .ok (.iload_n 2, 1) := by decide +kernel
theorem dX8_readBytes_2 : decode cX8_readBytes 2 = .ok (.aload_n 1, 1) := by decide +kernel
theorem dX8_readBytes_3 : decode cX8_readBytes 3 = .ok (.getfield 42, 3) := by decide +kernel
theorem dX8_readBytes_6 : decode cX8_readBytes 6 = .ok (.aload_n 1, 1) := by decide +kernel
theorem dX8_readBytes_7 : decode cX8_readBytes 7 = .ok (.getfield 47, 3) := by decide +kernel
theorem dX8_readBytes_10 : decode cX8_readBytes 10 = .ok (.isub, 1) := by decide +kernel
theorem dX8_readBytes_11 : decode cX8_readBytes 11 = .ok (.invokestatic 50, 3) := by decide +kernel
theorem dX8_readBytes_14 : decode cX8_readBytes 14 = .ok (.invokestatic 56, 3) := by decide +kernel
theorem dX8_readBytes_17 : decode cX8_readBytes 17 = .ok (.istore_n 3, 1) := by decide +kernel
theorem dX8_readBytes_18 : decode cX8_readBytes 18 = .ok (.aload_n 1, 1) := by decide +kernel
theorem dX8_readBytes_19 : decode cX8_readBytes 19 = .ok (.dup, 1) := by decide +kernel
theorem dX8_readBytes_20 : decode cX8_readBytes 20 = .ok (.getfield 47, 3) := by decide +kernel
theorem dX8_readBytes_23 : decode cX8_readBytes 23 = .ok (.iload_n 3, 1) := by decide +kernel
theorem dX8_readBytes_24 : decode cX8_readBytes 24 = .ok (.iadd, 1) := by decide +kernel
theorem dX8_readBytes_25 : decode cX8_readBytes 25 = .ok (.putfield 47, 3) := by decide +kernel
theorem dX8_readBytes_28 : decode cX8_readBytes 28 = .ok (.iload_n 3, 1) := by decide +kernel
theorem dX8_readBytes_29 : decode cX8_readBytes 29 = .ok (.ifCond .le 7, 3) := by decide +kernel
theorem dX8_readBytes_32 : decode cX8_readBytes 32 = .ok (.aload_n 0, 1) := by decide +kernel
theorem dX8_readBytes_33 : decode cX8_readBytes 33 = .ok (.invokevirtual 59, 3) := by decide +kernel
theorem dX8_readBytes_36 : decode cX8_readBytes 36 = .ok (.iload_n 3, 1) := by decide +kernel
theorem dX8_readBytes_37 : decode cX8_readBytes 37 = .ok (.ireturn, 1) := by decide +kernel
theorem dX8_forget_0 : decode cX8_forget 0 = .ok (.aload_n 0, 1) := by decide +kernel
theorem dX8_forget_1 : decode cX8_forget 1 = .ok (.iconst 3, 1) := by decide +kernel
theorem dX8_forget_2 : decode cX8_forget 2 = .ok (.putfield 9, 3) := by decide +kernel
theorem dX8_forget_5 : decode cX8_forget 5 = .ok (.aload_n 0, 1) := by decide +kernel
theorem dX8_forget_6 : decode cX8_forget 6 = .ok (.iconst 0, 1) := by decide +kernel
theorem dX8_forget_7 : decode cX8_forget 7 = .ok (.putfield 62, 3) := by decide +kernel
theorem dX8_forget_10 : decode cX8_forget 10 = .ok (.aload_n 0, 1) := by decide +kernel
theorem dX8_forget_11 : decode cX8_forget 11 = .ok (.getfield 22, 3) := by decide +kernel
theorem dX8_forget_14 : decode cX8_forget 14 = .ok (.invokestatic 66, 3) := by decide +kernel
theorem dX8_forget_17 : decode cX8_forget 17 = .ok (.aload_n 0, 1) := by decide +kernel
theorem dX8_forget_18 : decode cX8_forget 18 = .ok (.iconst (-1), 1) := by decide +kernel
theorem dX8_forget_19 : decode cX8_forget 19 = .ok (.putfield 25, 3) := by decide +kernel
theorem dX8_forget_22 : decode cX8_forget 22 = .ok (.aload_n 0, 1) := by decide +kernel
theorem dX8_forget_23 : decode cX8_forget 23 = .ok (.iconst 0, 1) := by decide +kernel
theorem dX8_forget_24 : decode cX8_forget 24 = .ok (.putfield 70, 3) := by decide +kernel
theorem dX8_forget_27 : decode cX8_forget 27 = .ok (.aload_n 0, 1) := by decide +kernel
theorem dX8_forget_28 : decode cX8_forget 28 = .ok (.iconst 0, 1) := by decide +kernel
theorem dX8_forget_29 : decode cX8_forget 29 = .ok (.putfield 73, 3) := by decide +kernel
theorem dX8_forget_32 : decode cX8_forget 32 = .ok (.aload_n 0, 1) := by decide +kernel
theorem dX8_forget_33 : decode cX8_forget 33 = .ok (.iconst (-1), 1) := by decide +kernel
theorem dX8_forget_34 : decode cX8_forget 34 = .ok (.putfield 28, 3) := by decide +kernel
theorem dX8_forget_37 : decode cX8_forget 37 = .ok (.aload_n 0, 1) := by decide +kernel
theorem dX8_forget_38 : decode cX8_forget 38 = .ok (.iconst (-1), 1) := by decide +kernel
theorem dX8_forget_39 : decode cX8_forget 39 = .ok (.putfield 31, 3) := by decide +kernel
theorem dX8_forget_42 : decode cX8_forget 42 = .ok (.return_, 1) := by decide +kernel
theorem dX8_hearAll_0 : decode cX8_hearAll 0 = .ok (.aload_n 0, 1) := by decide +kernel
theorem dX8_hearAll_1 : decode cX8_hearAll 1 = .ok (.getfield 34, 3) := by decide +kernel
theorem dX8_hearAll_4 : decode cX8_hearAll 4 = .ok (.getfield 76, 3) := by decide +kernel
theorem dX8_hearAll_7 : decode cX8_hearAll 7 = .ok (.getfield 82, 3) := by decide +kernel
theorem dX8_hearAll_10 : decode cX8_hearAll 10 = .ok (.istore_n 1, 1) := by decide +kernel
theorem dX8_hearAll_11 : decode cX8_hearAll 11 = .ok (.iload_n 1, 1) := by decide +kernel
theorem dX8_hearAll_12 : decode cX8_hearAll 12 = .ok (.ifCond .le 39, 3) := by decide +kernel
theorem dX8_hearAll_15 : decode cX8_hearAll 15 = .ok (.aload_n 0, 1) := by decide +kernel
theorem dX8_hearAll_16 : decode cX8_hearAll 16 = .ok (.getfield 34, 3) := by decide +kernel
theorem dX8_hearAll_19 : decode cX8_hearAll 19 = .ok (.getfield 76, 3) := by decide +kernel
theorem dX8_hearAll_22 : decode cX8_hearAll 22 = .ok (.aload_n 0, 1) := by decide +kernel
theorem dX8_hearAll_23 : decode cX8_hearAll 23 = .ok (.getfield 34, 3) := by decide +kernel
theorem dX8_hearAll_26 : decode cX8_hearAll 26 = .ok (.getfield 87, 3) := by decide +kernel
theorem dX8_hearAll_29 : decode cX8_hearAll 29 = .ok (.invokevirtual 90, 3) := by decide +kernel
theorem dX8_hearAll_32 : decode cX8_hearAll 32 = .ok (.astore_n 2, 1) := by decide +kernel
theorem dX8_hearAll_33 : decode cX8_hearAll 33 = .ok (.aload_n 2, 1) := by decide +kernel
theorem dX8_hearAll_34 : decode cX8_hearAll 34 = .ok (.ifnonnull 6, 3) := by decide +kernel
theorem dX8_hearAll_37 : decode cX8_hearAll 37 = .ok (.goto 14, 3) := by decide +kernel
theorem dX8_hearAll_40 : decode cX8_hearAll 40 = .ok (.aload_n 0, 1) := by decide +kernel
theorem dX8_hearAll_41 : decode cX8_hearAll 41 = .ok (.aload_n 2, 1) := by decide +kernel
theorem dX8_hearAll_42 : decode cX8_hearAll 42 = .ok (.invokevirtual 94, 3) := by decide +kernel
theorem dX8_hearAll_45 : decode cX8_hearAll 45 = .ok (.iinc 1 (-1), 3) := by decide +kernel
theorem dX8_hearAll_48 : decode cX8_hearAll 48 = .ok (.goto (-37), 3) := by decide +kernel
theorem dX8_hearAll_51 : decode cX8_hearAll 51 = .ok (.return_, 1) := by decide +kernel
theorem dX8_hear_0 : decode cX8_hear 0 = .ok (.aload_n 1, 1) := by decide +kernel
theorem dX8_hear_1 : decode cX8_hear 1 = .ok (.getfield 98, 3) := by decide +kernel
theorem dX8_hear_4 : decode cX8_hear 4 = .ok (.ifnull 11, 3) := by decide +kernel
theorem dX8_hear_7 : decode cX8_hear 7 = .ok (.aload_n 1, 1) := by decide +kernel
theorem dX8_hear_8 : decode cX8_hear 8 = .ok (.getfield 98, 3) := by decide +kernel
theorem dX8_hear_11 : decode cX8_hear 11 = .ok (.iconst 2, 1) := by decide +kernel
theorem dX8_hear_12 : decode cX8_hear 12 = .ok (.putfield 104, 3) := by decide +kernel
theorem dX8_hear_15 : decode cX8_hear 15 = .ok (.aload_n 0, 1) := by decide +kernel
theorem dX8_hear_16 : decode cX8_hear 16 = .ok (.getfield 9, 3) := by decide +kernel
theorem dX8_hear_19 : decode cX8_hear 19 = .ok (.iconst 2, 1) := by decide +kernel
theorem dX8_hear_20 : decode cX8_hear 20 = .ok (.if_icmp .ne 4, 3) := by decide +kernel
theorem dX8_hear_23 : decode cX8_hear 23 = .ok (.return_, 1) := by decide +kernel
theorem dX8_hear_24 : decode cX8_hear 24 = .ok (.aload_n 1, 1) := by decide +kernel
theorem dX8_hear_25 : decode cX8_hear 25 = .ok (.getfield 109, 3) := by decide +kernel
theorem dX8_hear_28 : decode cX8_hear 28 = .ok (.ifCond .ne 11, 3) := by decide +kernel
theorem dX8_hear_31 : decode cX8_hear 31 = .ok (.aload_n 0, 1) := by decide +kernel
theorem dX8_hear_32 : decode cX8_hear 32 = .ok (.aload_n 1, 1) := by decide +kernel
theorem dX8_hear_33 : decode cX8_hear 33 = .ok (.invokevirtual 112, 3) := by decide +kernel
theorem dX8_hear_36 : decode cX8_hear 36 = .ok (.goto 47, 3) := by decide +kernel
theorem dX8_hear_39 : decode cX8_hear 39 = .ok (.aload_n 0, 1) := by decide +kernel
theorem dX8_hear_40 : decode cX8_hear 40 = .ok (.getfield 9, 3) := by decide +kernel
theorem dX8_hear_43 : decode cX8_hear 43 = .ok (.iconst 3, 1) := by decide +kernel
theorem dX8_hear_44 : decode cX8_hear 44 = .ok (.if_icmp .ne 26, 3) := by decide +kernel
theorem dX8_hear_47 : decode cX8_hear 47 = .ok (.aload_n 0, 1) := by decide +kernel
theorem dX8_hear_48 : decode cX8_hear 48 = .ok (.getfield 34, 3) := by decide +kernel
theorem dX8_hear_51 : decode cX8_hear 51 = .ok (.aload_n 1, 1) := by decide +kernel
theorem dX8_hear_52 : decode cX8_hear 52 = .ok (.getfield 115, 3) := by decide +kernel
theorem dX8_hear_55 : decode cX8_hear 55 = .ok (.new 99, 3) := by decide +kernel
theorem dX8_hear_58 : decode cX8_hear 58 = .ok (.dup, 1) := by decide +kernel
theorem dX8_hear_59 : decode cX8_hear 59 = .ok (.bipush 8, 2) := by decide +kernel
theorem dX8_hear_61 : decode cX8_hear 61 = .ok (.invokespecial 118, 3) := by decide +kernel
theorem dX8_hear_64 : decode cX8_hear 64 = .ok (.invokevirtual 121, 3) := by decide +kernel
theorem dX8_hear_67 : decode cX8_hear 67 = .ok (.goto 16, 3) := by decide +kernel
theorem dX8_hear_70 : decode cX8_hear 70 = .ok (.aload_n 0, 1) := by decide +kernel
theorem dX8_hear_71 : decode cX8_hear 71 = .ok (.getfield 9, 3) := by decide +kernel
theorem dX8_hear_74 : decode cX8_hear 74 = .ok (.iconst 1, 1) := by decide +kernel
theorem dX8_hear_75 : decode cX8_hear 75 = .ok (.if_icmp .ne 8, 3) := by decide +kernel
theorem dX8_hear_78 : decode cX8_hear 78 = .ok (.aload_n 0, 1) := by decide +kernel
theorem dX8_hear_79 : decode cX8_hear 79 = .ok (.aload_n 1, 1) := by decide +kernel
theorem dX8_hear_80 : decode cX8_hear 80 = .ok (.invokevirtual 125, 3) := by decide +kernel
theorem dX8_hear_83 : decode cX8_hear 83 = .ok (.return_, 1) := by decide +kernel
theorem dX8_hearHello_0 : decode cX8_hearHello 0 = .ok (.aload_n 0, 1) := by decide +kernel
theorem dX8_hearHello_1 : decode cX8_hearHello 1 = .ok (.getfield 9, 3) := by decide +kernel
theorem dX8_hearHello_4 : decode cX8_hearHello 4 = .ok (.iconst 1, 1) := by decide +kernel
theorem dX8_hearHello_5 : decode cX8_hearHello 5 = .ok (.if_icmp .eq 54, 3) := by decide +kernel
theorem dX8_hearHello_8 : decode cX8_hearHello 8 = .ok (.aload_n 0, 1) := by decide +kernel
theorem dX8_hearHello_9 : decode cX8_hearHello 9 = .ok (.getfield 128, 3) := by decide +kernel
theorem dX8_hearHello_12 : decode cX8_hearHello 12 = .ok (.ifCond .eq 30, 3) := by decide +kernel
theorem dX8_hearHello_15 : decode cX8_hearHello 15 = .ok (.aload_n 1, 1) := by decide +kernel
theorem dX8_hearHello_16 : decode cX8_hearHello 16 = .ok (.getfield 131, 3) := by decide +kernel
theorem dX8_hearHello_19 : decode cX8_hearHello 19 = .ok (.ifCond .ne 23, 3) := by decide +kernel
theorem dX8_hearHello_22 : decode cX8_hearHello 22 = .ok (.aload_n 0, 1) := by decide +kernel
theorem dX8_hearHello_23 : decode cX8_hearHello 23 = .ok (.getfield 34, 3) := by decide +kernel
theorem dX8_hearHello_26 : decode cX8_hearHello 26 = .ok (.aload_n 1, 1) := by decide +kernel
theorem dX8_hearHello_27 : decode cX8_hearHello 27 = .ok (.getfield 115, 3) := by decide +kernel
theorem dX8_hearHello_30 : decode cX8_hearHello 30 = .ok (.new 99, 3) := by decide +kernel
theorem dX8_hearHello_33 : decode cX8_hearHello 33 = .ok (.dup, 1) := by decide +kernel
theorem dX8_hearHello_34 : decode cX8_hearHello 34 = .ok (.iconst 1, 1) := by decide +kernel
theorem dX8_hearHello_35 : decode cX8_hearHello 35 = .ok (.invokespecial 118, 3) := by decide +kernel
theorem dX8_hearHello_38 : decode cX8_hearHello 38 = .ok (.invokevirtual 121, 3) := by decide +kernel
theorem dX8_hearHello_41 : decode cX8_hearHello 41 = .ok (.return_, 1) := by decide +kernel
theorem dX8_hearHello_42 : decode cX8_hearHello 42 = .ok (.aload_n 0, 1) := by decide +kernel
theorem dX8_hearHello_43 : decode cX8_hearHello 43 = .ok (.iconst 1, 1) := by decide +kernel
theorem dX8_hearHello_44 : decode cX8_hearHello 44 = .ok (.putfield 9, 3) := by decide +kernel
theorem dX8_hearHello_47 : decode cX8_hearHello 47 = .ok (.aload_n 0, 1) := by decide +kernel
theorem dX8_hearHello_48 : decode cX8_hearHello 48 = .ok (.aload_n 0, 1) := by decide +kernel
theorem dX8_hearHello_49 : decode cX8_hearHello 49 = .ok (.aload_n 1, 1) := by decide +kernel
theorem dX8_hearHello_50 : decode cX8_hearHello 50 = .ok (.getfield 134, 3) := by decide +kernel
theorem dX8_hearHello_53 : decode cX8_hearHello 53 = .ok (.invokevirtual 137, 3) := by decide +kernel
theorem dX8_hearHello_56 : decode cX8_hearHello 56 = .ok (.putfield 62, 3) := by decide +kernel
theorem dX8_hearHello_59 : decode cX8_hearHello 59 = .ok (.new 99, 3) := by decide +kernel
theorem dX8_hearHello_62 : decode cX8_hearHello 62 = .ok (.dup, 1) := by decide +kernel
theorem dX8_hearHello_63 : decode cX8_hearHello 63 = .ok (.iconst 2, 1) := by decide +kernel
theorem dX8_hearHello_64 : decode cX8_hearHello 64 = .ok (.invokespecial 118, 3) := by decide +kernel
theorem dX8_hearHello_67 : decode cX8_hearHello 67 = .ok (.astore_n 2, 1) := by decide +kernel
theorem dX8_hearHello_68 : decode cX8_hearHello 68 = .ok (.aload_n 2, 1) := by decide +kernel
theorem dX8_hearHello_69 : decode cX8_hearHello 69 = .ok (.aload_n 0, 1) := by decide +kernel
theorem dX8_hearHello_70 : decode cX8_hearHello 70 = .ok (.getfield 62, 3) := by decide +kernel
theorem dX8_hearHello_73 : decode cX8_hearHello 73 = .ok (.putfield 141, 3) := by decide +kernel
theorem dX8_hearHello_76 : decode cX8_hearHello 76 = .ok (.aload_n 0, 1) := by decide +kernel
theorem dX8_hearHello_77 : decode cX8_hearHello 77 = .ok (.getfield 34, 3) := by decide +kernel
theorem dX8_hearHello_80 : decode cX8_hearHello 80 = .ok (.aload_n 1, 1) := by decide +kernel
theorem dX8_hearHello_81 : decode cX8_hearHello 81 = .ok (.getfield 115, 3) := by decide +kernel
theorem dX8_hearHello_84 : decode cX8_hearHello 84 = .ok (.aload_n 2, 1) := by decide +kernel
theorem dX8_hearHello_85 : decode cX8_hearHello 85 = .ok (.invokevirtual 121, 3) := by decide +kernel
theorem dX8_hearHello_88 : decode cX8_hearHello 88 = .ok (.return_, 1) := by decide +kernel
theorem dX8_useTicket_0 : decode cX8_useTicket 0 = .ok (.iload_n 1, 1) := by decide +kernel
theorem dX8_useTicket_1 : decode cX8_useTicket 1 = .ok (.ifCond .lt 18, 3) := by decide +kernel
theorem dX8_useTicket_4 : decode cX8_useTicket 4 = .ok (.iload_n 1, 1) := by decide +kernel
theorem dX8_useTicket_5 : decode cX8_useTicket 5 = .ok (.bipush 10, 2) := by decide +kernel
theorem dX8_useTicket_7 : decode cX8_useTicket 7 = .ok (.if_icmp .ge 12, 3) := by decide +kernel
theorem dX8_useTicket_10 : decode cX8_useTicket 10 = .ok (.aload_n 0, 1) := by decide +kernel
theorem dX8_useTicket_11 : decode cX8_useTicket 11 = .ok (.getfield 15, 3) := by decide +kernel
theorem dX8_useTicket_14 : decode cX8_useTicket 14 = .ok (.iload_n 1, 1) := by decide +kernel
theorem dX8_useTicket_15 : decode cX8_useTicket 15 = .ok (.baload, 1) := by decide +kernel
theorem dX8_useTicket_16 : decode cX8_useTicket 16 = .ok (.ifCond .eq 5, 3) := by decide +kernel
theorem dX8_useTicket_19 : decode cX8_useTicket 19 = .ok (.iconst 0, 1) := by decide +kernel
theorem dX8_useTicket_20 : decode cX8_useTicket 20 = .ok (.ireturn, 1) := by decide +kernel
theorem dX8_useTicket_21 : decode cX8_useTicket 21 = .ok (.aload_n 0, 1) := by decide +kernel
theorem dX8_useTicket_22 : decode cX8_useTicket 22 = .ok (.getfield 15, 3) := by decide +kernel
theorem dX8_useTicket_25 : decode cX8_useTicket 25 = .ok (.iload_n 1, 1) := by decide +kernel
theorem dX8_useTicket_26 : decode cX8_useTicket 26 = .ok (.iconst 1, 1) := by decide +kernel
theorem dX8_useTicket_27 : decode cX8_useTicket 27 = .ok (.bastore, 1) := by decide +kernel
theorem dX8_useTicket_28 : decode cX8_useTicket 28 = .ok (.iconst 1, 1) := by decide +kernel
theorem dX8_useTicket_29 : decode cX8_useTicket 29 = .ok (.ireturn, 1) := by decide +kernel
theorem dX8_hearWhenEstablished_0 : decode cX8_hearWhenEstablished 0 = .ok (.aload_n 1, 1) := by decide +kernel
theorem dX8_hearWhenEstablished_1 : decode cX8_hearWhenEstablished 1 = .ok (.getfield 109, 3) := by decide +kernel
theorem dX8_hearWhenEstablished_4 : decode cX8_hearWhenEstablished 4 = .ok (.iconst 5, 1) := by decide +kernel
theorem dX8_hearWhenEstablished_5 : decode cX8_hearWhenEstablished 5 = .ok (.if_icmp .ne 26, 3) := by decide +kernel
theorem dX8_hearWhenEstablished_8 : decode cX8_hearWhenEstablished 8 = .ok (.aload_n 0, 1) := by decide +kernel
theorem dX8_hearWhenEstablished_9 : decode cX8_hearWhenEstablished 9 = .ok (.getfield 34, 3) := by decide +kernel
theorem dX8_hearWhenEstablished_12 : decode cX8_hearWhenEstablished 12 = .ok (.aload_n 1, 1) := by decide +kernel
theorem dX8_hearWhenEstablished_13 : decode cX8_hearWhenEstablished 13 = .ok (.getfield 115, 3) := by decide +kernel
theorem dX8_hearWhenEstablished_16 : decode cX8_hearWhenEstablished 16 = .ok (.new 99, 3) := by decide +kernel
theorem dX8_hearWhenEstablished_19 : decode cX8_hearWhenEstablished 19 = .ok (.dup, 1) := by decide +kernel
theorem dX8_hearWhenEstablished_20 : decode cX8_hearWhenEstablished 20 = .ok (.bipush 6, 2) := by decide +kernel
theorem dX8_hearWhenEstablished_22 : decode cX8_hearWhenEstablished 22 = .ok (.invokespecial 118, 3) := by decide +kernel
theorem dX8_hearWhenEstablished_25 : decode cX8_hearWhenEstablished 25 = .ok (.invokevirtual 121, 3) := by decide +kernel
theorem dX8_hearWhenEstablished_28 : decode cX8_hearWhenEstablished 28 = .ok (.goto 43, 3) := by decide +kernel
theorem dX8_hearWhenEstablished_31 : decode cX8_hearWhenEstablished 31 = .ok (.aload_n 1, 1) := by decide +kernel
theorem dX8_hearWhenEstablished_32 : decode cX8_hearWhenEstablished 32 = .ok (.getfield 109, 3) := by decide +kernel
theorem dX8_hearWhenEstablished_35 : decode cX8_hearWhenEstablished 35 = .ok (.bipush 7, 2) := by decide +kernel
theorem dX8_hearWhenEstablished_37 : decode cX8_hearWhenEstablished 37 = .ok (.if_icmp .ne 11, 3) := by decide +kernel
theorem dX8_hearWhenEstablished_40 : decode cX8_hearWhenEstablished 40 = .ok (.aload_n 0, 1) := by decide +kernel
theorem dX8_hearWhenEstablished_41 : decode cX8_hearWhenEstablished 41 = .ok (.iconst 2, 1) := by decide +kernel
theorem dX8_hearWhenEstablished_42 : decode cX8_hearWhenEstablished 42 = .ok (.putfield 9, 3) := by decide +kernel
theorem dX8_hearWhenEstablished_45 : decode cX8_hearWhenEstablished 45 = .ok (.goto 26, 3) := by decide +kernel
theorem dX8_hearWhenEstablished_48 : decode cX8_hearWhenEstablished 48 = .ok (.aload_n 1, 1) := by decide +kernel
theorem dX8_hearWhenEstablished_49 : decode cX8_hearWhenEstablished 49 = .ok (.getfield 98, 3) := by decide +kernel
theorem dX8_hearWhenEstablished_52 : decode cX8_hearWhenEstablished 52 = .ok (.ifnull 19, 3) := by decide +kernel
theorem dX8_hearWhenEstablished_55 : decode cX8_hearWhenEstablished 55 = .ok (.aload_n 0, 1) := by decide +kernel
theorem dX8_hearWhenEstablished_56 : decode cX8_hearWhenEstablished 56 = .ok (.aload_n 1, 1) := by decide +kernel
theorem dX8_hearWhenEstablished_57 : decode cX8_hearWhenEstablished 57 = .ok (.getfield 115, 3) := by decide +kernel
theorem dX8_hearWhenEstablished_60 : decode cX8_hearWhenEstablished 60 = .ok (.putfield 31, 3) := by decide +kernel
theorem dX8_hearWhenEstablished_63 : decode cX8_hearWhenEstablished 63 = .ok (.aload_n 0, 1) := by decide +kernel
theorem dX8_hearWhenEstablished_64 : decode cX8_hearWhenEstablished 64 = .ok (.aload_n 1, 1) := by decide +kernel
theorem dX8_hearWhenEstablished_65 : decode cX8_hearWhenEstablished 65 = .ok (.getfield 98, 3) := by decide +kernel
theorem dX8_hearWhenEstablished_68 : decode cX8_hearWhenEstablished 68 = .ok (.invokevirtual 142, 3) := by decide +kernel
theorem dX8_hearWhenEstablished_71 : decode cX8_hearWhenEstablished 71 = .ok (.return_, 1) := by decide +kernel
theorem dX8_hearData_0 : decode cX8_hearData 0 = .ok (.aload_n 1, 1) := by decide +kernel
theorem dX8_hearData_1 : decode cX8_hearData 1 = .ok (.getfield 146, 3) := by decide +kernel
theorem dX8_hearData_4 : decode cX8_hearData 4 = .ok (.ifCond .eq 14, 3) := by decide +kernel
theorem dX8_hearData_7 : decode cX8_hearData 7 = .ok (.aload_n 0, 1) := by decide +kernel
theorem dX8_hearData_8 : decode cX8_hearData 8 = .ok (.getfield 62, 3) := by decide +kernel
theorem dX8_hearData_11 : decode cX8_hearData 11 = .ok (.ifCond .ne 7, 3) := by decide +kernel
theorem dX8_hearData_14 : decode cX8_hearData 14 = .ok (.iconst 1, 1) := by decide +kernel
theorem dX8_hearData_15 : decode cX8_hearData 15 = .ok (.goto 4, 3) := by decide +kernel
theorem dX8_hearData_18 : decode cX8_hearData 18 = .ok (.iconst 0, 1) := by decide +kernel
theorem dX8_hearData_19 : decode cX8_hearData 19 = .ok (.istore_n 2, 1) := by decide +kernel
theorem dX8_hearData_20 : decode cX8_hearData 20 = .ok (.aload_n 1, 1) := by decide +kernel
theorem dX8_hearData_21 : decode cX8_hearData 21 = .ok (.getfield 149, 3) := by decide +kernel
theorem dX8_hearData_24 : decode cX8_hearData 24 = .ok (.istore_n 3, 1) := by decide +kernel
theorem dX8_hearData_25 : decode cX8_hearData 25 = .ok (.iload_n 2, 1) := by decide +kernel
theorem dX8_hearData_26 : decode cX8_hearData 26 = .ok (.ifCond .ne 25, 3) := by decide +kernel
theorem dX8_hearData_29 : decode cX8_hearData 29 = .ok (.aload_n 0, 1) := by decide +kernel
theorem dX8_hearData_30 : decode cX8_hearData 30 = .ok (.aload_n 1, 1) := by decide +kernel
theorem dX8_hearData_31 : decode cX8_hearData 31 = .ok (.getfield 152, 3) := by decide +kernel
theorem dX8_hearData_34 : decode cX8_hearData 34 = .ok (.invokevirtual 155, 3) := by decide +kernel
theorem dX8_hearData_37 : decode cX8_hearData 37 = .ok (.ifCond .eq 14, 3) := by decide +kernel
theorem dX8_hearData_40 : decode cX8_hearData 40 = .ok (.iload_n 3, 1) := by decide +kernel
theorem dX8_hearData_41 : decode cX8_hearData 41 = .ok (.ifCond .lt 10, 3) := by decide +kernel
theorem dX8_hearData_44 : decode cX8_hearData 44 = .ok (.iload_n 3, 1) := by decide +kernel
theorem dX8_hearData_45 : decode cX8_hearData 45 = .ok (.sipush 400, 3) := by decide +kernel
theorem dX8_hearData_48 : decode cX8_hearData 48 = .ok (.if_icmp .lt 4, 3) := by decide +kernel
theorem dX8_hearData_51 : decode cX8_hearData 51 = .ok (.return_, 1) := by decide +kernel
theorem dX8_hearData_52 : decode cX8_hearData 52 = .ok (.aload_n 1, 1) := by decide +kernel
theorem dX8_hearData_53 : decode cX8_hearData 53 = .ok (.iconst 1, 1) := by decide +kernel
theorem dX8_hearData_54 : decode cX8_hearData 54 = .ok (.putfield 104, 3) := by decide +kernel
theorem dX8_hearData_57 : decode cX8_hearData 57 = .ok (.aload_n 1, 1) := by decide +kernel
theorem dX8_hearData_58 : decode cX8_hearData 58 = .ok (.getfield 158, 3) := by decide +kernel
theorem dX8_hearData_61 : decode cX8_hearData 61 = .ok (.ifCond .lt 31, 3) := by decide +kernel
theorem dX8_hearData_64 : decode cX8_hearData 64 = .ok (.aload_n 1, 1) := by decide +kernel
theorem dX8_hearData_65 : decode cX8_hearData 65 = .ok (.getfield 158, 3) := by decide +kernel
theorem dX8_hearData_68 : decode cX8_hearData 68 = .ok (.iconst 4, 1) := by decide +kernel
theorem dX8_hearData_69 : decode cX8_hearData 69 = .ok (.if_icmp .ge 23, 3) := by decide +kernel
theorem dX8_hearData_72 : decode cX8_hearData 72 = .ok (.aload_n 0, 1) := by decide +kernel
theorem dX8_hearData_73 : decode cX8_hearData 73 = .ok (.getfield 38, 3) := by decide +kernel
theorem dX8_hearData_76 : decode cX8_hearData 76 = .ok (.aload_n 1, 1) := by decide +kernel
theorem dX8_hearData_77 : decode cX8_hearData 77 = .ok (.getfield 158, 3) := by decide +kernel
theorem dX8_hearData_80 : decode cX8_hearData 80 = .ok (.aaload, 1) := by decide +kernel
theorem dX8_hearData_81 : decode cX8_hearData 81 = .ok (.aload_n 1, 1) := by decide +kernel
theorem dX8_hearData_82 : decode cX8_hearData 82 = .ok (.getfield 161, 3) := by decide +kernel
theorem dX8_hearData_85 : decode cX8_hearData 85 = .ok (.aload_n 1, 1) := by decide +kernel
theorem dX8_hearData_86 : decode cX8_hearData 86 = .ok (.getfield 164, 3) := by decide +kernel
theorem dX8_hearData_89 : decode cX8_hearData 89 = .ok (.invokevirtual 167, 3) := by decide +kernel
theorem dX8_hearData_92 : decode cX8_hearData 92 = .ok (.aload_n 1, 1) := by decide +kernel
theorem dX8_hearData_93 : decode cX8_hearData 93 = .ok (.getfield 171, 3) := by decide +kernel
theorem dX8_hearData_96 : decode cX8_hearData 96 = .ok (.ifCond .ne 20, 3) := by decide +kernel
theorem dX8_hearData_99 : decode cX8_hearData 99 = .ok (.iload_n 3, 1) := by decide +kernel
theorem dX8_hearData_100 : decode cX8_hearData 100 = .ok (.aload_n 0, 1) := by decide +kernel
theorem dX8_hearData_101 : decode cX8_hearData 101 = .ok (.getfield 25, 3) := by decide +kernel
theorem dX8_hearData_104 : decode cX8_hearData 104 = .ok (.iconst 1, 1) := by decide +kernel
theorem dX8_hearData_105 : decode cX8_hearData 105 = .ok (.iadd, 1) := by decide +kernel
theorem dX8_hearData_106 : decode cX8_hearData 106 = .ok (.if_icmp .ne 10, 3) := by decide +kernel
theorem dX8_hearData_109 : decode cX8_hearData 109 = .ok (.aload_n 0, 1) := by decide +kernel
theorem dX8_hearData_110 : decode cX8_hearData 110 = .ok (.getfield 73, 3) := by decide +kernel
theorem dX8_hearData_113 : decode cX8_hearData 113 = .ok (.ifCond .le 7, 3) := by decide +kernel
theorem dX8_hearData_116 : decode cX8_hearData 116 = .ok (.iconst 1, 1) := by decide +kernel
theorem dX8_hearData_117 : decode cX8_hearData 117 = .ok (.goto 4, 3) := by decide +kernel
theorem dX8_hearData_120 : decode cX8_hearData 120 = .ok (.iconst 0, 1) := by decide +kernel
theorem dX8_hearData_121 : decode cX8_hearData 121 = .ok (.istore 4, 2) := by decide +kernel
theorem dX8_hearData_123 : decode cX8_hearData 123 = .ok (.aload_n 0, 1) := by decide +kernel
theorem dX8_hearData_124 : decode cX8_hearData 124 = .ok (.getfield 22, 3) := by decide +kernel
theorem dX8_hearData_127 : decode cX8_hearData 127 = .ok (.iload_n 3, 1) := by decide +kernel
theorem dX8_hearData_128 : decode cX8_hearData 128 = .ok (.iconst 1, 1) := by decide +kernel
theorem dX8_hearData_129 : decode cX8_hearData 129 = .ok (.bastore, 1) := by decide +kernel
theorem dX8_hearData_130 : decode cX8_hearData 130 = .ok (.aload_n 0, 1) := by decide +kernel
theorem dX8_hearData_131 : decode cX8_hearData 131 = .ok (.aload_n 0, 1) := by decide +kernel
theorem dX8_hearData_132 : decode cX8_hearData 132 = .ok (.getfield 25, 3) := by decide +kernel
theorem dX8_hearData_135 : decode cX8_hearData 135 = .ok (.iload_n 3, 1) := by decide +kernel
theorem dX8_hearData_136 : decode cX8_hearData 136 = .ok (.invokestatic 56, 3) := by decide +kernel
theorem dX8_hearData_139 : decode cX8_hearData 139 = .ok (.putfield 25, 3) := by decide +kernel
theorem dX8_hearData_142 : decode cX8_hearData 142 = .ok (.aload_n 0, 1) := by decide +kernel
theorem dX8_hearData_143 : decode cX8_hearData 143 = .ok (.dup, 1) := by decide +kernel
theorem dX8_hearData_144 : decode cX8_hearData 144 = .ok (.getfield 73, 3) := by decide +kernel
theorem dX8_hearData_147 : decode cX8_hearData 147 = .ok (.iconst 1, 1) := by decide +kernel
theorem dX8_hearData_148 : decode cX8_hearData 148 = .ok (.iadd, 1) := by decide +kernel
theorem dX8_hearData_149 : decode cX8_hearData 149 = .ok (.putfield 73, 3) := by decide +kernel
theorem dX8_hearData_152 : decode cX8_hearData 152 = .ok (.aload_n 1, 1) := by decide +kernel
theorem dX8_hearData_153 : decode cX8_hearData 153 = .ok (.getfield 174, 3) := by decide +kernel
theorem dX8_hearData_156 : decode cX8_hearData 156 = .ok (.ifCond .eq 13, 3) := by decide +kernel
theorem dX8_hearData_159 : decode cX8_hearData 159 = .ok (.aload_n 0, 1) := by decide +kernel
theorem dX8_hearData_160 : decode cX8_hearData 160 = .ok (.dup, 1) := by decide +kernel
theorem dX8_hearData_161 : decode cX8_hearData 161 = .ok (.getfield 70, 3) := by decide +kernel
theorem dX8_hearData_164 : decode cX8_hearData 164 = .ok (.iconst 1, 1) := by decide +kernel
theorem dX8_hearData_165 : decode cX8_hearData 165 = .ok (.iadd, 1) := by decide +kernel
theorem dX8_hearData_166 : decode cX8_hearData 166 = .ok (.putfield 70, 3) := by decide +kernel
theorem dX8_hearData_169 : decode cX8_hearData 169 = .ok (.iload 4, 2) := by decide +kernel
theorem dX8_hearData_171 : decode cX8_hearData 171 = .ok (.ifCond .eq 10, 3) := by decide +kernel
theorem dX8_hearData_174 : decode cX8_hearData 174 = .ok (.aload_n 0, 1) := by decide +kernel
theorem dX8_hearData_175 : decode cX8_hearData 175 = .ok (.invokevirtual 59, 3) := by decide +kernel
theorem dX8_hearData_178 : decode cX8_hearData 178 = .ok (.goto 16, 3) := by decide +kernel
theorem dX8_hearData_181 : decode cX8_hearData 181 = .ok (.aload_n 0, 1) := by decide +kernel
theorem dX8_hearData_182 : decode cX8_hearData 182 = .ok (.aload_n 0, 1) := by decide +kernel
theorem dX8_hearData_183 : decode cX8_hearData 183 = .ok (.getfield 34, 3) := by decide +kernel
theorem dX8_hearData_186 : decode cX8_hearData 186 = .ok (.getfield 87, 3) := by decide +kernel
theorem dX8_hearData_189 : decode cX8_hearData 189 = .ok (.iconst 3, 1) := by decide +kernel
theorem dX8_hearData_190 : decode cX8_hearData 190 = .ok (.iadd, 1) := by decide +kernel
theorem dX8_hearData_191 : decode cX8_hearData 191 = .ok (.putfield 28, 3) := by decide +kernel
theorem dX8_hearData_194 : decode cX8_hearData 194 = .ok (.return_, 1) := by decide +kernel
theorem dX8_takesKey_0 : decode cX8_takesKey 0 = .ok (.iload_n 1, 1) := by decide +kernel
theorem dX8_takesKey_1 : decode cX8_takesKey 1 = .ok (.aload_n 0, 1) := by decide +kernel
theorem dX8_takesKey_2 : decode cX8_takesKey 2 = .ok (.getfield 177, 3) := by decide +kernel
theorem dX8_takesKey_5 : decode cX8_takesKey 5 = .ok (.if_icmp .le 30, 3) := by decide +kernel
theorem dX8_takesKey_8 : decode cX8_takesKey 8 = .ok (.aload_n 0, 1) := by decide +kernel
theorem dX8_takesKey_9 : decode cX8_takesKey 9 = .ok (.aload_n 0, 1) := by decide +kernel
theorem dX8_takesKey_10 : decode cX8_takesKey 10 = .ok (.getfield 177, 3) := by decide +kernel
theorem dX8_takesKey_13 : decode cX8_takesKey 13 = .ok (.putfield 19, 3) := by decide +kernel
theorem dX8_takesKey_16 : decode cX8_takesKey 16 = .ok (.aload_n 0, 1) := by decide +kernel
theorem dX8_takesKey_17 : decode cX8_takesKey 17 = .ok (.aload_n 0, 1) := by decide +kernel
theorem dX8_takesKey_18 : decode cX8_takesKey 18 = .ok (.getfield 34, 3) := by decide +kernel
theorem dX8_takesKey_21 : decode cX8_takesKey 21 = .ok (.getfield 87, 3) := by decide +kernel
theorem dX8_takesKey_24 : decode cX8_takesKey 24 = .ok (.bipush 8, 2) := by decide +kernel
theorem dX8_takesKey_26 : decode cX8_takesKey 26 = .ok (.iadd, 1) := by decide +kernel
theorem dX8_takesKey_27 : decode cX8_takesKey 27 = .ok (.putfield 178, 3) := by decide +kernel
theorem dX8_takesKey_30 : decode cX8_takesKey 30 = .ok (.aload_n 0, 1) := by decide +kernel
theorem dX8_takesKey_31 : decode cX8_takesKey 31 = .ok (.iload_n 1, 1) := by decide +kernel
theorem dX8_takesKey_32 : decode cX8_takesKey 32 = .ok (.putfield 177, 3) := by decide +kernel
theorem dX8_takesKey_35 : decode cX8_takesKey 35 = .ok (.iload_n 1, 1) := by decide +kernel
theorem dX8_takesKey_36 : decode cX8_takesKey 36 = .ok (.aload_n 0, 1) := by decide +kernel
theorem dX8_takesKey_37 : decode cX8_takesKey 37 = .ok (.getfield 177, 3) := by decide +kernel
theorem dX8_takesKey_40 : decode cX8_takesKey 40 = .ok (.if_icmp .eq 25, 3) := by decide +kernel
theorem dX8_takesKey_43 : decode cX8_takesKey 43 = .ok (.iload_n 1, 1) := by decide +kernel
theorem dX8_takesKey_44 : decode cX8_takesKey 44 = .ok (.aload_n 0, 1) := by decide +kernel
theorem dX8_takesKey_45 : decode cX8_takesKey 45 = .ok (.getfield 19, 3) := by decide +kernel
theorem dX8_takesKey_48 : decode cX8_takesKey 48 = .ok (.if_icmp .ne 21, 3) := by decide +kernel
theorem dX8_takesKey_51 : decode cX8_takesKey 51 = .ok (.aload_n 0, 1) := by decide +kernel
theorem dX8_takesKey_52 : decode cX8_takesKey 52 = .ok (.getfield 34, 3) := by decide +kernel
theorem dX8_takesKey_55 : decode cX8_takesKey 55 = .ok (.getfield 87, 3) := by decide +kernel
theorem dX8_takesKey_58 : decode cX8_takesKey 58 = .ok (.aload_n 0, 1) := by decide +kernel
theorem dX8_takesKey_59 : decode cX8_takesKey 59 = .ok (.getfield 178, 3) := by decide +kernel
theorem dX8_takesKey_62 : decode cX8_takesKey 62 = .ok (.if_icmp .ge 7, 3) := by decide +kernel
theorem dX8_takesKey_65 : decode cX8_takesKey 65 = .ok (.iconst 1, 1) := by decide +kernel
theorem dX8_takesKey_66 : decode cX8_takesKey 66 = .ok (.goto 4, 3) := by decide +kernel
theorem dX8_takesKey_69 : decode cX8_takesKey 69 = .ok (.iconst 0, 1) := by decide +kernel
theorem dX8_takesKey_70 : decode cX8_takesKey 70 = .ok (.ireturn, 1) := by decide +kernel
theorem dX8_acknowledgeInTime_0 : decode cX8_acknowledgeInTime 0 = .ok (.aload_n 0, 1) := by decide +kernel
theorem dX8_acknowledgeInTime_1 : decode cX8_acknowledgeInTime 1 = .ok (.getfield 34, 3) := by decide +kernel
theorem dX8_acknowledgeInTime_4 : decode cX8_acknowledgeInTime 4 = .ok (.getfield 87, 3) := by decide +kernel
theorem dX8_acknowledgeInTime_7 : decode cX8_acknowledgeInTime 7 = .ok (.aload_n 0, 1) := by decide +kernel
theorem dX8_acknowledgeInTime_8 : decode cX8_acknowledgeInTime 8 = .ok (.getfield 28, 3) := by decide +kernel
theorem dX8_acknowledgeInTime_11 : decode cX8_acknowledgeInTime 11 = .ok (.if_icmp .eq 16, 3) := by decide +kernel
theorem dX8_acknowledgeInTime_14 : decode cX8_acknowledgeInTime 14 = .ok (.aload_n 0, 1) := by decide +kernel
theorem dX8_acknowledgeInTime_15 : decode cX8_acknowledgeInTime 15 = .ok (.getfield 34, 3) := by decide +kernel
theorem dX8_acknowledgeInTime_18 : decode cX8_acknowledgeInTime 18 = .ok (.getfield 87, 3) := by decide +kernel
theorem dX8_acknowledgeInTime_21 : decode cX8_acknowledgeInTime 21 = .ok (.bipush 20, 2) := by decide +kernel
theorem dX8_acknowledgeInTime_23 : decode cX8_acknowledgeInTime 23 = .ok (.irem, 1) := by decide +kernel
theorem dX8_acknowledgeInTime_24 : decode cX8_acknowledgeInTime 24 = .ok (.ifCond .ne 7, 3) := by decide +kernel
theorem dX8_acknowledgeInTime_27 : decode cX8_acknowledgeInTime 27 = .ok (.aload_n 0, 1) := by decide +kernel
theorem dX8_acknowledgeInTime_28 : decode cX8_acknowledgeInTime 28 = .ok (.invokevirtual 59, 3) := by decide +kernel
theorem dX8_acknowledgeInTime_31 : decode cX8_acknowledgeInTime 31 = .ok (.return_, 1) := by decide +kernel
theorem dX8_acknowledge_0 : decode cX8_acknowledge 0 = .ok (.aload_n 0, 1) := by decide +kernel
theorem dX8_acknowledge_1 : decode cX8_acknowledge 1 = .ok (.getfield 9, 3) := by decide +kernel
theorem dX8_acknowledge_4 : decode cX8_acknowledge 4 = .ok (.iconst 1, 1) := by decide +kernel
theorem dX8_acknowledge_5 : decode cX8_acknowledge 5 = .ok (.if_icmp .ne 11, 3) := by decide +kernel
theorem dX8_acknowledge_8 : decode cX8_acknowledge 8 = .ok (.aload_n 0, 1) := by decide +kernel
theorem dX8_acknowledge_9 : decode cX8_acknowledge 9 = .ok (.getfield 31, 3) := by decide +kernel
theorem dX8_acknowledge_12 : decode cX8_acknowledge 12 = .ok (.iconst (-1), 1) := by decide +kernel
theorem dX8_acknowledge_13 : decode cX8_acknowledge 13 = .ok (.if_icmp .ne 4, 3) := by decide +kernel
theorem dX8_acknowledge_16 : decode cX8_acknowledge 16 = .ok (.return_, 1) := by decide +kernel
theorem dX8_acknowledge_17 : decode cX8_acknowledge 17 = .ok (.aload_n 0, 1) := by decide +kernel
theorem dX8_acknowledge_18 : decode cX8_acknowledge 18 = .ok (.dup, 1) := by decide +kernel
theorem dX8_acknowledge_19 : decode cX8_acknowledge 19 = .ok (.getfield 181, 3) := by decide +kernel
theorem dX8_acknowledge_22 : decode cX8_acknowledge 22 = .ok (.iconst 1, 1) := by decide +kernel
theorem dX8_acknowledge_23 : decode cX8_acknowledge 23 = .ok (.iadd, 1) := by decide +kernel
theorem dX8_acknowledge_24 : decode cX8_acknowledge 24 = .ok (.putfield 181, 3) := by decide +kernel
theorem dX8_acknowledge_27 : decode cX8_acknowledge 27 = .ok (.aload_n 0, 1) := by decide +kernel
theorem dX8_acknowledge_28 : decode cX8_acknowledge 28 = .ok (.iconst 0, 1) := by decide +kernel
theorem dX8_acknowledge_29 : decode cX8_acknowledge 29 = .ok (.putfield 73, 3) := by decide +kernel
theorem dX8_acknowledge_32 : decode cX8_acknowledge 32 = .ok (.aload_n 0, 1) := by decide +kernel
theorem dX8_acknowledge_33 : decode cX8_acknowledge 33 = .ok (.iconst (-1), 1) := by decide +kernel
theorem dX8_acknowledge_34 : decode cX8_acknowledge 34 = .ok (.putfield 28, 3) := by decide +kernel
theorem dX8_acknowledge_37 : decode cX8_acknowledge 37 = .ok (.new 99, 3) := by decide +kernel
theorem dX8_acknowledge_40 : decode cX8_acknowledge 40 = .ok (.dup, 1) := by decide +kernel
theorem dX8_acknowledge_41 : decode cX8_acknowledge 41 = .ok (.iconst 4, 1) := by decide +kernel
theorem dX8_acknowledge_42 : decode cX8_acknowledge 42 = .ok (.invokespecial 118, 3) := by decide +kernel
theorem dX8_acknowledge_45 : decode cX8_acknowledge 45 = .ok (.astore_n 1, 1) := by decide +kernel
theorem dX8_acknowledge_46 : decode cX8_acknowledge 46 = .ok (.aload_n 1, 1) := by decide +kernel
theorem dX8_acknowledge_47 : decode cX8_acknowledge 47 = .ok (.aload_n 0, 1) := by decide +kernel
theorem dX8_acknowledge_48 : decode cX8_acknowledge 48 = .ok (.invokevirtual 184, 3) := by decide +kernel
theorem dX8_acknowledge_51 : decode cX8_acknowledge 51 = .ok (.putfield 188, 3) := by decide +kernel
theorem dX8_acknowledge_54 : decode cX8_acknowledge 54 = .ok (.aload_n 0, 1) := by decide +kernel
theorem dX8_acknowledge_55 : decode cX8_acknowledge 55 = .ok (.getfield 34, 3) := by decide +kernel
theorem dX8_acknowledge_58 : decode cX8_acknowledge 58 = .ok (.aload_n 0, 1) := by decide +kernel
theorem dX8_acknowledge_59 : decode cX8_acknowledge 59 = .ok (.getfield 31, 3) := by decide +kernel
theorem dX8_acknowledge_62 : decode cX8_acknowledge 62 = .ok (.aload_n 1, 1) := by decide +kernel
theorem dX8_acknowledge_63 : decode cX8_acknowledge 63 = .ok (.invokevirtual 121, 3) := by decide +kernel
theorem dX8_acknowledge_66 : decode cX8_acknowledge 66 = .ok (.return_, 1) := by decide +kernel
theorem dX8_makeAck_0 : decode cX8_makeAck 0 = .ok (.new 192, 3) := by decide +kernel
theorem dX8_makeAck_3 : decode cX8_makeAck 3 = .ok (.dup, 1) := by decide +kernel
theorem dX8_makeAck_4 : decode cX8_makeAck 4 = .ok (.invokespecial 194, 3) := by decide +kernel
theorem dX8_makeAck_7 : decode cX8_makeAck 7 = .ok (.astore_n 1, 1) := by decide +kernel
theorem dX8_makeAck_8 : decode cX8_makeAck 8 = .ok (.aload_n 0, 1) := by decide +kernel
theorem dX8_makeAck_9 : decode cX8_makeAck 9 = .ok (.aload_n 0, 1) := by decide +kernel
theorem dX8_makeAck_10 : decode cX8_makeAck 10 = .ok (.getfield 25, 3) := by decide +kernel
theorem dX8_makeAck_13 : decode cX8_makeAck 13 = .ok (.iconst 1, 1) := by decide +kernel
theorem dX8_makeAck_14 : decode cX8_makeAck 14 = .ok (.invokevirtual 195, 3) := by decide +kernel
theorem dX8_makeAck_17 : decode cX8_makeAck 17 = .ok (.istore_n 2, 1) := by decide +kernel
theorem dX8_makeAck_18 : decode cX8_makeAck 18 = .ok (.iconst 0, 1) := by decide +kernel
theorem dX8_makeAck_19 : decode cX8_makeAck 19 = .ok (.istore_n 3, 1) := by decide +kernel
theorem dX8_makeAck_20 : decode cX8_makeAck 20 = .ok (.iload_n 3, 1) := by decide +kernel
theorem dX8_makeAck_21 : decode cX8_makeAck 21 = .ok (.iconst 4, 1) := by decide +kernel
theorem dX8_makeAck_22 : decode cX8_makeAck 22 = .ok (.if_icmp .ge 38, 3) := by decide +kernel
theorem dX8_makeAck_25 : decode cX8_makeAck 25 = .ok (.iload_n 2, 1) := by decide +kernel
theorem dX8_makeAck_26 : decode cX8_makeAck 26 = .ok (.ifCond .lt 34, 3) := by decide +kernel
theorem dX8_makeAck_29 : decode cX8_makeAck 29 = .ok (.aload_n 0, 1) := by decide +kernel
theorem dX8_makeAck_30 : decode cX8_makeAck 30 = .ok (.iload_n 2, 1) := by decide +kernel
theorem dX8_makeAck_31 : decode cX8_makeAck 31 = .ok (.iconst 0, 1) := by decide +kernel
theorem dX8_makeAck_32 : decode cX8_makeAck 32 = .ok (.invokevirtual 195, 3) := by decide +kernel
theorem dX8_makeAck_35 : decode cX8_makeAck 35 = .ok (.istore 4, 2) := by decide +kernel
theorem dX8_makeAck_37 : decode cX8_makeAck 37 = .ok (.aload_n 1, 1) := by decide +kernel
theorem dX8_makeAck_38 : decode cX8_makeAck 38 = .ok (.iload 4, 2) := by decide +kernel
theorem dX8_makeAck_40 : decode cX8_makeAck 40 = .ok (.iconst 1, 1) := by decide +kernel
theorem dX8_makeAck_41 : decode cX8_makeAck 41 = .ok (.iadd, 1) := by decide +kernel
theorem dX8_makeAck_42 : decode cX8_makeAck 42 = .ok (.iload_n 2, 1) := by decide +kernel
theorem dX8_makeAck_43 : decode cX8_makeAck 43 = .ok (.invokevirtual 199, 3) := by decide +kernel
theorem dX8_makeAck_46 : decode cX8_makeAck 46 = .ok (.aload_n 0, 1) := by decide +kernel
theorem dX8_makeAck_47 : decode cX8_makeAck 47 = .ok (.iload 4, 2) := by decide +kernel
theorem dX8_makeAck_49 : decode cX8_makeAck 49 = .ok (.iconst 1, 1) := by decide +kernel
theorem dX8_makeAck_50 : decode cX8_makeAck 50 = .ok (.invokevirtual 195, 3) := by decide +kernel
theorem dX8_makeAck_53 : decode cX8_makeAck 53 = .ok (.istore_n 2, 1) := by decide +kernel
theorem dX8_makeAck_54 : decode cX8_makeAck 54 = .ok (.iinc 3 1, 3) := by decide +kernel
theorem dX8_makeAck_57 : decode cX8_makeAck 57 = .ok (.goto (-37), 3) := by decide +kernel
theorem dX8_makeAck_60 : decode cX8_makeAck 60 = .ok (.aload_n 1, 1) := by decide +kernel
theorem dX8_makeAck_61 : decode cX8_makeAck 61 = .ok (.aload_n 0, 1) := by decide +kernel
theorem dX8_makeAck_62 : decode cX8_makeAck 62 = .ok (.getfield 70, 3) := by decide +kernel
theorem dX8_makeAck_65 : decode cX8_makeAck 65 = .ok (.putfield 202, 3) := by decide +kernel
theorem dX8_makeAck_68 : decode cX8_makeAck 68 = .ok (.iconst 0, 1) := by decide +kernel
theorem dX8_makeAck_69 : decode cX8_makeAck 69 = .ok (.istore_n 3, 1) := by decide +kernel
theorem dX8_makeAck_70 : decode cX8_makeAck 70 = .ok (.iconst 0, 1) := by decide +kernel
theorem dX8_makeAck_71 : decode cX8_makeAck 71 = .ok (.istore 4, 2) := by decide +kernel
theorem dX8_makeAck_73 : decode cX8_makeAck 73 = .ok (.iload 4, 2) := by decide +kernel
theorem dX8_makeAck_75 : decode cX8_makeAck 75 = .ok (.iconst 4, 1) := by decide +kernel
theorem dX8_makeAck_76 : decode cX8_makeAck 76 = .ok (.if_icmp .ge 42, 3) := by decide +kernel
theorem dX8_makeAck_79 : decode cX8_makeAck 79 = .ok (.aload_n 1, 1) := by decide +kernel
theorem dX8_makeAck_80 : decode cX8_makeAck 80 = .ok (.getfield 205, 3) := by decide +kernel
theorem dX8_makeAck_83 : decode cX8_makeAck 83 = .ok (.iload 4, 2) := by decide +kernel
theorem dX8_makeAck_85 : decode cX8_makeAck 85 = .ok (.bipush 40, 2) := by decide +kernel
theorem dX8_makeAck_87 : decode cX8_makeAck 87 = .ok (.aload_n 0, 1) := by decide +kernel
theorem dX8_makeAck_88 : decode cX8_makeAck 88 = .ok (.getfield 38, 3) := by decide +kernel
theorem dX8_makeAck_91 : decode cX8_makeAck 91 = .ok (.iload 4, 2) := by decide +kernel
theorem dX8_makeAck_93 : decode cX8_makeAck 93 = .ok (.aaload, 1) := by decide +kernel
theorem dX8_makeAck_94 : decode cX8_makeAck 94 = .ok (.getfield 47, 3) := by decide +kernel
theorem dX8_makeAck_97 : decode cX8_makeAck 97 = .ok (.iadd, 1) := by decide +kernel
theorem dX8_makeAck_98 : decode cX8_makeAck 98 = .ok (.iastore, 1) := by decide +kernel
theorem dX8_makeAck_99 : decode cX8_makeAck 99 = .ok (.iload_n 3, 1) := by decide +kernel
theorem dX8_makeAck_100 : decode cX8_makeAck 100 = .ok (.aload_n 0, 1) := by decide +kernel
theorem dX8_makeAck_101 : decode cX8_makeAck 101 = .ok (.getfield 38, 3) := by decide +kernel
theorem dX8_makeAck_104 : decode cX8_makeAck 104 = .ok (.iload 4, 2) := by decide +kernel
theorem dX8_makeAck_106 : decode cX8_makeAck 106 = .ok (.aaload, 1) := by decide +kernel
theorem dX8_makeAck_107 : decode cX8_makeAck 107 = .ok (.getfield 47, 3) := by decide +kernel
theorem dX8_makeAck_110 : decode cX8_makeAck 110 = .ok (.iadd, 1) := by decide +kernel
theorem dX8_makeAck_111 : decode cX8_makeAck 111 = .ok (.istore_n 3, 1) := by decide +kernel
theorem dX8_makeAck_112 : decode cX8_makeAck 112 = .ok (.iinc 4 1, 3) := by decide +kernel
theorem dX8_makeAck_115 : decode cX8_makeAck 115 = .ok (.goto (-42), 3) := by decide +kernel
theorem dX8_makeAck_118 : decode cX8_makeAck 118 = .ok (.aload_n 1, 1) := by decide +kernel
theorem dX8_makeAck_119 : decode cX8_makeAck 119 = .ok (.bipush 100, 2) := by decide +kernel
theorem dX8_makeAck_121 : decode cX8_makeAck 121 = .ok (.iload_n 3, 1) := by decide +kernel
theorem dX8_makeAck_122 : decode cX8_makeAck 122 = .ok (.iadd, 1) := by decide +kernel
theorem dX8_makeAck_123 : decode cX8_makeAck 123 = .ok (.putfield 209, 3) := by decide +kernel
theorem dX8_makeAck_126 : decode cX8_makeAck 126 = .ok (.aload_n 1, 1) := by decide +kernel
theorem dX8_makeAck_127 : decode cX8_makeAck 127 = .ok (.areturn, 1) := by decide +kernel
theorem dX8_nextTaken_0 : decode cX8_nextTaken 0 = .ok (.iload_n 1, 1) := by decide +kernel
theorem dX8_nextTaken_1 : decode cX8_nextTaken 1 = .ok (.istore_n 3, 1) := by decide +kernel
theorem dX8_nextTaken_2 : decode cX8_nextTaken 2 = .ok (.iload_n 3, 1) := by decide +kernel
theorem dX8_nextTaken_3 : decode cX8_nextTaken 3 = .ok (.ifCond .lt 26, 3) := by decide +kernel
theorem dX8_nextTaken_6 : decode cX8_nextTaken 6 = .ok (.iload_n 3, 1) := by decide +kernel
theorem dX8_nextTaken_7 : decode cX8_nextTaken 7 = .ok (.sipush 400, 3) := by decide +kernel
theorem dX8_nextTaken_10 : decode cX8_nextTaken 10 = .ok (.if_icmp .ge 19, 3) := by decide +kernel
theorem dX8_nextTaken_13 : decode cX8_nextTaken 13 = .ok (.aload_n 0, 1) := by decide +kernel
theorem dX8_nextTaken_14 : decode cX8_nextTaken 14 = .ok (.getfield 22, 3) := by decide +kernel
theorem dX8_nextTaken_17 : decode cX8_nextTaken 17 = .ok (.iload_n 3, 1) := by decide +kernel
theorem dX8_nextTaken_18 : decode cX8_nextTaken 18 = .ok (.baload, 1) := by decide +kernel
theorem dX8_nextTaken_19 : decode cX8_nextTaken 19 = .ok (.iload_n 2, 1) := by decide +kernel
theorem dX8_nextTaken_20 : decode cX8_nextTaken 20 = .ok (.if_icmp .eq 9, 3) := by decide +kernel
theorem dX8_nextTaken_23 : decode cX8_nextTaken 23 = .ok (.iinc 3 (-1), 3) := by decide +kernel
theorem dX8_nextTaken_26 : decode cX8_nextTaken 26 = .ok (.goto (-24), 3) := by decide +kernel
theorem dX8_nextTaken_29 : decode cX8_nextTaken 29 = .ok (.iload_n 3, 1) := by decide +kernel
theorem dX8_nextTaken_30 : decode cX8_nextTaken 30 = .ok (.ireturn, 1) := by decide +kernel
theorem dX9_init_0 : decode cX9_init 0 = .ok (.aload_n 0, 1) := by decide +kernel
theorem dX9_init_1 : decode cX9_init 1 = .ok (.invokespecial 3, 3) := by decide +kernel
theorem dX9_init_4 : decode cX9_init 4 = .ok (.aload_n 0, 1) := by decide +kernel
theorem dX9_init_5 : decode cX9_init 5 = .ok (.bipush 40, 2) := by decide +kernel
theorem dX9_init_7 : decode cX9_init 7 = .ok (.putfield 9, 3) := by decide +kernel
theorem dX9_init_10 : decode cX9_init 10 = .ok (.aload_n 0, 1) := by decide +kernel
theorem dX9_init_11 : decode cX9_init 11 = .ok (.sipush 200, 3) := by decide +kernel
theorem dX9_init_14 : decode cX9_init 14 = .ok (.newarray .boolean, 2) := by decide +kernel
theorem dX9_init_16 : decode cX9_init 16 = .ok (.putfield 15, 3) := by decide +kernel
theorem dX9_init_19 : decode cX9_init 19 = .ok (.aload_n 0, 1) := by decide +kernel
theorem dX9_init_20 : decode cX9_init 20 = .ok (.sipush 200, 3) := by decide +kernel
theorem dX9_init_23 : decode cX9_init 23 = .ok (.newarray .int, 2) := by decide +kernel
theorem dX9_init_25 : decode cX9_init 25 = .ok (.putfield 19, 3) := by decide +kernel
theorem dX9_init_28 : decode cX9_init 28 = .ok (.aload_n 0, 1) := by decide +kernel
theorem dX9_init_29 : decode cX9_init 29 = .ok (.sipush 200, 3) := by decide +kernel
theorem dX9_init_32 : decode cX9_init 32 = .ok (.newarray .boolean, 2) := by decide +kernel
theorem dX9_init_34 : decode cX9_init 34 = .ok (.putfield 23, 3) := by decide +kernel
theorem dX9_init_37 : decode cX9_init 37 = .ok (.return_, 1) := by decide +kernel
theorem dX9_isLost_0 : decode cX9_isLost 0 = .ok (.iload_n 1, 1) := by decide +kernel
theorem dX9_isLost_1 : decode cX9_isLost 1 = .ok (.ifCond .lt 40, 3) := by decide +kernel
theorem dX9_isLost_4 : decode cX9_isLost 4 = .ok (.iload_n 1, 1) := by decide +kernel
theorem dX9_isLost_5 : decode cX9_isLost 5 = .ok (.aload_n 0, 1) := by decide +kernel
theorem dX9_isLost_6 : decode cX9_isLost 6 = .ok (.getfield 26, 3) := by decide +kernel
theorem dX9_isLost_9 : decode cX9_isLost 9 = .ok (.if_icmp .ge 32, 3) := by decide +kernel
theorem dX9_isLost_12 : decode cX9_isLost 12 = .ok (.iload_n 1, 1) := by decide +kernel
theorem dX9_isLost_13 : decode cX9_isLost 13 = .ok (.sipush 200, 3) := by decide +kernel
theorem dX9_isLost_16 : decode cX9_isLost 16 = .ok (.if_icmp .ge 25, 3) := by decide +kernel
theorem dX9_isLost_19 : decode cX9_isLost 19 = .ok (.aload_n 0, 1) := by decide +kernel
theorem dX9_isLost_20 : decode cX9_isLost 20 = .ok (.getfield 15, 3) := by decide +kernel
theorem dX9_isLost_23 : decode cX9_isLost 23 = .ok (.iload_n 1, 1) := by decide +kernel
theorem dX9_isLost_24 : decode cX9_isLost 24 = .ok (.baload, 1) := by decide +kernel
theorem dX9_isLost_25 : decode cX9_isLost 25 = .ok (.ifCond .ne 16, 3) := by decide +kernel
theorem dX9_isLost_28 : decode cX9_isLost 28 = .ok (.aload_n 0, 1) := by decide +kernel
theorem dX9_isLost_29 : decode cX9_isLost 29 = .ok (.getfield 19, 3) := by decide +kernel
theorem dX9_isLost_32 : decode cX9_isLost 32 = .ok (.iload_n 1, 1) := by decide +kernel
theorem dX9_isLost_33 : decode cX9_isLost 33 = .ok (.iaload, 1) := by decide +kernel
theorem dX9_isLost_34 : decode cX9_isLost 34 = .ok (.ifCond .ne 7, 3) := by decide +kernel
theorem dX9_isLost_37 : decode cX9_isLost 37 = .ok (.iconst 1, 1) := by decide +kernel
theorem dX9_isLost_38 : decode cX9_isLost 38 = .ok (.goto 4, 3) := by decide +kernel
theorem dX9_isLost_41 : decode cX9_isLost 41 = .ok (.iconst 0, 1) := by decide +kernel
theorem dX9_isLost_42 : decode cX9_isLost 42 = .ok (.ireturn, 1) := by decide +kernel
theorem dX9_lowestLost_0 : decode cX9_lowestLost 0 = .ok (.iconst 0, 1) := by decide +kernel
theorem dX9_lowestLost_1 : decode cX9_lowestLost 1 = .ok (.istore_n 1, 1) := by decide +kernel
theorem dX9_lowestLost_2 : decode cX9_lowestLost 2 = .ok (.iload_n 1, 1) := by decide +kernel
theorem dX9_lowestLost_3 : decode cX9_lowestLost 3 = .ok (.sipush 200, 3) := by decide +kernel
theorem dX9_lowestLost_6 : decode cX9_lowestLost 6 = .ok (.if_icmp .ge 17, 3) := by decide +kernel
theorem dX9_lowestLost_9 : decode cX9_lowestLost 9 = .ok (.aload_n 0, 1) := by decide +kernel
theorem dX9_lowestLost_10 : decode cX9_lowestLost 10 = .ok (.iload_n 1, 1) := by decide +kernel
theorem dX9_lowestLost_11 : decode cX9_lowestLost 11 = .ok (.invokevirtual 29, 3) := by decide +kernel
theorem dX9_lowestLost_14 : decode cX9_lowestLost 14 = .ok (.ifCond .ne 9, 3) := by decide +kernel
theorem dX9_lowestLost_17 : decode cX9_lowestLost 17 = .ok (.iinc 1 1, 3) := by decide +kernel
theorem dX9_lowestLost_20 : decode cX9_lowestLost 20 = .ok (.goto (-18), 3) := by decide +kernel
theorem dX9_lowestLost_23 : decode cX9_lowestLost 23 = .ok (.iload_n 1, 1) := by decide +kernel
theorem dX9_lowestLost_24 : decode cX9_lowestLost 24 = .ok (.ireturn, 1) := by decide +kernel
theorem dX9_lostInARow_0 : decode cX9_lostInARow 0 = .ok (.iconst 0, 1) := by decide +kernel
theorem dX9_lostInARow_1 : decode cX9_lostInARow 1 = .ok (.istore_n 2, 1) := by decide +kernel
theorem dX9_lostInARow_2 : decode cX9_lostInARow 2 = .ok (.iload_n 2, 1) := by decide +kernel
theorem dX9_lostInARow_3 : decode cX9_lostInARow 3 = .ok (.bipush 10, 2) := by decide +kernel
theorem dX9_lostInARow_5 : decode cX9_lostInARow 5 = .ok (.if_icmp .ge 19, 3) := by decide +kernel
theorem dX9_lostInARow_8 : decode cX9_lostInARow 8 = .ok (.aload_n 0, 1) := by decide +kernel
theorem dX9_lostInARow_9 : decode cX9_lostInARow 9 = .ok (.iload_n 1, 1) := by decide +kernel
theorem dX9_lostInARow_10 : decode cX9_lostInARow 10 = .ok (.iload_n 2, 1) := by decide +kernel
theorem dX9_lostInARow_11 : decode cX9_lostInARow 11 = .ok (.iadd, 1) := by decide +kernel
theorem dX9_lostInARow_12 : decode cX9_lostInARow 12 = .ok (.invokevirtual 29, 3) := by decide +kernel
theorem dX9_lostInARow_15 : decode cX9_lostInARow 15 = .ok (.ifCond .eq 9, 3) := by decide +kernel
theorem dX9_lostInARow_18 : decode cX9_lostInARow 18 = .ok (.iinc 2 1, 3) := by decide +kernel
theorem dX9_lostInARow_21 : decode cX9_lostInARow 21 = .ok (.goto (-19), 3) := by decide +kernel
theorem dX9_lostInARow_24 : decode cX9_lostInARow 24 = .ok (.iload_n 2, 1) := by decide +kernel
theorem dX9_lostInARow_25 : decode cX9_lostInARow 25 = .ok (.ireturn, 1) := by decide +kernel
theorem dX9_canSendAnew_0 : decode cX9_canSendAnew 0 = .ok (.aload_n 0, 1) := by decide +kernel
theorem dX9_canSendAnew_1 : decode cX9_canSendAnew 1 = .ok (.getfield 33, 3) := by decide +kernel
theorem dX9_canSendAnew_4 : decode cX9_canSendAnew 4 = .ok (.aload_n 0, 1) := by decide +kernel
theorem dX9_canSendAnew_5 : decode cX9_canSendAnew 5 = .ok (.getfield 9, 3) := by decide +kernel
theorem dX9_canSendAnew_8 : decode cX9_canSendAnew 8 = .ok (.invokestatic 36, 3) := by decide +kernel
theorem dX9_canSendAnew_11 : decode cX9_canSendAnew 11 = .ok (.aload_n 0, 1) := by decide +kernel
theorem dX9_canSendAnew_12 : decode cX9_canSendAnew 12 = .ok (.getfield 26, 3) := by decide +kernel
theorem dX9_canSendAnew_15 : decode cX9_canSendAnew 15 = .ok (.isub, 1) := by decide +kernel
theorem dX9_canSendAnew_16 : decode cX9_canSendAnew 16 = .ok (.iload_n 1, 1) := by decide +kernel
theorem dX9_canSendAnew_17 : decode cX9_canSendAnew 17 = .ok (.invokestatic 36, 3) := by decide +kernel
theorem dX9_canSendAnew_20 : decode cX9_canSendAnew 20 = .ok (.istore_n 2, 1) := by decide +kernel
theorem dX9_canSendAnew_21 : decode cX9_canSendAnew 21 = .ok (.iconst 0, 1) := by decide +kernel
theorem dX9_canSendAnew_22 : decode cX9_canSendAnew 22 = .ok (.iload_n 2, 1) := by decide +kernel
theorem dX9_canSendAnew_23 : decode cX9_canSendAnew 23 = .ok (.bipush 10, 2) := by decide +kernel
theorem dX9_canSendAnew_25 : decode cX9_canSendAnew 25 = .ok (.invokestatic 36, 3) := by decide +kernel
theorem dX9_canSendAnew_28 : decode cX9_canSendAnew 28 = .ok (.invokestatic 42, 3) := by decide +kernel
theorem dX9_canSendAnew_31 : decode cX9_canSendAnew 31 = .ok (.ireturn, 1) := by decide +kernel
theorem dX9_takeOff_0 : decode cX9_takeOff 0 = .ok (.iconst 0, 1) := by decide +kernel
theorem dX9_takeOff_1 : decode cX9_takeOff 1 = .ok (.iload_n 1, 1) := by decide +kernel
theorem dX9_takeOff_2 : decode cX9_takeOff 2 = .ok (.invokestatic 42, 3) := by decide +kernel
theorem dX9_takeOff_5 : decode cX9_takeOff 5 = .ok (.istore_n 3, 1) := by decide +kernel
theorem dX9_takeOff_6 : decode cX9_takeOff 6 = .ok (.iload_n 3, 1) := by decide +kernel
theorem dX9_takeOff_7 : decode cX9_takeOff 7 = .ok (.iload_n 1, 1) := by decide +kernel
theorem dX9_takeOff_8 : decode cX9_takeOff 8 = .ok (.iload_n 2, 1) := by decide +kernel
theorem dX9_takeOff_9 : decode cX9_takeOff 9 = .ok (.iadd, 1) := by decide +kernel
theorem dX9_takeOff_10 : decode cX9_takeOff 10 = .ok (.if_icmp .ge 44, 3) := by decide +kernel
theorem dX9_takeOff_13 : decode cX9_takeOff 13 = .ok (.iload_n 3, 1) := by decide +kernel
theorem dX9_takeOff_14 : decode cX9_takeOff 14 = .ok (.sipush 200, 3) := by decide +kernel
theorem dX9_takeOff_17 : decode cX9_takeOff 17 = .ok (.if_icmp .ge 37, 3) := by decide +kernel
theorem dX9_takeOff_20 : decode cX9_takeOff 20 = .ok (.aload_n 0, 1) := by decide +kernel
theorem dX9_takeOff_21 : decode cX9_takeOff 21 = .ok (.iload_n 3, 1) := by decide +kernel
theorem dX9_takeOff_22 : decode cX9_takeOff 22 = .ok (.invokevirtual 29, 3) := by decide +kernel
theorem dX9_takeOff_25 : decode cX9_takeOff 25 = .ok (.ifCond .eq 13, 3) := by decide +kernel
theorem dX9_takeOff_28 : decode cX9_takeOff 28 = .ok (.aload_n 0, 1) := by decide +kernel
theorem dX9_takeOff_29 : decode cX9_takeOff 29 = .ok (.dup, 1) := by decide +kernel
theorem dX9_takeOff_30 : decode cX9_takeOff 30 = .ok (.getfield 45, 3) := by decide +kernel
theorem dX9_takeOff_33 : decode cX9_takeOff 33 = .ok (.iconst 1, 1) := by decide +kernel
theorem dX9_takeOff_34 : decode cX9_takeOff 34 = .ok (.isub, 1) := by decide +kernel
theorem dX9_takeOff_35 : decode cX9_takeOff 35 = .ok (.putfield 45, 3) := by decide +kernel
theorem dX9_takeOff_38 : decode cX9_takeOff 38 = .ok (.aload_n 0, 1) := by decide +kernel
theorem dX9_takeOff_39 : decode cX9_takeOff 39 = .ok (.getfield 19, 3) := by decide +kernel
theorem dX9_takeOff_42 : decode cX9_takeOff 42 = .ok (.iload_n 3, 1) := by decide +kernel
theorem dX9_takeOff_43 : decode cX9_takeOff 43 = .ok (.dup2, 1) := by decide +kernel
theorem dX9_takeOff_44 : decode cX9_takeOff 44 = .ok (.iaload, 1) := by decide +kernel
theorem dX9_takeOff_45 : decode cX9_takeOff 45 = .ok (.iconst 1, 1) := by decide +kernel
theorem dX9_takeOff_46 : decode cX9_takeOff 46 = .ok (.iadd, 1) := by decide +kernel
theorem dX9_takeOff_47 : decode cX9_takeOff 47 = .ok (.iastore, 1) := by decide +kernel
theorem dX9_takeOff_48 : decode cX9_takeOff 48 = .ok (.iinc 3 1, 3) := by decide +kernel
theorem dX9_takeOff_51 : decode cX9_takeOff 51 = .ok (.goto (-45), 3) := by decide +kernel
theorem dX9_takeOff_54 : decode cX9_takeOff 54 = .ok (.aload_n 0, 1) := by decide +kernel
end
section
theorem dX9_takeOff_55 : decode cX9_takeOff 55 = .ok (.aload_n 0, 1) := by decide +kernel
theorem dX9_takeOff_56 : decode cX9_takeOff 56 = .ok (.getfield 26, 3) := by decide +kernel
theorem dX9_takeOff_59 : decode cX9_takeOff 59 = .ok (.iload_n 1, 1) := by decide +kernel
theorem dX9_takeOff_60 : decode cX9_takeOff 60 = .ok (.iload_n 2, 1) := by decide +kernel
theorem dX9_takeOff_61 : decode cX9_takeOff 61 = .ok (.iadd, 1) := by decide +kernel
theorem dX9_takeOff_62 : decode cX9_takeOff 62 = .ok (.invokestatic 42, 3) := by decide +kernel
theorem dX9_takeOff_65 : decode cX9_takeOff 65 = .ok (.putfield 26, 3) := by decide +kernel
theorem dX9_takeOff_68 : decode cX9_takeOff 68 = .ok (.return_, 1) := by decide +kernel
theorem dX9_land_0 : decode cX9_land 0 = .ok (.iconst 0, 1) := by decide +kernel
theorem dX9_land_1 : decode cX9_land 1 = .ok (.iload_n 1, 1) := by decide +kernel
theorem dX9_land_2 : decode cX9_land 2 = .ok (.invokestatic 42, 3) := by decide +kernel
theorem dX9_land_5 : decode cX9_land 5 = .ok (.istore_n 3, 1) := by decide +kernel
theorem dX9_land_6 : decode cX9_land 6 = .ok (.iload_n 3, 1) := by decide +kernel
theorem dX9_land_7 : decode cX9_land 7 = .ok (.iload_n 1, 1) := by decide +kernel
theorem dX9_land_8 : decode cX9_land 8 = .ok (.iload_n 2, 1) := by decide +kernel
theorem dX9_land_9 : decode cX9_land 9 = .ok (.iadd, 1) := by decide +kernel
theorem dX9_land_10 : decode cX9_land 10 = .ok (.if_icmp .ge 44, 3) := by decide +kernel
theorem dX9_land_13 : decode cX9_land 13 = .ok (.iload_n 3, 1) := by decide +kernel
theorem dX9_land_14 : decode cX9_land 14 = .ok (.sipush 200, 3) := by decide +kernel
theorem dX9_land_17 : decode cX9_land 17 = .ok (.if_icmp .ge 37, 3) := by decide +kernel
theorem dX9_land_20 : decode cX9_land 20 = .ok (.aload_n 0, 1) := by decide +kernel
theorem dX9_land_21 : decode cX9_land 21 = .ok (.getfield 19, 3) := by decide +kernel
theorem dX9_land_24 : decode cX9_land 24 = .ok (.iload_n 3, 1) := by decide +kernel
theorem dX9_land_25 : decode cX9_land 25 = .ok (.dup2, 1) := by decide +kernel
theorem dX9_land_26 : decode cX9_land 26 = .ok (.iaload, 1) := by decide +kernel
theorem dX9_land_27 : decode cX9_land 27 = .ok (.iconst 1, 1) := by decide +kernel
theorem dX9_land_28 : decode cX9_land 28 = .ok (.isub, 1) := by decide +kernel
theorem dX9_land_29 : decode cX9_land 29 = .ok (.iastore, 1) := by decide +kernel
theorem dX9_land_30 : decode cX9_land 30 = .ok (.aload_n 0, 1) := by decide +kernel
theorem dX9_land_31 : decode cX9_land 31 = .ok (.iload_n 3, 1) := by decide +kernel
theorem dX9_land_32 : decode cX9_land 32 = .ok (.invokevirtual 29, 3) := by decide +kernel
theorem dX9_land_35 : decode cX9_land 35 = .ok (.ifCond .eq 13, 3) := by decide +kernel
theorem dX9_land_38 : decode cX9_land 38 = .ok (.aload_n 0, 1) := by decide +kernel
theorem dX9_land_39 : decode cX9_land 39 = .ok (.dup, 1) := by decide +kernel
theorem dX9_land_40 : decode cX9_land 40 = .ok (.getfield 45, 3) := by decide +kernel
theorem dX9_land_43 : decode cX9_land 43 = .ok (.iconst 1, 1) := by decide +kernel
theorem dX9_land_44 : decode cX9_land 44 = .ok (.iadd, 1) := by decide +kernel
theorem dX9_land_45 : decode cX9_land 45 = .ok (.putfield 45, 3) := by decide +kernel
theorem dX9_land_48 : decode cX9_land 48 = .ok (.iinc 3 1, 3) := by decide +kernel
theorem dX9_land_51 : decode cX9_land 51 = .ok (.goto (-45), 3) := by decide +kernel
theorem dX9_land_54 : decode cX9_land 54 = .ok (.return_, 1) := by decide +kernel
theorem dX9_acknowledge_0 : decode cX9_acknowledge 0 = .ok (.iconst 0, 1) := by decide +kernel
theorem dX9_acknowledge_1 : decode cX9_acknowledge 1 = .ok (.iload_n 1, 1) := by decide +kernel
theorem dX9_acknowledge_2 : decode cX9_acknowledge 2 = .ok (.invokestatic 42, 3) := by decide +kernel
theorem dX9_acknowledge_5 : decode cX9_acknowledge 5 = .ok (.istore_n 3, 1) := by decide +kernel
theorem dX9_acknowledge_6 : decode cX9_acknowledge 6 = .ok (.iload_n 3, 1) := by decide +kernel
theorem dX9_acknowledge_7 : decode cX9_acknowledge 7 = .ok (.iload_n 1, 1) := by decide +kernel
theorem dX9_acknowledge_8 : decode cX9_acknowledge 8 = .ok (.iload_n 2, 1) := by decide +kernel
theorem dX9_acknowledge_9 : decode cX9_acknowledge 9 = .ok (.iadd, 1) := by decide +kernel
theorem dX9_acknowledge_10 : decode cX9_acknowledge 10 = .ok (.if_icmp .ge 60, 3) := by decide +kernel
theorem dX9_acknowledge_13 : decode cX9_acknowledge 13 = .ok (.iload_n 3, 1) := by decide +kernel
theorem dX9_acknowledge_14 : decode cX9_acknowledge 14 = .ok (.sipush 200, 3) := by decide +kernel
theorem dX9_acknowledge_17 : decode cX9_acknowledge 17 = .ok (.if_icmp .ge 53, 3) := by decide +kernel
theorem dX9_acknowledge_20 : decode cX9_acknowledge 20 = .ok (.aload_n 0, 1) := by decide +kernel
theorem dX9_acknowledge_21 : decode cX9_acknowledge 21 = .ok (.iload_n 3, 1) := by decide +kernel
theorem dX9_acknowledge_22 : decode cX9_acknowledge 22 = .ok (.invokevirtual 29, 3) := by decide +kernel
theorem dX9_acknowledge_25 : decode cX9_acknowledge 25 = .ok (.ifCond .eq 13, 3) := by decide +kernel
theorem dX9_acknowledge_28 : decode cX9_acknowledge 28 = .ok (.aload_n 0, 1) := by decide +kernel
theorem dX9_acknowledge_29 : decode cX9_acknowledge 29 = .ok (.dup, 1) := by decide +kernel
theorem dX9_acknowledge_30 : decode cX9_acknowledge 30 = .ok (.getfield 45, 3) := by decide +kernel
theorem dX9_acknowledge_33 : decode cX9_acknowledge 33 = .ok (.iconst 1, 1) := by decide +kernel
theorem dX9_acknowledge_34 : decode cX9_acknowledge 34 = .ok (.isub, 1) := by decide +kernel
theorem dX9_acknowledge_35 : decode cX9_acknowledge 35 = .ok (.putfield 45, 3) := by decide +kernel
theorem dX9_acknowledge_38 : decode cX9_acknowledge 38 = .ok (.aload_n 0, 1) := by decide +kernel
theorem dX9_acknowledge_39 : decode cX9_acknowledge 39 = .ok (.getfield 15, 3) := by decide +kernel
theorem dX9_acknowledge_42 : decode cX9_acknowledge 42 = .ok (.iload_n 3, 1) := by decide +kernel
theorem dX9_acknowledge_43 : decode cX9_acknowledge 43 = .ok (.baload, 1) := by decide +kernel
theorem dX9_acknowledge_44 : decode cX9_acknowledge 44 = .ok (.ifCond .ne 20, 3) := by decide +kernel
theorem dX9_acknowledge_47 : decode cX9_acknowledge 47 = .ok (.aload_n 0, 1) := by decide +kernel
theorem dX9_acknowledge_48 : decode cX9_acknowledge 48 = .ok (.getfield 15, 3) := by decide +kernel
theorem dX9_acknowledge_51 : decode cX9_acknowledge 51 = .ok (.iload_n 3, 1) := by decide +kernel
theorem dX9_acknowledge_52 : decode cX9_acknowledge 52 = .ok (.iconst 1, 1) := by decide +kernel
theorem dX9_acknowledge_53 : decode cX9_acknowledge 53 = .ok (.bastore, 1) := by decide +kernel
theorem dX9_acknowledge_54 : decode cX9_acknowledge 54 = .ok (.aload_n 0, 1) := by decide +kernel
theorem dX9_acknowledge_55 : decode cX9_acknowledge 55 = .ok (.dup, 1) := by decide +kernel
theorem dX9_acknowledge_56 : decode cX9_acknowledge 56 = .ok (.getfield 48, 3) := by decide +kernel
theorem dX9_acknowledge_59 : decode cX9_acknowledge 59 = .ok (.iconst 1, 1) := by decide +kernel
theorem dX9_acknowledge_60 : decode cX9_acknowledge 60 = .ok (.iadd, 1) := by decide +kernel
theorem dX9_acknowledge_61 : decode cX9_acknowledge 61 = .ok (.putfield 48, 3) := by decide +kernel
theorem dX9_acknowledge_64 : decode cX9_acknowledge 64 = .ok (.iinc 3 1, 3) := by decide +kernel
theorem dX9_acknowledge_67 : decode cX9_acknowledge 67 = .ok (.goto (-61), 3) := by decide +kernel
theorem dX9_acknowledge_70 : decode cX9_acknowledge 70 = .ok (.return_, 1) := by decide +kernel
theorem dX9_arrive_0 : decode cX9_arrive 0 = .ok (.aload_n 0, 1) := by decide +kernel
theorem dX9_arrive_1 : decode cX9_arrive 1 = .ok (.getfield 23, 3) := by decide +kernel
theorem dX9_arrive_4 : decode cX9_arrive 4 = .ok (.iload_n 1, 1) := by decide +kernel
theorem dX9_arrive_5 : decode cX9_arrive 5 = .ok (.iload_n 2, 1) := by decide +kernel
theorem dX9_arrive_6 : decode cX9_arrive 6 = .ok (.invokestatic 51, 3) := by decide +kernel
theorem dX9_arrive_9 : decode cX9_arrive 9 = .ok (.aload_n 0, 1) := by decide +kernel
theorem dX9_arrive_10 : decode cX9_arrive 10 = .ok (.aload_n 0, 1) := by decide +kernel
theorem dX9_arrive_11 : decode cX9_arrive 11 = .ok (.getfield 23, 3) := by decide +kernel
theorem dX9_arrive_14 : decode cX9_arrive 14 = .ok (.aload_n 0, 1) := by decide +kernel
theorem dX9_arrive_15 : decode cX9_arrive 15 = .ok (.getfield 55, 3) := by decide +kernel
theorem dX9_arrive_18 : decode cX9_arrive 18 = .ok (.invokestatic 58, 3) := by decide +kernel
theorem dX9_arrive_21 : decode cX9_arrive 21 = .ok (.putfield 55, 3) := by decide +kernel
theorem dX9_arrive_24 : decode cX9_arrive 24 = .ok (.return_, 1) := by decide +kernel
theorem dX10_init_0 : decode cX10_init 0 = .ok (.aload_n 0, 1) := by decide +kernel
theorem dX10_init_1 : decode cX10_init 1 = .ok (.invokespecial 1, 3) := by decide +kernel
theorem dX10_init_4 : decode cX10_init 4 = .ok (.aload_n 0, 1) := by decide +kernel
theorem dX10_init_5 : decode cX10_init 5 = .ok (.iconst 0, 1) := by decide +kernel
theorem dX10_init_6 : decode cX10_init 6 = .ok (.iload_n 1, 1) := by decide +kernel
theorem dX10_init_7 : decode cX10_init 7 = .ok (.invokestatic 7, 3) := by decide +kernel
theorem dX10_init_10 : decode cX10_init 10 = .ok (.anewarray 13, 3) := by decide +kernel
theorem dX10_init_13 : decode cX10_init 13 = .ok (.putfield 15, 3) := by decide +kernel
theorem dX10_init_16 : decode cX10_init 16 = .ok (.return_, 1) := by decide +kernel
theorem dX10_append_0 : decode cX10_append 0 = .ok (.aload_n 0, 1) := by decide +kernel
theorem dX10_append_1 : decode cX10_append 1 = .ok (.getfield 21, 3) := by decide +kernel
theorem dX10_append_4 : decode cX10_append 4 = .ok (.aload_n 0, 1) := by decide +kernel
theorem dX10_append_5 : decode cX10_append 5 = .ok (.getfield 15, 3) := by decide +kernel
theorem dX10_append_8 : decode cX10_append 8 = .ok (.arraylength, 1) := by decide +kernel
theorem dX10_append_9 : decode cX10_append 9 = .ok (.if_icmp .ge 28, 3) := by decide +kernel
theorem dX10_append_12 : decode cX10_append 12 = .ok (.aload_n 1, 1) := by decide +kernel
theorem dX10_append_13 : decode cX10_append 13 = .ok (.iload_n 2, 1) := by decide +kernel
theorem dX10_append_14 : decode cX10_append 14 = .ok (.putfield 25, 3) := by decide +kernel
theorem dX10_append_17 : decode cX10_append 17 = .ok (.aload_n 0, 1) := by decide +kernel
theorem dX10_append_18 : decode cX10_append 18 = .ok (.getfield 15, 3) := by decide +kernel
theorem dX10_append_21 : decode cX10_append 21 = .ok (.aload_n 0, 1) := by decide +kernel
theorem dX10_append_22 : decode cX10_append 22 = .ok (.getfield 21, 3) := by decide +kernel
theorem dX10_append_25 : decode cX10_append 25 = .ok (.aload_n 1, 1) := by decide +kernel
theorem dX10_append_26 : decode cX10_append 26 = .ok (.aastore, 1) := by decide +kernel
theorem dX10_append_27 : decode cX10_append 27 = .ok (.aload_n 0, 1) := by decide +kernel
theorem dX10_append_28 : decode cX10_append 28 = .ok (.dup, 1) := by decide +kernel
theorem dX10_append_29 : decode cX10_append 29 = .ok (.getfield 21, 3) := by decide +kernel
theorem dX10_append_32 : decode cX10_append 32 = .ok (.iconst 1, 1) := by decide +kernel
theorem dX10_append_33 : decode cX10_append 33 = .ok (.iadd, 1) := by decide +kernel
theorem dX10_append_34 : decode cX10_append 34 = .ok (.putfield 21, 3) := by decide +kernel
theorem dX10_append_37 : decode cX10_append 37 = .ok (.return_, 1) := by decide +kernel
theorem dX10_takeDue_0 : decode cX10_takeDue 0 = .ok (.iconst 0, 1) := by decide +kernel
theorem dX10_takeDue_1 : decode cX10_takeDue 1 = .ok (.istore_n 2, 1) := by decide +kernel
theorem dX10_takeDue_2 : decode cX10_takeDue 2 = .ok (.iload_n 2, 1) := by decide +kernel
theorem dX10_takeDue_3 : decode cX10_takeDue 3 = .ok (.aload_n 0, 1) := by decide +kernel
theorem dX10_takeDue_4 : decode cX10_takeDue 4 = .ok (.getfield 21, 3) := by decide +kernel
theorem dX10_takeDue_7 : decode cX10_takeDue 7 = .ok (.if_icmp .ge 82, 3) := by decide +kernel
theorem dX10_takeDue_10 : decode cX10_takeDue 10 = .ok (.iload_n 2, 1) := by decide +kernel
theorem dX10_takeDue_11 : decode cX10_takeDue 11 = .ok (.aload_n 0, 1) := by decide +kernel
theorem dX10_takeDue_12 : decode cX10_takeDue 12 = .ok (.getfield 15, 3) := by decide +kernel
theorem dX10_takeDue_15 : decode cX10_takeDue 15 = .ok (.arraylength, 1) := by decide +kernel
theorem dX10_takeDue_16 : decode cX10_takeDue 16 = .ok (.if_icmp .ge 73, 3) := by decide +kernel
theorem dX10_takeDue_19 : decode cX10_takeDue 19 = .ok (.aload_n 0, 1) := by decide +kernel
theorem dX10_takeDue_20 : decode cX10_takeDue 20 = .ok (.getfield 15, 3) := by decide +kernel
theorem dX10_takeDue_23 : decode cX10_takeDue 23 = .ok (.iload_n 2, 1) := by decide +kernel
theorem dX10_takeDue_24 : decode cX10_takeDue 24 = .ok (.aaload, 1) := by decide +kernel
theorem dX10_takeDue_25 : decode cX10_takeDue 25 = .ok (.astore_n 3, 1) := by decide +kernel
theorem dX10_takeDue_26 : decode cX10_takeDue 26 = .ok (.aload_n 3, 1) := by decide +kernel
theorem dX10_takeDue_27 : decode cX10_takeDue 27 = .ok (.ifnull 56, 3) := by decide +kernel
theorem dX10_takeDue_30 : decode cX10_takeDue 30 = .ok (.aload_n 3, 1) := by decide +kernel
theorem dX10_takeDue_31 : decode cX10_takeDue 31 = .ok (.getfield 25, 3) := by decide +kernel
theorem dX10_takeDue_34 : decode cX10_takeDue 34 = .ok (.iload_n 1, 1) := by decide +kernel
theorem dX10_takeDue_35 : decode cX10_takeDue 35 = .ok (.if_icmp .ne 48, 3) := by decide +kernel
theorem dX10_takeDue_38 : decode cX10_takeDue 38 = .ok (.aload_n 0, 1) := by decide +kernel
theorem dX10_takeDue_39 : decode cX10_takeDue 39 = .ok (.getfield 15, 3) := by decide +kernel
theorem dX10_takeDue_42 : decode cX10_takeDue 42 = .ok (.iload_n 2, 1) := by decide +kernel
theorem dX10_takeDue_43 : decode cX10_takeDue 43 = .ok (.iconst 1, 1) := by decide +kernel
theorem dX10_takeDue_44 : decode cX10_takeDue 44 = .ok (.iadd, 1) := by decide +kernel
theorem dX10_takeDue_45 : decode cX10_takeDue 45 = .ok (.aload_n 0, 1) := by decide +kernel
theorem dX10_takeDue_46 : decode cX10_takeDue 46 = .ok (.getfield 15, 3) := by decide +kernel
theorem dX10_takeDue_49 : decode cX10_takeDue 49 = .ok (.iload_n 2, 1) := by decide +kernel
theorem dX10_takeDue_50 : decode cX10_takeDue 50 = .ok (.aload_n 0, 1) := by decide +kernel
theorem dX10_takeDue_51 : decode cX10_takeDue 51 = .ok (.getfield 21, 3) := by decide +kernel
theorem dX10_takeDue_54 : decode cX10_takeDue 54 = .ok (.iload_n 2, 1) := by decide +kernel
theorem dX10_takeDue_55 : decode cX10_takeDue 55 = .ok (.isub, 1) := by decide +kernel
theorem dX10_takeDue_56 : decode cX10_takeDue 56 = .ok (.iconst 1, 1) := by decide +kernel
theorem dX10_takeDue_57 : decode cX10_takeDue 57 = .ok (.isub, 1) := by decide +kernel
theorem dX10_takeDue_58 : decode cX10_takeDue 58 = .ok (.invokestatic 28, 3) := by decide +kernel
theorem dX10_takeDue_61 : decode cX10_takeDue 61 = .ok (.aload_n 0, 1) := by decide +kernel
theorem dX10_takeDue_62 : decode cX10_takeDue 62 = .ok (.dup, 1) := by decide +kernel
theorem dX10_takeDue_63 : decode cX10_takeDue 63 = .ok (.getfield 21, 3) := by decide +kernel
theorem dX10_takeDue_66 : decode cX10_takeDue 66 = .ok (.iconst 1, 1) := by decide +kernel
theorem dX10_takeDue_67 : decode cX10_takeDue 67 = .ok (.isub, 1) := by decide +kernel
theorem dX10_takeDue_68 : decode cX10_takeDue 68 = .ok (.putfield 21, 3) := by decide +kernel
theorem dX10_takeDue_71 : decode cX10_takeDue 71 = .ok (.aload_n 0, 1) := by decide +kernel
theorem dX10_takeDue_72 : decode cX10_takeDue 72 = .ok (.getfield 15, 3) := by decide +kernel
theorem dX10_takeDue_75 : decode cX10_takeDue 75 = .ok (.aload_n 0, 1) := by decide +kernel
theorem dX10_takeDue_76 : decode cX10_takeDue 76 = .ok (.getfield 21, 3) := by decide +kernel
theorem dX10_takeDue_79 : decode cX10_takeDue 79 = .ok (.aconst_null, 1) := by decide +kernel
theorem dX10_takeDue_80 : decode cX10_takeDue 80 = .ok (.aastore, 1) := by decide +kernel
theorem dX10_takeDue_81 : decode cX10_takeDue 81 = .ok (.aload_n 3, 1) := by decide +kernel
theorem dX10_takeDue_82 : decode cX10_takeDue 82 = .ok (.areturn, 1) := by decide +kernel
theorem dX10_takeDue_83 : decode cX10_takeDue 83 = .ok (.iinc 2 1, 3) := by decide +kernel
theorem dX10_takeDue_86 : decode cX10_takeDue 86 = .ok (.goto (-84), 3) := by decide +kernel
theorem dX10_takeDue_89 : decode cX10_takeDue 89 = .ok (.aconst_null, 1) := by decide +kernel
theorem dX10_takeDue_90 : decode cX10_takeDue 90 = .ok (.areturn, 1) := by decide +kernel
theorem dX11_init_0 : decode cX11_init 0 = .ok (.aload_n 0, 1) := by decide +kernel
theorem dX11_init_1 : decode cX11_init 1 = .ok (.invokespecial 1, 3) := by decide +kernel
theorem dX11_init_4 : decode cX11_init 4 = .ok (.aload_n 0, 1) := by decide +kernel
theorem dX11_init_5 : decode cX11_init 5 = .ok (.new 7, 3) := by decide +kernel
theorem dX11_init_8 : decode cX11_init 8 = .ok (.dup, 1) := by decide +kernel
theorem dX11_init_9 : decode cX11_init 9 = .ok (.invokespecial 9, 3) := by decide +kernel
theorem dX11_init_12 : decode cX11_init 12 = .ok (.putfield 10, 3) := by decide +kernel
theorem dX11_init_15 : decode cX11_init 15 = .ok (.aload_n 0, 1) := by decide +kernel
theorem dX11_init_16 : decode cX11_init 16 = .ok (.iconst 4, 1) := by decide +kernel
theorem dX11_init_17 : decode cX11_init 17 = .ok (.anewarray 16, 3) := by decide +kernel
theorem dX11_init_20 : decode cX11_init 20 = .ok (.putfield 18, 3) := by decide +kernel
theorem dX11_init_23 : decode cX11_init 23 = .ok (.iconst 0, 1) := by decide +kernel
theorem dX11_init_24 : decode cX11_init 24 = .ok (.istore_n 1, 1) := by decide +kernel
theorem dX11_init_25 : decode cX11_init 25 = .ok (.iload_n 1, 1) := by decide +kernel
theorem dX11_init_26 : decode cX11_init 26 = .ok (.iconst 4, 1) := by decide +kernel
theorem dX11_init_27 : decode cX11_init 27 = .ok (.if_icmp .ge 22, 3) := by decide +kernel
theorem dX11_init_30 : decode cX11_init 30 = .ok (.aload_n 0, 1) := by decide +kernel
theorem dX11_init_31 : decode cX11_init 31 = .ok (.getfield 18, 3) := by decide +kernel
theorem dX11_init_34 : decode cX11_init 34 = .ok (.iload_n 1, 1) := by decide +kernel
theorem dX11_init_35 : decode cX11_init 35 = .ok (.new 16, 3) := by decide +kernel
theorem dX11_init_38 : decode cX11_init 38 = .ok (.dup, 1) := by decide +kernel
theorem dX11_init_39 : decode cX11_init 39 = .ok (.invokespecial 22, 3) := by decide +kernel
theorem dX11_init_42 : decode cX11_init 42 = .ok (.aastore, 1) := by decide +kernel
theorem dX11_init_43 : decode cX11_init 43 = .ok (.iinc 1 1, 3) := by decide +kernel
theorem dX11_init_46 : decode cX11_init 46 = .ok (.goto (-21), 3) := by decide +kernel
theorem dX11_init_49 : decode cX11_init 49 = .ok (.aload_n 0, 1) := by decide +kernel
theorem dX11_init_50 : decode cX11_init 50 = .ok (.new 23, 3) := by decide +kernel
theorem dX11_init_53 : decode cX11_init 53 = .ok (.dup, 1) := by decide +kernel
theorem dX11_init_54 : decode cX11_init 54 = .ok (.aload_n 0, 1) := by decide +kernel
theorem dX11_init_55 : decode cX11_init 55 = .ok (.getfield 10, 3) := by decide +kernel
theorem dX11_init_58 : decode cX11_init 58 = .ok (.aload_n 0, 1) := by decide +kernel
theorem dX11_init_59 : decode cX11_init 59 = .ok (.getfield 18, 3) := by decide +kernel
theorem dX11_init_62 : decode cX11_init 62 = .ok (.invokespecial 25, 3) := by decide +kernel
theorem dX11_init_65 : decode cX11_init 65 = .ok (.putfield 28, 3) := by decide +kernel
theorem dX11_init_68 : decode cX11_init 68 = .ok (.aload_n 0, 1) := by decide +kernel
theorem dX11_init_69 : decode cX11_init 69 = .ok (.new 32, 3) := by decide +kernel
theorem dX11_init_72 : decode cX11_init 72 = .ok (.dup, 1) := by decide +kernel
theorem dX11_init_73 : decode cX11_init 73 = .ok (.aload_n 0, 1) := by decide +kernel
theorem dX11_init_74 : decode cX11_init 74 = .ok (.getfield 10, 3) := by decide +kernel
theorem dX11_init_77 : decode cX11_init 77 = .ok (.aload_n 0, 1) := by decide +kernel
theorem dX11_init_78 : decode cX11_init 78 = .ok (.getfield 18, 3) := by decide +kernel
theorem dX11_init_81 : decode cX11_init 81 = .ok (.invokespecial 34, 3) := by decide +kernel
theorem dX11_init_84 : decode cX11_init 84 = .ok (.putfield 35, 3) := by decide +kernel
theorem dX11_init_87 : decode cX11_init 87 = .ok (.aload_n 0, 1) := by decide +kernel
theorem dX11_init_88 : decode cX11_init 88 = .ok (.sipush 200, 3) := by decide +kernel
theorem dX11_init_91 : decode cX11_init 91 = .ok (.newarray .boolean, 2) := by decide +kernel
theorem dX11_init_93 : decode cX11_init 93 = .ok (.putfield 39, 3) := by decide +kernel
theorem dX11_init_96 : decode cX11_init 96 = .ok (.return_, 1) := by decide +kernel
theorem dX11_setPath_0 : decode cX11_setPath 0 = .ok (.iload_n 1, 1) := by decide +kernel
theorem dX11_setPath_1 : decode cX11_setPath 1 = .ok (.invokestatic 43, 3) := by decide +kernel
theorem dX11_setPath_4 : decode cX11_setPath 4 = .ok (.iload_n 2, 1) := by decide +kernel
theorem dX11_setPath_5 : decode cX11_setPath 5 = .ok (.iconst 1, 1) := by decide +kernel
theorem dX11_setPath_6 : decode cX11_setPath 6 = .ok (.bipush 30, 2) := by decide +kernel
theorem dX11_setPath_8 : decode cX11_setPath 8 = .ok (.invokestatic 47, 3) := by decide +kernel
theorem dX11_setPath_11 : decode cX11_setPath 11 = .ok (.iload_n 3, 1) := by decide +kernel
theorem dX11_setPath_12 : decode cX11_setPath 12 = .ok (.iconst 1, 1) := by decide +kernel
theorem dX11_setPath_13 : decode cX11_setPath 13 = .ok (.bipush 9, 2) := by decide +kernel
theorem dX11_setPath_15 : decode cX11_setPath 15 = .ok (.invokestatic 47, 3) := by decide +kernel
theorem dX11_setPath_18 : decode cX11_setPath 18 = .ok (.iload 4, 2) := by decide +kernel
theorem dX11_setPath_20 : decode cX11_setPath 20 = .ok (.iconst 1, 1) := by decide +kernel
theorem dX11_setPath_21 : decode cX11_setPath 21 = .ok (.bipush 30, 2) := by decide +kernel
theorem dX11_setPath_23 : decode cX11_setPath 23 = .ok (.invokestatic 47, 3) := by decide +kernel
theorem dX11_setPath_26 : decode cX11_setPath 26 = .ok (.iload 5, 2) := by decide +kernel
theorem dX11_setPath_28 : decode cX11_setPath 28 = .ok (.iconst 0, 1) := by decide +kernel
theorem dX11_setPath_29 : decode cX11_setPath 29 = .ok (.bipush 30, 2) := by decide +kernel
theorem dX11_setPath_31 : decode cX11_setPath 31 = .ok (.invokestatic 47, 3) := by decide +kernel
theorem dX11_setPath_34 : decode cX11_setPath 34 = .ok (.aload_n 0, 1) := by decide +kernel
theorem dX11_setPath_35 : decode cX11_setPath 35 = .ok (.getfield 10, 3) := by decide +kernel
theorem dX11_setPath_38 : decode cX11_setPath 38 = .ok (.iload_n 1, 1) := by decide +kernel
theorem dX11_setPath_39 : decode cX11_setPath 39 = .ok (.invokevirtual 51, 3) := by decide +kernel
theorem dX11_setPath_42 : decode cX11_setPath 42 = .ok (.astore 6, 2) := by decide +kernel
theorem dX11_setPath_44 : decode cX11_setPath 44 = .ok (.aload 6, 2) := by decide +kernel
theorem dX11_setPath_46 : decode cX11_setPath 46 = .ok (.iload_n 2, 1) := by decide +kernel
theorem dX11_setPath_47 : decode cX11_setPath 47 = .ok (.putfield 55, 3) := by decide +kernel
theorem dX11_setPath_50 : decode cX11_setPath 50 = .ok (.aload 6, 2) := by decide +kernel
theorem dX11_setPath_52 : decode cX11_setPath 52 = .ok (.iload_n 3, 1) := by decide +kernel
theorem dX11_setPath_53 : decode cX11_setPath 53 = .ok (.putfield 61, 3) := by decide +kernel
theorem dX11_setPath_56 : decode cX11_setPath 56 = .ok (.aload 6, 2) := by decide +kernel
theorem dX11_setPath_58 : decode cX11_setPath 58 = .ok (.iload 4, 2) := by decide +kernel
theorem dX11_setPath_60 : decode cX11_setPath 60 = .ok (.putfield 64, 3) := by decide +kernel
theorem dX11_setPath_63 : decode cX11_setPath 63 = .ok (.aload 6, 2) := by decide +kernel
theorem dX11_setPath_65 : decode cX11_setPath 65 = .ok (.iload 5, 2) := by decide +kernel
theorem dX11_setPath_67 : decode cX11_setPath 67 = .ok (.putfield 67, 3) := by decide +kernel
theorem dX11_setPath_70 : decode cX11_setPath 70 = .ok (.return_, 1) := by decide +kernel
theorem dX11_setUp_0 : decode cX11_setUp 0 = .ok (.iload_n 1, 1) := by decide +kernel
theorem dX11_setUp_1 : decode cX11_setUp 1 = .ok (.invokestatic 43, 3) := by decide +kernel
theorem dX11_setUp_4 : decode cX11_setUp 4 = .ok (.aload_n 0, 1) := by decide +kernel
theorem dX11_setUp_5 : decode cX11_setUp 5 = .ok (.getfield 10, 3) := by decide +kernel
theorem dX11_setUp_8 : decode cX11_setUp 8 = .ok (.iload_n 1, 1) := by decide +kernel
theorem dX11_setUp_9 : decode cX11_setUp 9 = .ok (.invokevirtual 51, 3) := by decide +kernel
theorem dX11_setUp_12 : decode cX11_setUp 12 = .ok (.astore_n 3, 1) := by decide +kernel
theorem dX11_setUp_13 : decode cX11_setUp 13 = .ok (.aload_n 3, 1) := by decide +kernel
theorem dX11_setUp_14 : decode cX11_setUp 14 = .ok (.getfield 70, 3) := by decide +kernel
theorem dX11_setUp_17 : decode cX11_setUp 17 = .ok (.istore 4, 2) := by decide +kernel
theorem dX11_setUp_19 : decode cX11_setUp 19 = .ok (.aload_n 3, 1) := by decide +kernel
theorem dX11_setUp_20 : decode cX11_setUp 20 = .ok (.iload_n 2, 1) := by decide +kernel
theorem dX11_setUp_21 : decode cX11_setUp 21 = .ok (.putfield 70, 3) := by decide +kernel
theorem dX11_setUp_24 : decode cX11_setUp 24 = .ok (.iload 4, 2) := by decide +kernel
theorem dX11_setUp_26 : decode cX11_setUp 26 = .ok (.ireturn, 1) := by decide +kernel
theorem dX11_lose_0 : decode cX11_lose 0 = .ok (.iload_n 1, 1) := by decide +kernel
theorem dX11_lose_1 : decode cX11_lose 1 = .ok (.invokestatic 43, 3) := by decide +kernel
theorem dX11_lose_4 : decode cX11_lose 4 = .ok (.iload_n 3, 1) := by decide +kernel
theorem dX11_lose_5 : decode cX11_lose 5 = .ok (.iconst 0, 1) := by decide +kernel
theorem dX11_lose_6 : decode cX11_lose 6 = .ok (.bipush 20, 2) := by decide +kernel
theorem dX11_lose_8 : decode cX11_lose 8 = .ok (.invokestatic 47, 3) := by decide +kernel
theorem dX11_lose_11 : decode cX11_lose 11 = .ok (.aload_n 0, 1) := by decide +kernel
theorem dX11_lose_12 : decode cX11_lose 12 = .ok (.getfield 10, 3) := by decide +kernel
theorem dX11_lose_15 : decode cX11_lose 15 = .ok (.iload_n 1, 1) := by decide +kernel
theorem dX11_lose_16 : decode cX11_lose 16 = .ok (.invokevirtual 51, 3) := by decide +kernel
theorem dX11_lose_19 : decode cX11_lose 19 = .ok (.astore 4, 2) := by decide +kernel
theorem dX11_lose_21 : decode cX11_lose 21 = .ok (.iload_n 2, 1) := by decide +kernel
theorem dX11_lose_22 : decode cX11_lose 22 = .ok (.ifCond .eq 12, 3) := by decide +kernel
theorem dX11_lose_25 : decode cX11_lose 25 = .ok (.aload 4, 2) := by decide +kernel
theorem dX11_lose_27 : decode cX11_lose 27 = .ok (.iload_n 3, 1) := by decide +kernel
theorem dX11_lose_28 : decode cX11_lose 28 = .ok (.putfield 74, 3) := by decide +kernel
theorem dX11_lose_31 : decode cX11_lose 31 = .ok (.goto 9, 3) := by decide +kernel
theorem dX11_lose_34 : decode cX11_lose 34 = .ok (.aload 4, 2) := by decide +kernel
theorem dX11_lose_36 : decode cX11_lose 36 = .ok (.iload_n 3, 1) := by decide +kernel
theorem dX11_lose_37 : decode cX11_lose 37 = .ok (.putfield 77, 3) := by decide +kernel
theorem dX11_lose_40 : decode cX11_lose 40 = .ok (.return_, 1) := by decide +kernel
theorem dX11_late_0 : decode cX11_late 0 = .ok (.iload_n 1, 1) := by decide +kernel
theorem dX11_late_1 : decode cX11_late 1 = .ok (.invokestatic 43, 3) := by decide +kernel
theorem dX11_late_4 : decode cX11_late 4 = .ok (.iload_n 2, 1) := by decide +kernel
theorem dX11_late_5 : decode cX11_late 5 = .ok (.iconst 0, 1) := by decide +kernel
theorem dX11_late_6 : decode cX11_late 6 = .ok (.bipush 20, 2) := by decide +kernel
theorem dX11_late_8 : decode cX11_late 8 = .ok (.invokestatic 47, 3) := by decide +kernel
theorem dX11_late_11 : decode cX11_late 11 = .ok (.iload_n 3, 1) := by decide +kernel
theorem dX11_late_12 : decode cX11_late 12 = .ok (.iconst 0, 1) := by decide +kernel
theorem dX11_late_13 : decode cX11_late 13 = .ok (.bipush 50, 2) := by decide +kernel
theorem dX11_late_15 : decode cX11_late 15 = .ok (.invokestatic 47, 3) := by decide +kernel
theorem dX11_late_18 : decode cX11_late 18 = .ok (.aload_n 0, 1) := by decide +kernel
theorem dX11_late_19 : decode cX11_late 19 = .ok (.getfield 10, 3) := by decide +kernel
theorem dX11_late_22 : decode cX11_late 22 = .ok (.iload_n 1, 1) := by decide +kernel
theorem dX11_late_23 : decode cX11_late 23 = .ok (.invokevirtual 51, 3) := by decide +kernel
theorem dX11_late_26 : decode cX11_late 26 = .ok (.astore 4, 2) := by decide +kernel
theorem dX11_late_28 : decode cX11_late 28 = .ok (.aload 4, 2) := by decide +kernel
theorem dX11_late_30 : decode cX11_late 30 = .ok (.iload_n 2, 1) := by decide +kernel
theorem dX11_late_31 : decode cX11_late 31 = .ok (.putfield 80, 3) := by decide +kernel
theorem dX11_late_34 : decode cX11_late 34 = .ok (.aload 4, 2) := by decide +kernel
theorem dX11_late_36 : decode cX11_late 36 = .ok (.iload_n 3, 1) := by decide +kernel
theorem dX11_late_37 : decode cX11_late 37 = .ok (.putfield 83, 3) := by decide +kernel
theorem dX11_late_40 : decode cX11_late 40 = .ok (.return_, 1) := by decide +kernel
theorem dX11_foreign_0 : decode cX11_foreign 0 = .ok (.iload_n 1, 1) := by decide +kernel
theorem dX11_foreign_1 : decode cX11_foreign 1 = .ok (.invokestatic 43, 3) := by decide +kernel
theorem dX11_foreign_4 : decode cX11_foreign 4 = .ok (.iload_n 2, 1) := by decide +kernel
theorem dX11_foreign_5 : decode cX11_foreign 5 = .ok (.iconst 1, 1) := by decide +kernel
theorem dX11_foreign_6 : decode cX11_foreign 6 = .ok (.bipush 30, 2) := by decide +kernel
theorem dX11_foreign_8 : decode cX11_foreign 8 = .ok (.invokestatic 47, 3) := by decide +kernel
theorem dX11_foreign_11 : decode cX11_foreign 11 = .ok (.aload_n 0, 1) := by decide +kernel
theorem dX11_foreign_12 : decode cX11_foreign 12 = .ok (.getfield 10, 3) := by decide +kernel
theorem dX11_foreign_15 : decode cX11_foreign 15 = .ok (.iload_n 1, 1) := by decide +kernel
theorem dX11_foreign_16 : decode cX11_foreign 16 = .ok (.iload_n 2, 1) := by decide +kernel
theorem dX11_foreign_17 : decode cX11_foreign 17 = .ok (.invokevirtual 86, 3) := by decide +kernel
theorem dX11_foreign_20 : decode cX11_foreign 20 = .ok (.ireturn, 1) := by decide +kernel
theorem dX11_setCookies_0 : decode cX11_setCookies 0 = .ok (.aload_n 0, 1) := by decide +kernel
theorem dX11_setCookies_1 : decode cX11_setCookies 1 = .ok (.getfield 28, 3) := by decide +kernel
theorem dX11_setCookies_4 : decode cX11_setCookies 4 = .ok (.getfield 90, 3) := by decide +kernel
theorem dX11_setCookies_7 : decode cX11_setCookies 7 = .ok (.istore_n 2, 1) := by decide +kernel
theorem dX11_setCookies_8 : decode cX11_setCookies 8 = .ok (.aload_n 0, 1) := by decide +kernel
theorem dX11_setCookies_9 : decode cX11_setCookies 9 = .ok (.getfield 28, 3) := by decide +kernel
theorem dX11_setCookies_12 : decode cX11_setCookies 12 = .ok (.iload_n 1, 1) := by decide +kernel
theorem dX11_setCookies_13 : decode cX11_setCookies 13 = .ok (.putfield 90, 3) := by decide +kernel
theorem dX11_setCookies_16 : decode cX11_setCookies 16 = .ok (.iload_n 2, 1) := by decide +kernel
theorem dX11_setCookies_17 : decode cX11_setCookies 17 = .ok (.ireturn, 1) := by decide +kernel
theorem dX11_read_0 : decode cX11_read 0 = .ok (.iload_n 1, 1) := by decide +kernel
theorem dX11_read_1 : decode cX11_read 1 = .ok (.invokestatic 93, 3) := by decide +kernel
theorem dX11_read_4 : decode cX11_read 4 = .ok (.iload_n 2, 1) := by decide +kernel
theorem dX11_read_5 : decode cX11_read 5 = .ok (.iconst 1, 1) := by decide +kernel
theorem dX11_read_6 : decode cX11_read 6 = .ok (.sipush 200, 3) := by decide +kernel
theorem dX11_read_9 : decode cX11_read 9 = .ok (.invokestatic 47, 3) := by decide +kernel
theorem dX11_read_12 : decode cX11_read 12 = .ok (.aload_n 0, 1) := by decide +kernel
theorem dX11_read_13 : decode cX11_read 13 = .ok (.getfield 28, 3) := by decide +kernel
theorem dX11_read_16 : decode cX11_read 16 = .ok (.aload_n 0, 1) := by decide +kernel
theorem dX11_read_17 : decode cX11_read 17 = .ok (.getfield 18, 3) := by decide +kernel
theorem dX11_read_20 : decode cX11_read 20 = .ok (.iload_n 1, 1) := by decide +kernel
theorem dX11_read_21 : decode cX11_read 21 = .ok (.aaload, 1) := by decide +kernel
theorem dX11_read_22 : decode cX11_read 22 = .ok (.iload_n 2, 1) := by decide +kernel
theorem dX11_read_23 : decode cX11_read 23 = .ok (.invokevirtual 96, 3) := by decide +kernel
theorem dX11_read_26 : decode cX11_read 26 = .ok (.ireturn, 1) := by decide +kernel
theorem dX11_loseState_0 : decode cX11_loseState 0 = .ok (.aload_n 0, 1) := by decide +kernel
theorem dX11_loseState_1 : decode cX11_loseState 1 = .ok (.getfield 28, 3) := by decide +kernel
theorem dX11_loseState_4 : decode cX11_loseState 4 = .ok (.invokevirtual 100, 3) := by decide +kernel
theorem dX11_loseState_7 : decode cX11_loseState 7 = .ok (.return_, 1) := by decide +kernel
theorem dX11_connect_0 : decode cX11_connect 0 = .ok (.iload_n 1, 1) := by decide +kernel
theorem dX11_connect_1 : decode cX11_connect 1 = .ok (.iconst (-1), 1) := by decide +kernel
theorem dX11_connect_2 : decode cX11_connect 2 = .ok (.bipush 9, 2) := by decide +kernel
theorem dX11_connect_4 : decode cX11_connect 4 = .ok (.invokestatic 47, 3) := by decide +kernel
theorem dX11_connect_7 : decode cX11_connect 7 = .ok (.aload_n 0, 1) := by decide +kernel
theorem dX11_connect_8 : decode cX11_connect 8 = .ok (.getfield 35, 3) := by decide +kernel
theorem dX11_connect_11 : decode cX11_connect 11 = .ok (.getfield 103, 3) := by decide +kernel
theorem dX11_connect_14 : decode cX11_connect 14 = .ok (.ifCond .ne 7, 3) := by decide +kernel
theorem dX11_connect_17 : decode cX11_connect 17 = .ok (.iconst 1, 1) := by decide +kernel
theorem dX11_connect_18 : decode cX11_connect 18 = .ok (.goto 4, 3) := by decide +kernel
theorem dX11_connect_21 : decode cX11_connect 21 = .ok (.iconst 0, 1) := by decide +kernel
theorem dX11_connect_22 : decode cX11_connect 22 = .ok (.invokestatic 106, 3) := by decide +kernel
theorem dX11_connect_25 : decode cX11_connect 25 = .ok (.aload_n 0, 1) := by decide +kernel
theorem dX11_connect_26 : decode cX11_connect 26 = .ok (.getfield 35, 3) := by decide +kernel
theorem dX11_connect_29 : decode cX11_connect 29 = .ok (.iload_n 1, 1) := by decide +kernel
theorem dX11_connect_30 : decode cX11_connect 30 = .ok (.invokevirtual 110, 3) := by decide +kernel
theorem dX11_connect_33 : decode cX11_connect 33 = .ok (.return_, 1) := by decide +kernel
theorem dX11_write_0 : decode cX11_write 0 = .ok (.iload_n 1, 1) := by decide +kernel
theorem dX11_write_1 : decode cX11_write 1 = .ok (.invokestatic 93, 3) := by decide +kernel
theorem dX11_write_4 : decode cX11_write 4 = .ok (.iload_n 2, 1) := by decide +kernel
theorem dX11_write_5 : decode cX11_write 5 = .ok (.iconst 1, 1) := by decide +kernel
theorem dX11_write_6 : decode cX11_write 6 = .ok (.sipush 200, 3) := by decide +kernel
theorem dX11_write_9 : decode cX11_write 9 = .ok (.invokestatic 47, 3) := by decide +kernel
theorem dX11_write_12 : decode cX11_write 12 = .ok (.aload_n 0, 1) := by decide +kernel
theorem dX11_write_13 : decode cX11_write 13 = .ok (.getfield 18, 3) := by decide +kernel
theorem dX11_write_16 : decode cX11_write 16 = .ok (.iload_n 1, 1) := by decide +kernel
theorem dX11_write_17 : decode cX11_write 17 = .ok (.aaload, 1) := by decide +kernel
theorem dX11_write_18 : decode cX11_write 18 = .ok (.astore_n 3, 1) := by decide +kernel
theorem dX11_write_19 : decode cX11_write 19 = .ok (.aload_n 3, 1) := by decide +kernel
theorem dX11_write_20 : decode cX11_write 20 = .ok (.getfield 113, 3) := by decide +kernel
theorem dX11_write_23 : decode cX11_write 23 = .ok (.iload_n 2, 1) := by decide +kernel
theorem dX11_write_24 : decode cX11_write 24 = .ok (.iadd, 1) := by decide +kernel
theorem dX11_write_25 : decode cX11_write 25 = .ok (.sipush 200, 3) := by decide +kernel
theorem dX11_write_28 : decode cX11_write 28 = .ok (.if_icmp .gt 7, 3) := by decide +kernel
theorem dX11_write_31 : decode cX11_write 31 = .ok (.iconst 1, 1) := by decide +kernel
theorem dX11_write_32 : decode cX11_write 32 = .ok (.goto 4, 3) := by decide +kernel
theorem dX11_write_35 : decode cX11_write 35 = .ok (.iconst 0, 1) := by decide +kernel
theorem dX11_write_36 : decode cX11_write 36 = .ok (.invokestatic 106, 3) := by decide +kernel
theorem dX11_write_39 : decode cX11_write 39 = .ok (.aload_n 3, 1) := by decide +kernel
theorem dX11_write_40 : decode cX11_write 40 = .ok (.dup, 1) := by decide +kernel
theorem dX11_write_41 : decode cX11_write 41 = .ok (.getfield 113, 3) := by decide +kernel
theorem dX11_write_44 : decode cX11_write 44 = .ok (.iload_n 2, 1) := by decide +kernel
theorem dX11_write_45 : decode cX11_write 45 = .ok (.iadd, 1) := by decide +kernel
theorem dX11_write_46 : decode cX11_write 46 = .ok (.putfield 113, 3) := by decide +kernel
theorem dX11_write_49 : decode cX11_write 49 = .ok (.aload_n 3, 1) := by decide +kernel
theorem dX11_write_50 : decode cX11_write 50 = .ok (.getfield 113, 3) := by decide +kernel
theorem dX11_write_53 : decode cX11_write 53 = .ok (.ireturn, 1) := by decide +kernel
theorem dX11_setWay_0 : decode cX11_setWay 0 = .ok (.iload_n 1, 1) := by decide +kernel
theorem dX11_setWay_1 : decode cX11_setWay 1 = .ok (.invokestatic 43, 3) := by decide +kernel
theorem dX11_setWay_4 : decode cX11_setWay 4 = .ok (.iload_n 2, 1) := by decide +kernel
theorem dX11_setWay_5 : decode cX11_setWay 5 = .ok (.iconst 0, 1) := by decide +kernel
theorem dX11_setWay_6 : decode cX11_setWay 6 = .ok (.iconst 2, 1) := by decide +kernel
theorem dX11_setWay_7 : decode cX11_setWay 7 = .ok (.invokestatic 47, 3) := by decide +kernel
theorem dX11_setWay_10 : decode cX11_setWay 10 = .ok (.aload_n 0, 1) := by decide +kernel
theorem dX11_setWay_11 : decode cX11_setWay 11 = .ok (.getfield 35, 3) := by decide +kernel
theorem dX11_setWay_14 : decode cX11_setWay 14 = .ok (.iload_n 1, 1) := by decide +kernel
theorem dX11_setWay_15 : decode cX11_setWay 15 = .ok (.invokevirtual 116, 3) := by decide +kernel
theorem dX11_setWay_18 : decode cX11_setWay 18 = .ok (.getfield 120, 3) := by decide +kernel
theorem dX11_setWay_21 : decode cX11_setWay 21 = .ok (.astore_n 3, 1) := by decide +kernel
theorem dX11_setWay_22 : decode cX11_setWay 22 = .ok (.aload_n 3, 1) := by decide +kernel
theorem dX11_setWay_23 : decode cX11_setWay 23 = .ok (.getfield 126, 3) := by decide +kernel
theorem dX11_setWay_26 : decode cX11_setWay 26 = .ok (.istore 4, 2) := by decide +kernel
theorem dX11_setWay_28 : decode cX11_setWay 28 = .ok (.aload_n 3, 1) := by decide +kernel
theorem dX11_setWay_29 : decode cX11_setWay 29 = .ok (.iload_n 2, 1) := by decide +kernel
theorem dX11_setWay_30 : decode cX11_setWay 30 = .ok (.putfield 126, 3) := by decide +kernel
theorem dX11_setWay_33 : decode cX11_setWay 33 = .ok (.iload 4, 2) := by decide +kernel
theorem dX11_setWay_35 : decode cX11_setWay 35 = .ok (.ireturn, 1) := by decide +kernel
theorem dX11_check_0 : decode cX11_check 0 = .ok (.iload_n 1, 1) := by decide +kernel
theorem dX11_check_1 : decode cX11_check 1 = .ok (.invokestatic 43, 3) := by decide +kernel
theorem dX11_check_4 : decode cX11_check 4 = .ok (.aload_n 0, 1) := by decide +kernel
theorem dX11_check_5 : decode cX11_check 5 = .ok (.getfield 35, 3) := by decide +kernel
theorem dX11_check_8 : decode cX11_check 8 = .ok (.getfield 103, 3) := by decide +kernel
theorem dX11_check_11 : decode cX11_check 11 = .ok (.iconst 2, 1) := by decide +kernel
theorem dX11_check_12 : decode cX11_check 12 = .ok (.if_icmp .ne 7, 3) := by decide +kernel
theorem dX11_check_15 : decode cX11_check 15 = .ok (.iconst 1, 1) := by decide +kernel
theorem dX11_check_16 : decode cX11_check 16 = .ok (.goto 4, 3) := by decide +kernel
theorem dX11_check_19 : decode cX11_check 19 = .ok (.iconst 0, 1) := by decide +kernel
theorem dX11_check_20 : decode cX11_check 20 = .ok (.invokestatic 106, 3) := by decide +kernel
theorem dX11_check_23 : decode cX11_check 23 = .ok (.aload_n 0, 1) := by decide +kernel
theorem dX11_check_24 : decode cX11_check 24 = .ok (.getfield 10, 3) := by decide +kernel
theorem dX11_check_27 : decode cX11_check 27 = .ok (.iload_n 1, 1) := by decide +kernel
theorem dX11_check_28 : decode cX11_check 28 = .ok (.new 131, 3) := by decide +kernel
theorem dX11_check_31 : decode cX11_check 31 = .ok (.dup, 1) := by decide +kernel
theorem dX11_check_32 : decode cX11_check 32 = .ok (.iconst 5, 1) := by decide +kernel
theorem dX11_check_33 : decode cX11_check 33 = .ok (.invokespecial 133, 3) := by decide +kernel
theorem dX11_check_36 : decode cX11_check 36 = .ok (.invokevirtual 135, 3) := by decide +kernel
theorem dX11_check_39 : decode cX11_check 39 = .ok (.return_, 1) := by decide +kernel
theorem dX11_use_0 : decode cX11_use 0 = .ok (.iload_n 1, 1) := by decide +kernel
theorem dX11_use_1 : decode cX11_use 1 = .ok (.iconst 0, 1) := by decide +kernel
theorem dX11_use_2 : decode cX11_use 2 = .ok (.iconst 2, 1) := by decide +kernel
theorem dX11_use_3 : decode cX11_use 3 = .ok (.invokestatic 47, 3) := by decide +kernel
theorem dX11_use_6 : decode cX11_use 6 = .ok (.iload_n 1, 1) := by decide +kernel
theorem dX11_use_7 : decode cX11_use 7 = .ok (.iconst 1, 1) := by decide +kernel
theorem dX11_use_8 : decode cX11_use 8 = .ok (.if_icmp .eq 17, 3) := by decide +kernel
theorem dX11_use_11 : decode cX11_use 11 = .ok (.aload_n 0, 1) := by decide +kernel
theorem dX11_use_12 : decode cX11_use 12 = .ok (.getfield 35, 3) := by decide +kernel
theorem dX11_use_15 : decode cX11_use 15 = .ok (.iconst 0, 1) := by decide +kernel
theorem dX11_use_16 : decode cX11_use 16 = .ok (.invokevirtual 116, 3) := by decide +kernel
theorem dX11_use_19 : decode cX11_use 19 = .ok (.getfield 139, 3) := by decide +kernel
theorem dX11_use_22 : decode cX11_use 22 = .ok (.ifCond .eq 7, 3) := by decide +kernel
theorem dX11_use_25 : decode cX11_use 25 = .ok (.iconst 1, 1) := by decide +kernel
theorem dX11_use_26 : decode cX11_use 26 = .ok (.goto 4, 3) := by decide +kernel
theorem dX11_use_29 : decode cX11_use 29 = .ok (.iconst 0, 1) := by decide +kernel
theorem dX11_use_30 : decode cX11_use 30 = .ok (.invokestatic 106, 3) := by decide +kernel
theorem dX11_use_33 : decode cX11_use 33 = .ok (.iload_n 1, 1) := by decide +kernel
theorem dX11_use_34 : decode cX11_use 34 = .ok (.ifCond .eq 17, 3) := by decide +kernel
theorem dX11_use_37 : decode cX11_use 37 = .ok (.aload_n 0, 1) := by decide +kernel
theorem dX11_use_38 : decode cX11_use 38 = .ok (.getfield 35, 3) := by decide +kernel
theorem dX11_use_41 : decode cX11_use 41 = .ok (.iconst 1, 1) := by decide +kernel
theorem dX11_use_42 : decode cX11_use 42 = .ok (.invokevirtual 116, 3) := by decide +kernel
theorem dX11_use_45 : decode cX11_use 45 = .ok (.getfield 139, 3) := by decide +kernel
theorem dX11_use_48 : decode cX11_use 48 = .ok (.ifCond .eq 7, 3) := by decide +kernel
theorem dX11_use_51 : decode cX11_use 51 = .ok (.iconst 1, 1) := by decide +kernel
theorem dX11_use_52 : decode cX11_use 52 = .ok (.goto 4, 3) := by decide +kernel
theorem dX11_use_55 : decode cX11_use 55 = .ok (.iconst 0, 1) := by decide +kernel
theorem dX11_use_56 : decode cX11_use 56 = .ok (.invokestatic 106, 3) := by decide +kernel
theorem dX11_use_59 : decode cX11_use 59 = .ok (.aload_n 0, 1) := by decide +kernel
theorem dX11_use_60 : decode cX11_use 60 = .ok (.getfield 35, 3) := by decide +kernel
theorem dX11_use_63 : decode cX11_use 63 = .ok (.getfield 142, 3) := by decide +kernel
theorem dX11_use_66 : decode cX11_use 66 = .ok (.istore_n 2, 1) := by decide +kernel
theorem dX11_use_67 : decode cX11_use 67 = .ok (.aload_n 0, 1) := by decide +kernel
theorem dX11_use_68 : decode cX11_use 68 = .ok (.getfield 35, 3) := by decide +kernel
theorem dX11_use_71 : decode cX11_use 71 = .ok (.iload_n 1, 1) := by decide +kernel
theorem dX11_use_72 : decode cX11_use 72 = .ok (.putfield 142, 3) := by decide +kernel
theorem dX11_use_75 : decode cX11_use 75 = .ok (.iload_n 2, 1) := by decide +kernel
theorem dX11_use_76 : decode cX11_use 76 = .ok (.ireturn, 1) := by decide +kernel
theorem dX11_changeKey_0 : decode cX11_changeKey 0 = .ok (.aload_n 0, 1) := by decide +kernel
theorem dX11_changeKey_1 : decode cX11_changeKey 1 = .ok (.getfield 35, 3) := by decide +kernel
theorem dX11_changeKey_4 : decode cX11_changeKey 4 = .ok (.invokevirtual 145, 3) := by decide +kernel
theorem dX11_changeKey_7 : decode cX11_changeKey 7 = .ok (.invokestatic 106, 3) := by decide +kernel
theorem dX11_changeKey_10 : decode cX11_changeKey 10 = .ok (.aload_n 0, 1) := by decide +kernel
theorem dX11_changeKey_11 : decode cX11_changeKey 11 = .ok (.getfield 35, 3) := by decide +kernel
theorem dX11_changeKey_14 : decode cX11_changeKey 14 = .ok (.dup, 1) := by decide +kernel
theorem dX11_changeKey_15 : decode cX11_changeKey 15 = .ok (.getfield 149, 3) := by decide +kernel
theorem dX11_changeKey_18 : decode cX11_changeKey 18 = .ok (.iconst 1, 1) := by decide +kernel
theorem dX11_changeKey_19 : decode cX11_changeKey 19 = .ok (.iadd, 1) := by decide +kernel
theorem dX11_changeKey_20 : decode cX11_changeKey 20 = .ok (.putfield 149, 3) := by decide +kernel
theorem dX11_changeKey_23 : decode cX11_changeKey 23 = .ok (.aload_n 0, 1) := by decide +kernel
theorem dX11_changeKey_24 : decode cX11_changeKey 24 = .ok (.getfield 35, 3) := by decide +kernel
theorem dX11_changeKey_27 : decode cX11_changeKey 27 = .ok (.getfield 149, 3) := by decide +kernel
theorem dX11_changeKey_30 : decode cX11_changeKey 30 = .ok (.ireturn, 1) := by decide +kernel
theorem dX11_close_0 : decode cX11_close 0 = .ok (.aload_n 0, 1) := by decide +kernel
theorem dX11_close_1 : decode cX11_close 1 = .ok (.getfield 35, 3) := by decide +kernel
theorem dX11_close_4 : decode cX11_close 4 = .ok (.getfield 103, 3) := by decide +kernel
theorem dX11_close_7 : decode cX11_close 7 = .ok (.iconst 2, 1) := by decide +kernel
theorem dX11_close_8 : decode cX11_close 8 = .ok (.if_icmp .ne 7, 3) := by decide +kernel
theorem dX11_close_11 : decode cX11_close 11 = .ok (.iconst 1, 1) := by decide +kernel
theorem dX11_close_12 : decode cX11_close 12 = .ok (.goto 4, 3) := by decide +kernel
theorem dX11_close_15 : decode cX11_close 15 = .ok (.iconst 0, 1) := by decide +kernel
theorem dX11_close_16 : decode cX11_close 16 = .ok (.invokestatic 106, 3) := by decide +kernel
theorem dX11_close_19 : decode cX11_close 19 = .ok (.aload_n 0, 1) := by decide +kernel
theorem dX11_close_20 : decode cX11_close 20 = .ok (.getfield 35, 3) := by decide +kernel
theorem dX11_close_23 : decode cX11_close 23 = .ok (.invokevirtual 152, 3) := by decide +kernel
theorem dX11_close_26 : decode cX11_close 26 = .ok (.return_, 1) := by decide +kernel
theorem dX11_tick_0 : decode cX11_tick 0 = .ok (.iload_n 1, 1) := by decide +kernel
theorem dX11_tick_1 : decode cX11_tick 1 = .ok (.iconst 1, 1) := by decide +kernel
theorem dX11_tick_2 : decode cX11_tick 2 = .ok (.bipush 50, 2) := by decide +kernel
theorem dX11_tick_4 : decode cX11_tick 4 = .ok (.invokestatic 47, 3) := by decide +kernel
theorem dX11_tick_7 : decode cX11_tick 7 = .ok (.aload_n 0, 1) := by decide +kernel
theorem dX11_tick_8 : decode cX11_tick 8 = .ok (.getfield 10, 3) := by decide +kernel
theorem dX11_tick_11 : decode cX11_tick 11 = .ok (.getfield 155, 3) := by decide +kernel
theorem dX11_tick_14 : decode cX11_tick 14 = .ok (.iload_n 1, 1) := by decide +kernel
theorem dX11_tick_15 : decode cX11_tick 15 = .ok (.iadd, 1) := by decide +kernel
theorem dX11_tick_16 : decode cX11_tick 16 = .ok (.sipush 2000, 3) := by decide +kernel
theorem dX11_tick_19 : decode cX11_tick 19 = .ok (.if_icmp .gt 7, 3) := by decide +kernel
theorem dX11_tick_22 : decode cX11_tick 22 = .ok (.iconst 1, 1) := by decide +kernel
theorem dX11_tick_23 : decode cX11_tick 23 = .ok (.goto 4, 3) := by decide +kernel
theorem dX11_tick_26 : decode cX11_tick 26 = .ok (.iconst 0, 1) := by decide +kernel
theorem dX11_tick_27 : decode cX11_tick 27 = .ok (.invokestatic 106, 3) := by decide +kernel
theorem dX11_tick_30 : decode cX11_tick 30 = .ok (.iconst 0, 1) := by decide +kernel
theorem dX11_tick_31 : decode cX11_tick 31 = .ok (.istore_n 2, 1) := by decide +kernel
theorem dX11_tick_32 : decode cX11_tick 32 = .ok (.iload_n 2, 1) := by decide +kernel
theorem dX11_tick_33 : decode cX11_tick 33 = .ok (.iload_n 1, 1) := by decide +kernel
theorem dX11_tick_34 : decode cX11_tick 34 = .ok (.if_icmp .ge 64, 3) := by decide +kernel
theorem dX11_tick_37 : decode cX11_tick 37 = .ok (.aload_n 0, 1) := by decide +kernel
theorem dX11_tick_38 : decode cX11_tick 38 = .ok (.getfield 10, 3) := by decide +kernel
theorem dX11_tick_41 : decode cX11_tick 41 = .ok (.dup, 1) := by decide +kernel
theorem dX11_tick_42 : decode cX11_tick 42 = .ok (.getfield 155, 3) := by decide +kernel
theorem dX11_tick_45 : decode cX11_tick 45 = .ok (.iconst 1, 1) := by decide +kernel
theorem dX11_tick_46 : decode cX11_tick 46 = .ok (.iadd, 1) := by decide +kernel
theorem dX11_tick_47 : decode cX11_tick 47 = .ok (.putfield 155, 3) := by decide +kernel
theorem dX11_tick_50 : decode cX11_tick 50 = .ok (.aload_n 0, 1) := by decide +kernel
theorem dX11_tick_51 : decode cX11_tick 51 = .ok (.getfield 28, 3) := by decide +kernel
theorem dX11_tick_54 : decode cX11_tick 54 = .ok (.invokevirtual 158, 3) := by decide +kernel
theorem dX11_tick_57 : decode cX11_tick 57 = .ok (.aload_n 0, 1) := by decide +kernel
theorem dX11_tick_58 : decode cX11_tick 58 = .ok (.getfield 35, 3) := by decide +kernel
theorem dX11_tick_61 : decode cX11_tick 61 = .ok (.invokevirtual 161, 3) := by decide +kernel
theorem dX11_tick_64 : decode cX11_tick 64 = .ok (.aload_n 0, 1) := by decide +kernel
theorem dX11_tick_65 : decode cX11_tick 65 = .ok (.getfield 28, 3) := by decide +kernel
theorem dX11_tick_68 : decode cX11_tick 68 = .ok (.invokevirtual 162, 3) := by decide +kernel
theorem dX11_tick_71 : decode cX11_tick 71 = .ok (.aload_n 0, 1) := by decide +kernel
theorem dX11_tick_72 : decode cX11_tick 72 = .ok (.getfield 35, 3) := by decide +kernel
theorem dX11_tick_75 : decode cX11_tick 75 = .ok (.invokevirtual 165, 3) := by decide +kernel
theorem dX11_tick_78 : decode cX11_tick 78 = .ok (.aload_n 0, 1) := by decide +kernel
theorem dX11_tick_79 : decode cX11_tick 79 = .ok (.getfield 35, 3) := by decide +kernel
theorem dX11_tick_82 : decode cX11_tick 82 = .ok (.invokevirtual 168, 3) := by decide +kernel
theorem dX11_tick_85 : decode cX11_tick 85 = .ok (.aload_n 0, 1) := by decide +kernel
theorem dX11_tick_86 : decode cX11_tick 86 = .ok (.getfield 10, 3) := by decide +kernel
theorem dX11_tick_89 : decode cX11_tick 89 = .ok (.invokevirtual 171, 3) := by decide +kernel
theorem dX11_tick_92 : decode cX11_tick 92 = .ok (.iinc 2 1, 3) := by decide +kernel
theorem dX11_tick_95 : decode cX11_tick 95 = .ok (.goto (-63), 3) := by decide +kernel
theorem dX11_tick_98 : decode cX11_tick 98 = .ok (.aload_n 0, 1) := by decide +kernel
theorem dX11_tick_99 : decode cX11_tick 99 = .ok (.getfield 10, 3) := by decide +kernel
theorem dX11_tick_102 : decode cX11_tick 102 = .ok (.getfield 155, 3) := by decide +kernel
theorem dX11_tick_105 : decode cX11_tick 105 = .ok (.ireturn, 1) := by decide +kernel
theorem dX11_now_0 : decode cX11_now 0 = .ok (.aload_n 0, 1) := by decide +kernel
theorem dX11_now_1 : decode cX11_now 1 = .ok (.getfield 10, 3) := by decide +kernel
theorem dX11_now_4 : decode cX11_now 4 = .ok (.getfield 155, 3) := by decide +kernel
theorem dX11_now_7 : decode cX11_now 7 = .ok (.ireturn, 1) := by decide +kernel
theorem dX11_state_0 : decode cX11_state 0 = .ok (.iload_n 1, 1) := by decide +kernel
theorem dX11_state_1 : decode cX11_state 1 = .ok (.iconst 0, 1) := by decide +kernel
theorem dX11_state_2 : decode cX11_state 2 = .ok (.iconst 4, 1) := by decide +kernel
theorem dX11_state_3 : decode cX11_state 3 = .ok (.invokestatic 47, 3) := by decide +kernel
theorem dX11_state_6 : decode cX11_state 6 = .ok (.iload_n 1, 1) := by decide +kernel
theorem dX11_state_7 : decode cX11_state 7 = .ok (.tableswitch 61 0 3 #[29, 37, 45, 53], 29) := by decide +kernel
theorem dX11_state_36 : decode cX11_state 36 = .ok (.aload_n 0, 1) := by decide +kernel
theorem dX11_state_37 : decode cX11_state 37 = .ok (.getfield 35, 3) := by decide +kernel
theorem dX11_state_40 : decode cX11_state 40 = .ok (.getfield 103, 3) := by decide +kernel
theorem dX11_state_43 : decode cX11_state 43 = .ok (.ireturn, 1) := by decide +kernel
theorem dX11_state_44 : decode cX11_state 44 = .ok (.aload_n 0, 1) := by decide +kernel
theorem dX11_state_45 : decode cX11_state 45 = .ok (.getfield 28, 3) := by decide +kernel
theorem dX11_state_48 : decode cX11_state 48 = .ok (.getfield 174, 3) := by decide +kernel
theorem dX11_state_51 : decode cX11_state 51 = .ok (.ireturn, 1) := by decide +kernel
theorem dX11_state_52 : decode cX11_state 52 = .ok (.aload_n 0, 1) := by decide +kernel
theorem dX11_state_53 : decode cX11_state 53 = .ok (.getfield 35, 3) := by decide +kernel
theorem dX11_state_56 : decode cX11_state 56 = .ok (.getfield 149, 3) := by decide +kernel
theorem dX11_state_59 : decode cX11_state 59 = .ok (.ireturn, 1) := by decide +kernel
theorem dX11_state_60 : decode cX11_state 60 = .ok (.aload_n 0, 1) := by decide +kernel
theorem dX11_state_61 : decode cX11_state 61 = .ok (.getfield 28, 3) := by decide +kernel
theorem dX11_state_64 : decode cX11_state 64 = .ok (.getfield 175, 3) := by decide +kernel
theorem dX11_state_67 : decode cX11_state 67 = .ok (.ireturn, 1) := by decide +kernel
theorem dX11_state_68 : decode cX11_state 68 = .ok (.aload_n 0, 1) := by decide +kernel
theorem dX11_state_69 : decode cX11_state 69 = .ok (.getfield 35, 3) := by decide +kernel
theorem dX11_state_72 : decode cX11_state 72 = .ok (.getfield 142, 3) := by decide +kernel
theorem dX11_state_75 : decode cX11_state 75 = .ok (.ireturn, 1) := by decide +kernel
theorem dX11_path_0 : decode cX11_path 0 = .ok (.iload_n 1, 1) := by decide +kernel
theorem dX11_path_1 : decode cX11_path 1 = .ok (.invokestatic 43, 3) := by decide +kernel
theorem dX11_path_4 : decode cX11_path 4 = .ok (.iload_n 2, 1) := by decide +kernel
theorem dX11_path_5 : decode cX11_path 5 = .ok (.iconst 0, 1) := by decide +kernel
theorem dX11_path_6 : decode cX11_path 6 = .ok (.bipush 8, 2) := by decide +kernel
theorem dX11_path_8 : decode cX11_path 8 = .ok (.invokestatic 47, 3) := by decide +kernel
theorem dX11_path_11 : decode cX11_path 11 = .ok (.aload_n 0, 1) := by decide +kernel
theorem dX11_path_12 : decode cX11_path 12 = .ok (.getfield 35, 3) := by decide +kernel
theorem dX11_path_15 : decode cX11_path 15 = .ok (.iload_n 1, 1) := by decide +kernel
theorem dX11_path_16 : decode cX11_path 16 = .ok (.invokevirtual 116, 3) := by decide +kernel
theorem dX11_path_19 : decode cX11_path 19 = .ok (.astore_n 3, 1) := by decide +kernel
theorem dX11_path_20 : decode cX11_path 20 = .ok (.iload_n 2, 1) := by decide +kernel
theorem dX11_path_21 : decode cX11_path 21 = .ok (.tableswitch 96 0 7 #[47, 55, 63, 68, 73, 78, 83, 88], 47) := by decide +kernel
theorem dX11_path_68 : decode cX11_path 68 = .ok (.aload_n 3, 1) := by decide +kernel
theorem dX11_path_69 : decode cX11_path 69 = .ok (.getfield 120, 3) := by decide +kernel
theorem dX11_path_72 : decode cX11_path 72 = .ok (.getfield 176, 3) := by decide +kernel
theorem dX11_path_75 : decode cX11_path 75 = .ok (.ireturn, 1) := by decide +kernel
theorem dX11_path_76 : decode cX11_path 76 = .ok (.aload_n 3, 1) := by decide +kernel
theorem dX11_path_77 : decode cX11_path 77 = .ok (.getfield 120, 3) := by decide +kernel
theorem dX11_path_80 : decode cX11_path 80 = .ok (.getfield 179, 3) := by decide +kernel
theorem dX11_path_83 : decode cX11_path 83 = .ok (.ireturn, 1) := by decide +kernel
theorem dX11_path_84 : decode cX11_path 84 = .ok (.aload_n 3, 1) := by decide +kernel
theorem dX11_path_85 : decode cX11_path 85 = .ok (.getfield 182, 3) := by decide +kernel
theorem dX11_path_88 : decode cX11_path 88 = .ok (.ireturn, 1) := by decide +kernel
theorem dX11_path_89 : decode cX11_path 89 = .ok (.aload_n 3, 1) := by decide +kernel
theorem dX11_path_90 : decode cX11_path 90 = .ok (.getfield 185, 3) := by decide +kernel
theorem dX11_path_93 : decode cX11_path 93 = .ok (.ireturn, 1) := by decide +kernel
theorem dX11_path_94 : decode cX11_path 94 = .ok (.aload_n 3, 1) := by decide +kernel
theorem dX11_path_95 : decode cX11_path 95 = .ok (.getfield 188, 3) := by decide +kernel
theorem dX11_path_98 : decode cX11_path 98 = .ok (.ireturn, 1) := by decide +kernel
theorem dX11_path_99 : decode cX11_path 99 = .ok (.aload_n 3, 1) := by decide +kernel
theorem dX11_path_100 : decode cX11_path 100 = .ok (.getfield 191, 3) := by decide +kernel
theorem dX11_path_103 : decode cX11_path 103 = .ok (.ireturn, 1) := by decide +kernel
theorem dX11_path_104 : decode cX11_path 104 = .ok (.aload_n 3, 1) := by decide +kernel
theorem dX11_path_105 : decode cX11_path 105 = .ok (.getfield 194, 3) := by decide +kernel
theorem dX11_path_108 : decode cX11_path 108 = .ok (.ireturn, 1) := by decide +kernel
theorem dX11_path_109 : decode cX11_path 109 = .ok (.aload_n 3, 1) := by decide +kernel
theorem dX11_path_110 : decode cX11_path 110 = .ok (.getfield 139, 3) := by decide +kernel
theorem dX11_path_113 : decode cX11_path 113 = .ok (.invokestatic 197, 3) := by decide +kernel
theorem dX11_path_116 : decode cX11_path 116 = .ok (.ireturn, 1) := by decide +kernel
theorem dX11_path_117 : decode cX11_path 117 = .ok (.aload_n 0, 1) := by decide +kernel
theorem dX11_path_118 : decode cX11_path 118 = .ok (.getfield 10, 3) := by decide +kernel
theorem dX11_path_121 : decode cX11_path 121 = .ok (.iload_n 1, 1) := by decide +kernel
theorem dX11_path_122 : decode cX11_path 122 = .ok (.invokevirtual 51, 3) := by decide +kernel
theorem dX11_path_125 : decode cX11_path 125 = .ok (.getfield 201, 3) := by decide +kernel
theorem dX11_path_128 : decode cX11_path 128 = .ok (.ireturn, 1) := by decide +kernel
theorem dX11_stream_0 : decode cX11_stream 0 = .ok (.iload_n 1, 1) := by decide +kernel
theorem dX11_stream_1 : decode cX11_stream 1 = .ok (.invokestatic 93, 3) := by decide +kernel
theorem dX11_stream_4 : decode cX11_stream 4 = .ok (.iload_n 2, 1) := by decide +kernel
theorem dX11_stream_5 : decode cX11_stream 5 = .ok (.iconst 0, 1) := by decide +kernel
theorem dX11_stream_6 : decode cX11_stream 6 = .ok (.bipush 6, 2) := by decide +kernel
theorem dX11_stream_8 : decode cX11_stream 8 = .ok (.invokestatic 47, 3) := by decide +kernel
theorem dX11_stream_11 : decode cX11_stream 11 = .ok (.aload_n 0, 1) := by decide +kernel
theorem dX11_stream_12 : decode cX11_stream 12 = .ok (.getfield 18, 3) := by decide +kernel
theorem dX11_stream_15 : decode cX11_stream 15 = .ok (.iload_n 1, 1) := by decide +kernel
theorem dX11_stream_16 : decode cX11_stream 16 = .ok (.aaload, 1) := by decide +kernel
theorem dX11_stream_17 : decode cX11_stream 17 = .ok (.astore_n 3, 1) := by decide +kernel
theorem dX11_stream_18 : decode cX11_stream 18 = .ok (.iload_n 2, 1) := by decide +kernel
theorem dX11_stream_19 : decode cX11_stream 19 = .ok (.tableswitch 67 0 5 #[37, 42, 47, 52, 57, 62], 37) := by decide +kernel
theorem dX11_stream_56 : decode cX11_stream 56 = .ok (.aload_n 3, 1) := by decide +kernel
theorem dX11_stream_57 : decode cX11_stream 57 = .ok (.getfield 113, 3) := by decide +kernel
theorem dX11_stream_60 : decode cX11_stream 60 = .ok (.ireturn, 1) := by decide +kernel
theorem dX11_stream_61 : decode cX11_stream 61 = .ok (.aload_n 3, 1) := by decide +kernel
theorem dX11_stream_62 : decode cX11_stream 62 = .ok (.getfield 204, 3) := by decide +kernel
theorem dX11_stream_65 : decode cX11_stream 65 = .ok (.ireturn, 1) := by decide +kernel
theorem dX11_stream_66 : decode cX11_stream 66 = .ok (.aload_n 3, 1) := by decide +kernel
theorem dX11_stream_67 : decode cX11_stream 67 = .ok (.getfield 207, 3) := by decide +kernel
theorem dX11_stream_70 : decode cX11_stream 70 = .ok (.ireturn, 1) := by decide +kernel
theorem dX11_stream_71 : decode cX11_stream 71 = .ok (.aload_n 3, 1) := by decide +kernel
theorem dX11_stream_72 : decode cX11_stream 72 = .ok (.getfield 210, 3) := by decide +kernel
theorem dX11_stream_75 : decode cX11_stream 75 = .ok (.ireturn, 1) := by decide +kernel
theorem dX11_stream_76 : decode cX11_stream 76 = .ok (.aload_n 3, 1) := by decide +kernel
theorem dX11_stream_77 : decode cX11_stream 77 = .ok (.getfield 213, 3) := by decide +kernel
theorem dX11_stream_80 : decode cX11_stream 80 = .ok (.ireturn, 1) := by decide +kernel
theorem dX11_stream_81 : decode cX11_stream 81 = .ok (.aload_n 3, 1) := by decide +kernel
theorem dX11_stream_82 : decode cX11_stream 82 = .ok (.getfield 216, 3) := by decide +kernel
theorem dX11_stream_85 : decode cX11_stream 85 = .ok (.ireturn, 1) := by decide +kernel
theorem dX11_stream_86 : decode cX11_stream 86 = .ok (.aload_n 3, 1) := by decide +kernel
theorem dX11_stream_87 : decode cX11_stream 87 = .ok (.getfield 219, 3) := by decide +kernel
theorem dX11_stream_90 : decode cX11_stream 90 = .ok (.ireturn, 1) := by decide +kernel
theorem dX11_credit_0 : decode cX11_credit 0 = .ok (.aload_n 0, 1) := by decide +kernel
theorem dX11_credit_1 : decode cX11_credit 1 = .ok (.getfield 35, 3) := by decide +kernel
theorem dX11_credit_4 : decode cX11_credit 4 = .ok (.getfield 222, 3) := by decide +kernel
theorem dX11_credit_7 : decode cX11_credit 7 = .ok (.ireturn, 1) := by decide +kernel
theorem dX11_packets_0 : decode cX11_packets 0 = .ok (.aload_n 0, 1) := by decide +kernel
theorem dX11_packets_1 : decode cX11_packets 1 = .ok (.getfield 35, 3) := by decide +kernel
theorem dX11_packets_4 : decode cX11_packets 4 = .ok (.getfield 225, 3) := by decide +kernel
theorem dX11_packets_7 : decode cX11_packets 7 = .ok (.ireturn, 1) := by decide +kernel
theorem dX11_packet_0 : decode cX11_packet 0 = .ok (.aload_n 0, 1) := by decide +kernel
theorem dX11_packet_1 : decode cX11_packet 1 = .ok (.iload_n 1, 1) := by decide +kernel
theorem dX11_packet_2 : decode cX11_packet 2 = .ok (.invokevirtual 226, 3) := by decide +kernel
theorem dX11_packet_5 : decode cX11_packet 5 = .ok (.astore_n 3, 1) := by decide +kernel
theorem dX11_packet_6 : decode cX11_packet 6 = .ok (.iload_n 2, 1) := by decide +kernel
theorem dX11_packet_7 : decode cX11_packet 7 = .ok (.iconst 0, 1) := by decide +kernel
theorem dX11_packet_8 : decode cX11_packet 8 = .ok (.bipush 10, 2) := by decide +kernel
theorem dX11_packet_10 : decode cX11_packet 10 = .ok (.invokestatic 47, 3) := by decide +kernel
theorem dX11_packet_13 : decode cX11_packet 13 = .ok (.iload_n 2, 1) := by decide +kernel
theorem dX11_packet_14 : decode cX11_packet 14 = .ok (.tableswitch 110 0 9 #[54, 59, 64, 69, 74, 79, 84, 89, 94, 102], 54) := by decide +kernel
theorem dX11_packet_68 : decode cX11_packet 68 = .ok (.aload_n 3, 1) := by decide +kernel
theorem dX11_packet_69 : decode cX11_packet 69 = .ok (.getfield 230, 3) := by decide +kernel
theorem dX11_packet_72 : decode cX11_packet 72 = .ok (.ireturn, 1) := by decide +kernel
theorem dX11_packet_73 : decode cX11_packet 73 = .ok (.aload_n 3, 1) := by decide +kernel
theorem dX11_packet_74 : decode cX11_packet 74 = .ok (.getfield 235, 3) := by decide +kernel
theorem dX11_packet_77 : decode cX11_packet 77 = .ok (.ireturn, 1) := by decide +kernel
theorem dX11_packet_78 : decode cX11_packet 78 = .ok (.aload_n 3, 1) := by decide +kernel
theorem dX11_packet_79 : decode cX11_packet 79 = .ok (.getfield 238, 3) := by decide +kernel
theorem dX11_packet_82 : decode cX11_packet 82 = .ok (.ireturn, 1) := by decide +kernel
theorem dX11_packet_83 : decode cX11_packet 83 = .ok (.aload_n 3, 1) := by decide +kernel
theorem dX11_packet_84 : decode cX11_packet 84 = .ok (.getfield 241, 3) := by decide +kernel
theorem dX11_packet_87 : decode cX11_packet 87 = .ok (.ireturn, 1) := by decide +kernel
theorem dX11_packet_88 : decode cX11_packet 88 = .ok (.aload_n 3, 1) := by decide +kernel
theorem dX11_packet_89 : decode cX11_packet 89 = .ok (.getfield 244, 3) := by decide +kernel
theorem dX11_packet_92 : decode cX11_packet 92 = .ok (.ireturn, 1) := by decide +kernel
theorem dX11_packet_93 : decode cX11_packet 93 = .ok (.aload_n 3, 1) := by decide +kernel
theorem dX11_packet_94 : decode cX11_packet 94 = .ok (.getfield 247, 3) := by decide +kernel
theorem dX11_packet_97 : decode cX11_packet 97 = .ok (.ireturn, 1) := by decide +kernel
theorem dX11_packet_98 : decode cX11_packet 98 = .ok (.aload_n 3, 1) := by decide +kernel
theorem dX11_packet_99 : decode cX11_packet 99 = .ok (.getfield 250, 3) := by decide +kernel
theorem dX11_packet_102 : decode cX11_packet 102 = .ok (.ireturn, 1) := by decide +kernel
theorem dX11_packet_103 : decode cX11_packet 103 = .ok (.aload_n 3, 1) := by decide +kernel
theorem dX11_packet_104 : decode cX11_packet 104 = .ok (.getfield 253, 3) := by decide +kernel
theorem dX11_packet_107 : decode cX11_packet 107 = .ok (.ireturn, 1) := by decide +kernel
theorem dX11_packet_108 : decode cX11_packet 108 = .ok (.aload_n 3, 1) := by decide +kernel
theorem dX11_packet_109 : decode cX11_packet 109 = .ok (.getfield 254, 3) := by decide +kernel
theorem dX11_packet_112 : decode cX11_packet 112 = .ok (.invokestatic 197, 3) := by decide +kernel
theorem dX11_packet_115 : decode cX11_packet 115 = .ok (.ireturn, 1) := by decide +kernel
theorem dX11_packet_116 : decode cX11_packet 116 = .ok (.aload_n 3, 1) := by decide +kernel
theorem dX11_packet_117 : decode cX11_packet 117 = .ok (.getfield 257, 3) := by decide +kernel
theorem dX11_packet_120 : decode cX11_packet 120 = .ok (.invokestatic 197, 3) := by decide +kernel
theorem dX11_packet_123 : decode cX11_packet 123 = .ok (.ireturn, 1) := by decide +kernel
theorem dX11_packet_124 : decode cX11_packet 124 = .ok (.aload_n 3, 1) := by decide +kernel
theorem dX11_packet_125 : decode cX11_packet 125 = .ok (.getfield 260, 3) := by decide +kernel
theorem dX11_packet_128 : decode cX11_packet 128 = .ok (.invokestatic 197, 3) := by decide +kernel
theorem dX11_packet_131 : decode cX11_packet 131 = .ok (.ireturn, 1) := by decide +kernel
theorem dX11_count_0 : decode cX11_count 0 = .ok (.iload_n 1, 1) := by decide +kernel
theorem dX11_count_1 : decode cX11_count 1 = .ok (.iconst 0, 1) := by decide +kernel
theorem dX11_count_2 : decode cX11_count 2 = .ok (.iconst 5, 1) := by decide +kernel
theorem dX11_count_3 : decode cX11_count 3 = .ok (.invokestatic 47, 3) := by decide +kernel
theorem dX11_count_6 : decode cX11_count 6 = .ok (.aload_n 0, 1) := by decide +kernel
theorem dX11_count_7 : decode cX11_count 7 = .ok (.getfield 35, 3) := by decide +kernel
theorem dX11_count_10 : decode cX11_count 10 = .ok (.iconst 0, 1) := by decide +kernel
theorem dX11_count_11 : decode cX11_count 11 = .ok (.invokevirtual 116, 3) := by decide +kernel
theorem dX11_count_14 : decode cX11_count 14 = .ok (.astore_n 2, 1) := by decide +kernel
theorem dX11_count_15 : decode cX11_count 15 = .ok (.aload_n 0, 1) := by decide +kernel
theorem dX11_count_16 : decode cX11_count 16 = .ok (.getfield 35, 3) := by decide +kernel
theorem dX11_count_19 : decode cX11_count 19 = .ok (.iconst 1, 1) := by decide +kernel
theorem dX11_count_20 : decode cX11_count 20 = .ok (.invokevirtual 116, 3) := by decide +kernel
theorem dX11_count_23 : decode cX11_count 23 = .ok (.astore_n 3, 1) := by decide +kernel
theorem dX11_count_24 : decode cX11_count 24 = .ok (.iload_n 1, 1) := by decide +kernel
theorem dX11_count_25 : decode cX11_count 25 = .ok (.tableswitch 81 0 4 #[35, 45, 55, 65, 73], 35) := by decide +kernel
theorem dX11_count_60 : decode cX11_count 60 = .ok (.aload_n 2, 1) := by decide +kernel
theorem dX11_count_61 : decode cX11_count 61 = .ok (.getfield 263, 3) := by decide +kernel
theorem dX11_count_64 : decode cX11_count 64 = .ok (.aload_n 3, 1) := by decide +kernel
theorem dX11_count_65 : decode cX11_count 65 = .ok (.getfield 263, 3) := by decide +kernel
theorem dX11_count_68 : decode cX11_count 68 = .ok (.iadd, 1) := by decide +kernel
theorem dX11_count_69 : decode cX11_count 69 = .ok (.ireturn, 1) := by decide +kernel
theorem dX11_count_70 : decode cX11_count 70 = .ok (.aload_n 2, 1) := by decide +kernel
theorem dX11_count_71 : decode cX11_count 71 = .ok (.getfield 266, 3) := by decide +kernel
theorem dX11_count_74 : decode cX11_count 74 = .ok (.aload_n 3, 1) := by decide +kernel
theorem dX11_count_75 : decode cX11_count 75 = .ok (.getfield 266, 3) := by decide +kernel
theorem dX11_count_78 : decode cX11_count 78 = .ok (.iadd, 1) := by decide +kernel
theorem dX11_count_79 : decode cX11_count 79 = .ok (.ireturn, 1) := by decide +kernel
theorem dX11_count_80 : decode cX11_count 80 = .ok (.aload_n 2, 1) := by decide +kernel
theorem dX11_count_81 : decode cX11_count 81 = .ok (.getfield 269, 3) := by decide +kernel
theorem dX11_count_84 : decode cX11_count 84 = .ok (.aload_n 3, 1) := by decide +kernel
theorem dX11_count_85 : decode cX11_count 85 = .ok (.getfield 269, 3) := by decide +kernel
theorem dX11_count_88 : decode cX11_count 88 = .ok (.iadd, 1) := by decide +kernel
theorem dX11_count_89 : decode cX11_count 89 = .ok (.ireturn, 1) := by decide +kernel
theorem dX11_count_90 : decode cX11_count 90 = .ok (.aload_n 0, 1) := by decide +kernel
theorem dX11_count_91 : decode cX11_count 91 = .ok (.getfield 35, 3) := by decide +kernel
theorem dX11_count_94 : decode cX11_count 94 = .ok (.getfield 272, 3) := by decide +kernel
theorem dX11_count_97 : decode cX11_count 97 = .ok (.ireturn, 1) := by decide +kernel
theorem dX11_count_98 : decode cX11_count 98 = .ok (.aload_n 0, 1) := by decide +kernel
theorem dX11_count_99 : decode cX11_count 99 = .ok (.getfield 28, 3) := by decide +kernel
theorem dX11_count_102 : decode cX11_count 102 = .ok (.getfield 275, 3) := by decide +kernel
theorem dX11_count_105 : decode cX11_count 105 = .ok (.ireturn, 1) := by decide +kernel
theorem dX11_count_106 : decode cX11_count 106 = .ok (.aload_n 2, 1) := by decide +kernel
theorem dX11_count_107 : decode cX11_count 107 = .ok (.getfield 120, 3) := by decide +kernel
theorem dX11_count_110 : decode cX11_count 110 = .ok (.getfield 278, 3) := by decide +kernel
theorem dX11_count_113 : decode cX11_count 113 = .ok (.aload_n 3, 1) := by decide +kernel
theorem dX11_count_114 : decode cX11_count 114 = .ok (.getfield 120, 3) := by decide +kernel
theorem dX11_count_117 : decode cX11_count 117 = .ok (.getfield 278, 3) := by decide +kernel
theorem dX11_count_120 : decode cX11_count 120 = .ok (.iadd, 1) := by decide +kernel
theorem dX11_count_121 : decode cX11_count 121 = .ok (.ireturn, 1) := by decide +kernel
theorem dX11_inFlightAnew_0 : decode cX11_inFlightAnew 0 = .ok (.iload_n 1, 1) := by decide +kernel
theorem dX11_inFlightAnew_1 : decode cX11_inFlightAnew 1 = .ok (.invokestatic 43, 3) := by decide +kernel
theorem dX11_inFlightAnew_4 : decode cX11_inFlightAnew 4 = .ok (.iconst 0, 1) := by decide +kernel
theorem dX11_inFlightAnew_5 : decode cX11_inFlightAnew 5 = .ok (.istore_n 2, 1) := by decide +kernel
theorem dX11_inFlightAnew_6 : decode cX11_inFlightAnew 6 = .ok (.iconst 0, 1) := by decide +kernel
theorem dX11_inFlightAnew_7 : decode cX11_inFlightAnew 7 = .ok (.istore_n 3, 1) := by decide +kernel
theorem dX11_inFlightAnew_8 : decode cX11_inFlightAnew 8 = .ok (.iload_n 3, 1) := by decide +kernel
theorem dX11_inFlightAnew_9 : decode cX11_inFlightAnew 9 = .ok (.aload_n 0, 1) := by decide +kernel
theorem dX11_inFlightAnew_10 : decode cX11_inFlightAnew 10 = .ok (.getfield 35, 3) := by decide +kernel
theorem dX11_inFlightAnew_13 : decode cX11_inFlightAnew 13 = .ok (.getfield 225, 3) := by decide +kernel
theorem dX11_inFlightAnew_16 : decode cX11_inFlightAnew 16 = .ok (.if_icmp .ge 44, 3) := by decide +kernel
theorem dX11_inFlightAnew_19 : decode cX11_inFlightAnew 19 = .ok (.aload_n 0, 1) := by decide +kernel
theorem dX11_inFlightAnew_20 : decode cX11_inFlightAnew 20 = .ok (.getfield 35, 3) := by decide +kernel
theorem dX11_inFlightAnew_23 : decode cX11_inFlightAnew 23 = .ok (.iload_n 3, 1) := by decide +kernel
theorem dX11_inFlightAnew_24 : decode cX11_inFlightAnew 24 = .ok (.invokevirtual 281, 3) := by decide +kernel
theorem dX11_inFlightAnew_27 : decode cX11_inFlightAnew 27 = .ok (.astore 4, 2) := by decide +kernel
theorem dX11_inFlightAnew_29 : decode cX11_inFlightAnew 29 = .ok (.aload 4, 2) := by decide +kernel
theorem dX11_inFlightAnew_31 : decode cX11_inFlightAnew 31 = .ok (.ifnull 23, 3) := by decide +kernel
theorem dX11_inFlightAnew_34 : decode cX11_inFlightAnew 34 = .ok (.aload 4, 2) := by decide +kernel
theorem dX11_inFlightAnew_36 : decode cX11_inFlightAnew 36 = .ok (.getfield 230, 3) := by decide +kernel
theorem dX11_inFlightAnew_39 : decode cX11_inFlightAnew 39 = .ok (.iload_n 1, 1) := by decide +kernel
theorem dX11_inFlightAnew_40 : decode cX11_inFlightAnew 40 = .ok (.if_icmp .ne 14, 3) := by decide +kernel
theorem dX11_inFlightAnew_43 : decode cX11_inFlightAnew 43 = .ok (.aload 4, 2) := by decide +kernel
theorem dX11_inFlightAnew_45 : decode cX11_inFlightAnew 45 = .ok (.getfield 247, 3) := by decide +kernel
theorem dX11_inFlightAnew_48 : decode cX11_inFlightAnew 48 = .ok (.ifCond .ne 6, 3) := by decide +kernel
theorem dX11_inFlightAnew_51 : decode cX11_inFlightAnew 51 = .ok (.iinc 2 1, 3) := by decide +kernel
theorem dX11_inFlightAnew_54 : decode cX11_inFlightAnew 54 = .ok (.iinc 3 1, 3) := by decide +kernel
theorem dX11_inFlightAnew_57 : decode cX11_inFlightAnew 57 = .ok (.goto (-49), 3) := by decide +kernel
theorem dX11_inFlightAnew_60 : decode cX11_inFlightAnew 60 = .ok (.iload_n 2, 1) := by decide +kernel
theorem dX11_inFlightAnew_61 : decode cX11_inFlightAnew 61 = .ok (.ireturn, 1) := by decide +kernel
theorem dX11_gotAnew_0 : decode cX11_gotAnew 0 = .ok (.iload_n 1, 1) := by decide +kernel
theorem dX11_gotAnew_1 : decode cX11_gotAnew 1 = .ok (.invokestatic 93, 3) := by decide +kernel
theorem dX11_gotAnew_4 : decode cX11_gotAnew 4 = .ok (.aload_n 0, 1) := by decide +kernel
theorem dX11_gotAnew_5 : decode cX11_gotAnew 5 = .ok (.getfield 39, 3) := by decide +kernel
theorem dX11_gotAnew_8 : decode cX11_gotAnew 8 = .ok (.invokestatic 284, 3) := by decide +kernel
theorem dX11_gotAnew_11 : decode cX11_gotAnew 11 = .ok (.iconst 0, 1) := by decide +kernel
theorem dX11_gotAnew_12 : decode cX11_gotAnew 12 = .ok (.istore_n 2, 1) := by decide +kernel
theorem dX11_gotAnew_13 : decode cX11_gotAnew 13 = .ok (.iload_n 2, 1) := by decide +kernel
theorem dX11_gotAnew_14 : decode cX11_gotAnew 14 = .ok (.aload_n 0, 1) := by decide +kernel
theorem dX11_gotAnew_15 : decode cX11_gotAnew 15 = .ok (.getfield 35, 3) := by decide +kernel
theorem dX11_gotAnew_18 : decode cX11_gotAnew 18 = .ok (.getfield 225, 3) := by decide +kernel
theorem dX11_gotAnew_21 : decode cX11_gotAnew 21 = .ok (.if_icmp .ge 53, 3) := by decide +kernel
theorem dX11_gotAnew_24 : decode cX11_gotAnew 24 = .ok (.aload_n 0, 1) := by decide +kernel
theorem dX11_gotAnew_25 : decode cX11_gotAnew 25 = .ok (.getfield 35, 3) := by decide +kernel
theorem dX11_gotAnew_28 : decode cX11_gotAnew 28 = .ok (.iload_n 2, 1) := by decide +kernel
theorem dX11_gotAnew_29 : decode cX11_gotAnew 29 = .ok (.invokevirtual 281, 3) := by decide +kernel
theorem dX11_gotAnew_32 : decode cX11_gotAnew 32 = .ok (.astore_n 3, 1) := by decide +kernel
theorem dX11_gotAnew_33 : decode cX11_gotAnew 33 = .ok (.aload_n 3, 1) := by decide +kernel
theorem dX11_gotAnew_34 : decode cX11_gotAnew 34 = .ok (.ifnull 34, 3) := by decide +kernel
theorem dX11_gotAnew_37 : decode cX11_gotAnew 37 = .ok (.aload_n 3, 1) := by decide +kernel
theorem dX11_gotAnew_38 : decode cX11_gotAnew 38 = .ok (.getfield 238, 3) := by decide +kernel
theorem dX11_gotAnew_41 : decode cX11_gotAnew 41 = .ok (.iload_n 1, 1) := by decide +kernel
theorem dX11_gotAnew_42 : decode cX11_gotAnew 42 = .ok (.if_icmp .ne 26, 3) := by decide +kernel
theorem dX11_gotAnew_45 : decode cX11_gotAnew 45 = .ok (.aload_n 3, 1) := by decide +kernel
theorem dX11_gotAnew_46 : decode cX11_gotAnew 46 = .ok (.getfield 250, 3) := by decide +kernel
theorem dX11_gotAnew_49 : decode cX11_gotAnew 49 = .ok (.iconst 1, 1) := by decide +kernel
theorem dX11_gotAnew_50 : decode cX11_gotAnew 50 = .ok (.if_icmp .ne 18, 3) := by decide +kernel
theorem dX11_gotAnew_53 : decode cX11_gotAnew 53 = .ok (.aload_n 0, 1) := by decide +kernel
theorem dX11_gotAnew_54 : decode cX11_gotAnew 54 = .ok (.getfield 39, 3) := by decide +kernel
theorem dX11_gotAnew_57 : decode cX11_gotAnew 57 = .ok (.aload_n 3, 1) := by decide +kernel
theorem dX11_gotAnew_58 : decode cX11_gotAnew 58 = .ok (.getfield 241, 3) := by decide +kernel
theorem dX11_gotAnew_61 : decode cX11_gotAnew 61 = .ok (.aload_n 3, 1) := by decide +kernel
theorem dX11_gotAnew_62 : decode cX11_gotAnew 62 = .ok (.getfield 244, 3) := by decide +kernel
theorem dX11_gotAnew_65 : decode cX11_gotAnew 65 = .ok (.invokestatic 288, 3) := by decide +kernel
theorem dX11_gotAnew_68 : decode cX11_gotAnew 68 = .ok (.iinc 2 1, 3) := by decide +kernel
theorem dX11_gotAnew_71 : decode cX11_gotAnew 71 = .ok (.goto (-58), 3) := by decide +kernel
theorem dX11_gotAnew_74 : decode cX11_gotAnew 74 = .ok (.aload_n 0, 1) := by decide +kernel
theorem dX11_gotAnew_75 : decode cX11_gotAnew 75 = .ok (.getfield 39, 3) := by decide +kernel
theorem dX11_gotAnew_78 : decode cX11_gotAnew 78 = .ok (.iconst 0, 1) := by decide +kernel
theorem dX11_gotAnew_79 : decode cX11_gotAnew 79 = .ok (.invokestatic 292, 3) := by decide +kernel
theorem dX11_gotAnew_82 : decode cX11_gotAnew 82 = .ok (.ireturn, 1) := by decide +kernel
theorem dX11_requirePacket_0 : decode cX11_requirePacket 0 = .ok (.aload_n 0, 1) := by decide +kernel
theorem dX11_requirePacket_1 : decode cX11_requirePacket 1 = .ok (.getfield 35, 3) := by decide +kernel
theorem dX11_requirePacket_4 : decode cX11_requirePacket 4 = .ok (.iload_n 1, 1) := by decide +kernel
theorem dX11_requirePacket_5 : decode cX11_requirePacket 5 = .ok (.invokevirtual 281, 3) := by decide +kernel
theorem dX11_requirePacket_8 : decode cX11_requirePacket 8 = .ok (.astore_n 2, 1) := by decide +kernel
theorem dX11_requirePacket_9 : decode cX11_requirePacket 9 = .ok (.aload_n 2, 1) := by decide +kernel
theorem dX11_requirePacket_10 : decode cX11_requirePacket 10 = .ok (.ifnonnull 14, 3) := by decide +kernel
theorem dX11_requirePacket_13 : decode cX11_requirePacket 13 = .ok (.new 296, 3) := by decide +kernel
theorem dX11_requirePacket_16 : decode cX11_requirePacket 16 = .ok (.dup, 1) := by decide +kernel
theorem dX11_requirePacket_17 : decode cX11_requirePacket 17 = .ok (.ldc_w 298, 3) := by decide +kernel
theorem dX11_requirePacket_20 : decode cX11_requirePacket 20 = .ok (.invokespecial 300, 3) := by decide +kernel
theorem dX11_requirePacket_23 : decode cX11_requirePacket 23 = .ok (.athrow, 1) := by decide +kernel
theorem dX11_requirePacket_24 : decode cX11_requirePacket 24 = .ok (.aload_n 2, 1) := by decide +kernel
theorem dX11_requirePacket_25 : decode cX11_requirePacket 25 = .ok (.areturn, 1) := by decide +kernel
theorem dX11_requirePath_0 : decode cX11_requirePath 0 = .ok (.iload_n 0, 1) := by decide +kernel
theorem dX11_requirePath_1 : decode cX11_requirePath 1 = .ok (.ifCond .lt 8, 3) := by decide +kernel
theorem dX11_requirePath_4 : decode cX11_requirePath 4 = .ok (.iload_n 0, 1) := by decide +kernel
theorem dX11_requirePath_5 : decode cX11_requirePath 5 = .ok (.iconst 1, 1) := by decide +kernel
theorem dX11_requirePath_6 : decode cX11_requirePath 6 = .ok (.if_icmp .le 14, 3) := by decide +kernel
theorem dX11_requirePath_9 : decode cX11_requirePath 9 = .ok (.new 296, 3) := by decide +kernel
theorem dX11_requirePath_12 : decode cX11_requirePath 12 = .ok (.dup, 1) := by decide +kernel
theorem dX11_requirePath_13 : decode cX11_requirePath 13 = .ok (.ldc_w 303, 3) := by decide +kernel
theorem dX11_requirePath_16 : decode cX11_requirePath 16 = .ok (.invokespecial 300, 3) := by decide +kernel
theorem dX11_requirePath_19 : decode cX11_requirePath 19 = .ok (.athrow, 1) := by decide +kernel
theorem dX11_requirePath_20 : decode cX11_requirePath 20 = .ok (.return_, 1) := by decide +kernel
theorem dX11_requireStream_0 : decode cX11_requireStream 0 = .ok (.iload_n 0, 1) := by decide +kernel
theorem dX11_requireStream_1 : decode cX11_requireStream 1 = .ok (.ifCond .lt 8, 3) := by decide +kernel
theorem dX11_requireStream_4 : decode cX11_requireStream 4 = .ok (.iload_n 0, 1) := by decide +kernel
theorem dX11_requireStream_5 : decode cX11_requireStream 5 = .ok (.iconst 4, 1) := by decide +kernel
theorem dX11_requireStream_6 : decode cX11_requireStream 6 = .ok (.if_icmp .lt 14, 3) := by decide +kernel
theorem dX11_requireStream_9 : decode cX11_requireStream 9 = .ok (.new 296, 3) := by decide +kernel
theorem dX11_requireStream_12 : decode cX11_requireStream 12 = .ok (.dup, 1) := by decide +kernel
theorem dX11_requireStream_13 : decode cX11_requireStream 13 = .ok (.ldc_w 305, 3) := by decide +kernel
theorem dX11_requireStream_16 : decode cX11_requireStream 16 = .ok (.invokespecial 300, 3) := by decide +kernel
theorem dX11_requireStream_19 : decode cX11_requireStream 19 = .ok (.athrow, 1) := by decide +kernel
theorem dX11_requireStream_20 : decode cX11_requireStream 20 = .ok (.return_, 1) := by decide +kernel
theorem dX11_requireRange_0 : decode cX11_requireRange 0 = .ok (.iload_n 0, 1) := by decide +kernel
theorem dX11_requireRange_1 : decode cX11_requireRange 1 = .ok (.iload_n 1, 1) := by decide +kernel
theorem dX11_requireRange_2 : decode cX11_requireRange 2 = .ok (.if_icmp .lt 8, 3) := by decide +kernel
theorem dX11_requireRange_5 : decode cX11_requireRange 5 = .ok (.iload_n 0, 1) := by decide +kernel
theorem dX11_requireRange_6 : decode cX11_requireRange 6 = .ok (.iload_n 2, 1) := by decide +kernel
theorem dX11_requireRange_7 : decode cX11_requireRange 7 = .ok (.if_icmp .le 14, 3) := by decide +kernel
theorem dX11_requireRange_10 : decode cX11_requireRange 10 = .ok (.new 307, 3) := by decide +kernel
theorem dX11_requireRange_13 : decode cX11_requireRange 13 = .ok (.dup, 1) := by decide +kernel
theorem dX11_requireRange_14 : decode cX11_requireRange 14 = .ok (.ldc_w 309, 3) := by decide +kernel
theorem dX11_requireRange_17 : decode cX11_requireRange 17 = .ok (.invokespecial 311, 3) := by decide +kernel
theorem dX11_requireRange_20 : decode cX11_requireRange 20 = .ok (.athrow, 1) := by decide +kernel
theorem dX11_requireRange_21 : decode cX11_requireRange 21 = .ok (.return_, 1) := by decide +kernel
theorem dX11_requireState_0 : decode cX11_requireState 0 = .ok (.iload_n 0, 1) := by decide +kernel
theorem dX11_requireState_1 : decode cX11_requireState 1 = .ok (.ifCond .ne 14, 3) := by decide +kernel
theorem dX11_requireState_4 : decode cX11_requireState 4 = .ok (.new 312, 3) := by decide +kernel
theorem dX11_requireState_7 : decode cX11_requireState 7 = .ok (.dup, 1) := by decide +kernel
theorem dX11_requireState_8 : decode cX11_requireState 8 = .ok (.ldc_w 314, 3) := by decide +kernel
theorem dX11_requireState_11 : decode cX11_requireState 11 = .ok (.invokespecial 316, 3) := by decide +kernel
theorem dX11_requireState_14 : decode cX11_requireState 14 = .ok (.athrow, 1) := by decide +kernel
theorem dX11_requireState_15 : decode cX11_requireState 15 = .ok (.return_, 1) := by decide +kernel
theorem dX11_asNumber_0 : decode cX11_asNumber 0 = .ok (.iload_n 0, 1) := by decide +kernel
theorem dX11_asNumber_1 : decode cX11_asNumber 1 = .ok (.ifCond .eq 7, 3) := by decide +kernel
theorem dX11_asNumber_4 : decode cX11_asNumber 4 = .ok (.iconst 1, 1) := by decide +kernel
theorem dX11_asNumber_5 : decode cX11_asNumber 5 = .ok (.goto 4, 3) := by decide +kernel
theorem dX11_asNumber_8 : decode cX11_asNumber 8 = .ok (.iconst 0, 1) := by decide +kernel
theorem dX11_asNumber_9 : decode cX11_asNumber 9 = .ok (.ireturn, 1) := by decide +kernel
theorem dX11_clearRow_0 : decode cX11_clearRow 0 = .ok (.iconst 0, 1) := by decide +kernel
theorem dX11_clearRow_1 : decode cX11_clearRow 1 = .ok (.istore_n 1, 1) := by decide +kernel
theorem dX11_clearRow_2 : decode cX11_clearRow 2 = .ok (.iload_n 1, 1) := by decide +kernel
theorem dX11_clearRow_3 : decode cX11_clearRow 3 = .ok (.aload_n 0, 1) := by decide +kernel
theorem dX11_clearRow_4 : decode cX11_clearRow 4 = .ok (.arraylength, 1) := by decide +kernel
theorem dX11_clearRow_5 : decode cX11_clearRow 5 = .ok (.if_icmp .ge 13, 3) := by decide +kernel
theorem dX11_clearRow_8 : decode cX11_clearRow 8 = .ok (.aload_n 0, 1) := by decide +kernel
theorem dX11_clearRow_9 : decode cX11_clearRow 9 = .ok (.iload_n 1, 1) := by decide +kernel
theorem dX11_clearRow_10 : decode cX11_clearRow 10 = .ok (.iconst 0, 1) := by decide +kernel
theorem dX11_clearRow_11 : decode cX11_clearRow 11 = .ok (.bastore, 1) := by decide +kernel
theorem dX11_clearRow_12 : decode cX11_clearRow 12 = .ok (.iinc 1 1, 3) := by decide +kernel
theorem dX11_clearRow_15 : decode cX11_clearRow 15 = .ok (.goto (-13), 3) := by decide +kernel
theorem dX11_clearRow_18 : decode cX11_clearRow 18 = .ok (.return_, 1) := by decide +kernel
theorem dX11_markRow_0 : decode cX11_markRow 0 = .ok (.iconst 0, 1) := by decide +kernel
theorem dX11_markRow_1 : decode cX11_markRow 1 = .ok (.iload_n 1, 1) := by decide +kernel
theorem dX11_markRow_2 : decode cX11_markRow 2 = .ok (.invokestatic 317, 3) := by decide +kernel
theorem dX11_markRow_5 : decode cX11_markRow 5 = .ok (.istore_n 3, 1) := by decide +kernel
theorem dX11_markRow_6 : decode cX11_markRow 6 = .ok (.iload_n 3, 1) := by decide +kernel
theorem dX11_markRow_7 : decode cX11_markRow 7 = .ok (.iload_n 1, 1) := by decide +kernel
theorem dX11_markRow_8 : decode cX11_markRow 8 = .ok (.iload_n 2, 1) := by decide +kernel
theorem dX11_markRow_9 : decode cX11_markRow 9 = .ok (.iadd, 1) := by decide +kernel
theorem dX11_markRow_10 : decode cX11_markRow 10 = .ok (.if_icmp .ge 19, 3) := by decide +kernel
theorem dX11_markRow_13 : decode cX11_markRow 13 = .ok (.iload_n 3, 1) := by decide +kernel
theorem dX11_markRow_14 : decode cX11_markRow 14 = .ok (.aload_n 0, 1) := by decide +kernel
theorem dX11_markRow_15 : decode cX11_markRow 15 = .ok (.arraylength, 1) := by decide +kernel
theorem dX11_markRow_16 : decode cX11_markRow 16 = .ok (.if_icmp .ge 13, 3) := by decide +kernel
theorem dX11_markRow_19 : decode cX11_markRow 19 = .ok (.aload_n 0, 1) := by decide +kernel
theorem dX11_markRow_20 : decode cX11_markRow 20 = .ok (.iload_n 3, 1) := by decide +kernel
theorem dX11_markRow_21 : decode cX11_markRow 21 = .ok (.iconst 1, 1) := by decide +kernel
theorem dX11_markRow_22 : decode cX11_markRow 22 = .ok (.bastore, 1) := by decide +kernel
theorem dX11_markRow_23 : decode cX11_markRow 23 = .ok (.iinc 3 1, 3) := by decide +kernel
theorem dX11_markRow_26 : decode cX11_markRow 26 = .ok (.goto (-20), 3) := by decide +kernel
theorem dX11_markRow_29 : decode cX11_markRow 29 = .ok (.return_, 1) := by decide +kernel
theorem dX11_lengthOfPrefix_0 : decode cX11_lengthOfPrefix 0 = .ok (.iconst 0, 1) := by decide +kernel
theorem dX11_lengthOfPrefix_1 : decode cX11_lengthOfPrefix 1 = .ok (.iload_n 1, 1) := by decide +kernel
theorem dX11_lengthOfPrefix_2 : decode cX11_lengthOfPrefix 2 = .ok (.invokestatic 317, 3) := by decide +kernel
theorem dX11_lengthOfPrefix_5 : decode cX11_lengthOfPrefix 5 = .ok (.istore_n 2, 1) := by decide +kernel
theorem dX11_lengthOfPrefix_6 : decode cX11_lengthOfPrefix 6 = .ok (.iload_n 2, 1) := by decide +kernel
theorem dX11_lengthOfPrefix_7 : decode cX11_lengthOfPrefix 7 = .ok (.aload_n 0, 1) := by decide +kernel
theorem dX11_lengthOfPrefix_8 : decode cX11_lengthOfPrefix 8 = .ok (.arraylength, 1) := by decide +kernel
theorem dX11_lengthOfPrefix_9 : decode cX11_lengthOfPrefix 9 = .ok (.if_icmp .ge 15, 3) := by decide +kernel
theorem dX11_lengthOfPrefix_12 : decode cX11_lengthOfPrefix 12 = .ok (.aload_n 0, 1) := by decide +kernel
theorem dX11_lengthOfPrefix_13 : decode cX11_lengthOfPrefix 13 = .ok (.iload_n 2, 1) := by decide +kernel
theorem dX11_lengthOfPrefix_14 : decode cX11_lengthOfPrefix 14 = .ok (.baload, 1) := by decide +kernel
theorem dX11_lengthOfPrefix_15 : decode cX11_lengthOfPrefix 15 = .ok (.ifCond .eq 9, 3) := by decide +kernel
theorem dX11_lengthOfPrefix_18 : decode cX11_lengthOfPrefix 18 = .ok (.iinc 2 1, 3) := by decide +kernel
theorem dX11_lengthOfPrefix_21 : decode cX11_lengthOfPrefix 21 = .ok (.goto (-15), 3) := by decide +kernel
theorem dX11_lengthOfPrefix_24 : decode cX11_lengthOfPrefix 24 = .ok (.iload_n 2, 1) := by decide +kernel
theorem dX11_lengthOfPrefix_25 : decode cX11_lengthOfPrefix 25 = .ok (.ireturn, 1) := by decide +kernel
theorem dX12_init_0 : decode cX12_init 0 = .ok (.aload_n 0, 1) := by decide +kernel
theorem dX12_init_1 : decode cX12_init 1 = .ok (.invokespecial 1, 3) := by decide +kernel
theorem dX12_init_4 : decode cX12_init 4 = .ok (.aload_n 0, 1) := by decide +kernel
theorem dX12_init_5 : decode cX12_init 5 = .ok (.iconst 2, 1) := by decide +kernel
theorem dX12_init_6 : decode cX12_init 6 = .ok (.newarray .int, 2) := by decide +kernel
theorem dX12_init_8 : decode cX12_init 8 = .ok (.putfield 7, 3) := by decide +kernel
theorem dX12_init_11 : decode cX12_init 11 = .ok (.aload_n 0, 1) := by decide +kernel
theorem dX12_init_12 : decode cX12_init 12 = .ok (.iconst 2, 1) := by decide +kernel
theorem dX12_init_13 : decode cX12_init 13 = .ok (.newarray .int, 2) := by decide +kernel
theorem dX12_init_15 : decode cX12_init 15 = .ok (.putfield 13, 3) := by decide +kernel
theorem dX12_init_18 : decode cX12_init 18 = .ok (.aload_n 0, 1) := by decide +kernel
theorem dX12_init_19 : decode cX12_init 19 = .ok (.iconst 2, 1) := by decide +kernel
theorem dX12_init_20 : decode cX12_init 20 = .ok (.newarray .int, 2) := by decide +kernel
theorem dX12_init_22 : decode cX12_init 22 = .ok (.putfield 16, 3) := by decide +kernel
theorem dX12_init_25 : decode cX12_init 25 = .ok (.aload_n 0, 1) := by decide +kernel
theorem dX12_init_26 : decode cX12_init 26 = .ok (.iconst 2, 1) := by decide +kernel
theorem dX12_init_27 : decode cX12_init 27 = .ok (.newarray .int, 2) := by decide +kernel
theorem dX12_init_29 : decode cX12_init 29 = .ok (.putfield 19, 3) := by decide +kernel
theorem dX12_init_32 : decode cX12_init 32 = .ok (.aload_n 0, 1) := by decide +kernel
theorem dX12_init_33 : decode cX12_init 33 = .ok (.iconst 2, 1) := by decide +kernel
theorem dX12_init_34 : decode cX12_init 34 = .ok (.newarray .boolean, 2) := by decide +kernel
theorem dX12_init_36 : decode cX12_init 36 = .ok (.putfield 22, 3) := by decide +kernel
theorem dX12_init_39 : decode cX12_init 39 = .ok (.aload_n 0, 1) := by decide +kernel
theorem dX12_init_40 : decode cX12_init 40 = .ok (.iconst 2, 1) := by decide +kernel
theorem dX12_init_41 : decode cX12_init 41 = .ok (.newarray .int, 2) := by decide +kernel
theorem dX12_init_43 : decode cX12_init 43 = .ok (.putfield 26, 3) := by decide +kernel
theorem dX12_init_46 : decode cX12_init 46 = .ok (.aload_n 0, 1) := by decide +kernel
theorem dX12_init_47 : decode cX12_init 47 = .ok (.iconst 2, 1) := by decide +kernel
theorem dX12_init_48 : decode cX12_init 48 = .ok (.newarray .int, 2) := by decide +kernel
theorem dX12_init_50 : decode cX12_init 50 = .ok (.putfield 29, 3) := by decide +kernel
theorem dX12_init_53 : decode cX12_init 53 = .ok (.aload_n 0, 1) := by decide +kernel
theorem dX12_init_54 : decode cX12_init 54 = .ok (.iconst 2, 1) := by decide +kernel
theorem dX12_init_55 : decode cX12_init 55 = .ok (.newarray .int, 2) := by decide +kernel
theorem dX12_init_57 : decode cX12_init 57 = .ok (.putfield 32, 3) := by decide +kernel
theorem dX12_init_60 : decode cX12_init 60 = .ok (.aload_n 0, 1) := by decide +kernel
theorem dX12_init_61 : decode cX12_init 61 = .ok (.iconst 2, 1) := by decide +kernel
theorem dX12_init_62 : decode cX12_init 62 = .ok (.newarray .int, 2) := by decide +kernel
theorem dX12_init_64 : decode cX12_init 64 = .ok (.putfield 35, 3) := by decide +kernel
theorem dX12_init_67 : decode cX12_init 67 = .ok (.aload_n 0, 1) := by decide +kernel
theorem dX12_init_68 : decode cX12_init 68 = .ok (.bipush 60, 2) := by decide +kernel
theorem dX12_init_70 : decode cX12_init 70 = .ok (.newarray .int, 2) := by decide +kernel
theorem dX12_init_72 : decode cX12_init 72 = .ok (.putfield 38, 3) := by decide +kernel
theorem dX12_init_75 : decode cX12_init 75 = .ok (.aload_n 0, 1) := by decide +kernel
theorem dX12_init_76 : decode cX12_init 76 = .ok (.iconst 2, 1) := by decide +kernel
theorem dX12_init_77 : decode cX12_init 77 = .ok (.newarray .int, 2) := by decide +kernel
theorem dX12_init_79 : decode cX12_init 79 = .ok (.putfield 41, 3) := by decide +kernel
theorem dX12_init_82 : decode cX12_init 82 = .ok (.aload_n 0, 1) := by decide +kernel
theorem dX12_init_83 : decode cX12_init 83 = .ok (.sipush 1300, 3) := by decide +kernel
theorem dX12_init_86 : decode cX12_init 86 = .ok (.newarray .int, 2) := by decide +kernel
theorem dX12_init_88 : decode cX12_init 88 = .ok (.putfield 44, 3) := by decide +kernel
theorem dX12_init_91 : decode cX12_init 91 = .ok (.aload_n 0, 1) := by decide +kernel
theorem dX12_init_92 : decode cX12_init 92 = .ok (.sipush 1300, 3) := by decide +kernel
theorem dX12_init_95 : decode cX12_init 95 = .ok (.newarray .int, 2) := by decide +kernel
theorem dX12_init_97 : decode cX12_init 97 = .ok (.putfield 47, 3) := by decide +kernel
theorem dX12_init_100 : decode cX12_init 100 = .ok (.aload_n 0, 1) := by decide +kernel
theorem dX12_init_101 : decode cX12_init 101 = .ok (.sipush 1300, 3) := by decide +kernel
theorem dX12_init_104 : decode cX12_init 104 = .ok (.newarray .int, 2) := by decide +kernel
theorem dX12_init_106 : decode cX12_init 106 = .ok (.putfield 50, 3) := by decide +kernel
theorem dX12_init_109 : decode cX12_init 109 = .ok (.aload_n 0, 1) := by decide +kernel
theorem dX12_init_110 : decode cX12_init 110 = .ok (.sipush 1300, 3) := by decide +kernel
theorem dX12_init_113 : decode cX12_init 113 = .ok (.newarray .int, 2) := by decide +kernel
theorem dX12_init_115 : decode cX12_init 115 = .ok (.putfield 53, 3) := by decide +kernel
theorem dX12_init_118 : decode cX12_init 118 = .ok (.aload_n 0, 1) := by decide +kernel
theorem dX12_init_119 : decode cX12_init 119 = .ok (.sipush 1300, 3) := by decide +kernel
theorem dX12_init_122 : decode cX12_init 122 = .ok (.newarray .int, 2) := by decide +kernel
theorem dX12_init_124 : decode cX12_init 124 = .ok (.putfield 56, 3) := by decide +kernel
theorem dX12_init_127 : decode cX12_init 127 = .ok (.aload_n 0, 1) := by decide +kernel
theorem dX12_init_128 : decode cX12_init 128 = .ok (.sipush 3600, 3) := by decide +kernel
theorem dX12_init_131 : decode cX12_init 131 = .ok (.newarray .int, 2) := by decide +kernel
theorem dX12_init_133 : decode cX12_init 133 = .ok (.putfield 59, 3) := by decide +kernel
theorem dX12_init_136 : decode cX12_init 136 = .ok (.aload_n 0, 1) := by decide +kernel
theorem dX12_init_137 : decode cX12_init 137 = .ok (.sipush 3600, 3) := by decide +kernel
theorem dX12_init_140 : decode cX12_init 140 = .ok (.newarray .int, 2) := by decide +kernel
theorem dX12_init_142 : decode cX12_init 142 = .ok (.putfield 62, 3) := by decide +kernel
theorem dX12_init_145 : decode cX12_init 145 = .ok (.aload_n 0, 1) := by decide +kernel
theorem dX12_init_146 : decode cX12_init 146 = .ok (.sipush 3600, 3) := by decide +kernel
theorem dX12_init_149 : decode cX12_init 149 = .ok (.newarray .int, 2) := by decide +kernel
theorem dX12_init_151 : decode cX12_init 151 = .ok (.putfield 65, 3) := by decide +kernel
theorem dX12_init_154 : decode cX12_init 154 = .ok (.aload_n 0, 1) := by decide +kernel
theorem dX12_init_155 : decode cX12_init 155 = .ok (.sipush 3600, 3) := by decide +kernel
theorem dX12_init_158 : decode cX12_init 158 = .ok (.newarray .int, 2) := by decide +kernel
theorem dX12_init_160 : decode cX12_init 160 = .ok (.putfield 68, 3) := by decide +kernel
theorem dX12_init_163 : decode cX12_init 163 = .ok (.aload_n 0, 1) := by decide +kernel
theorem dX12_init_164 : decode cX12_init 164 = .ok (.ldc 71, 2) := by decide +kernel
theorem dX12_init_166 : decode cX12_init 166 = .ok (.newarray .int, 2) := by decide +kernel
theorem dX12_init_168 : decode cX12_init 168 = .ok (.putfield 72, 3) := by decide +kernel
theorem dX12_init_171 : decode cX12_init 171 = .ok (.aload_n 0, 1) := by decide +kernel
theorem dX12_init_172 : decode cX12_init 172 = .ok (.bipush 10, 2) := by decide +kernel
theorem dX12_init_174 : decode cX12_init 174 = .ok (.newarray .boolean, 2) := by decide +kernel
theorem dX12_init_176 : decode cX12_init 176 = .ok (.putfield 75, 3) := by decide +kernel
theorem dX12_init_179 : decode cX12_init 179 = .ok (.aload_n 0, 1) := by decide +kernel
theorem dX12_init_180 : decode cX12_init 180 = .ok (.iconst (-1), 1) := by decide +kernel
theorem dX12_init_181 : decode cX12_init 181 = .ok (.putfield 78, 3) := by decide +kernel
theorem dX12_init_184 : decode cX12_init 184 = .ok (.aload_n 0, 1) := by decide +kernel
theorem dX12_init_185 : decode cX12_init 185 = .ok (.sipush 400, 3) := by decide +kernel
theorem dX12_init_188 : decode cX12_init 188 = .ok (.newarray .boolean, 2) := by decide +kernel
theorem dX12_init_190 : decode cX12_init 190 = .ok (.putfield 82, 3) := by decide +kernel
theorem dX12_init_193 : decode cX12_init 193 = .ok (.aload_n 0, 1) := by decide +kernel
theorem dX12_init_194 : decode cX12_init 194 = .ok (.sipush 800, 3) := by decide +kernel
theorem dX12_init_197 : decode cX12_init 197 = .ok (.newarray .boolean, 2) := by decide +kernel
theorem dX12_init_199 : decode cX12_init 199 = .ok (.putfield 85, 3) := by decide +kernel
theorem dX12_init_202 : decode cX12_init 202 = .ok (.aload_n 0, 1) := by decide +kernel
theorem dX12_init_203 : decode cX12_init 203 = .ok (.iconst 4, 1) := by decide +kernel
theorem dX12_init_204 : decode cX12_init 204 = .ok (.newarray .int, 2) := by decide +kernel
theorem dX12_init_206 : decode cX12_init 206 = .ok (.putfield 88, 3) := by decide +kernel
theorem dX12_init_209 : decode cX12_init 209 = .ok (.aload_n 0, 1) := by decide +kernel
theorem dX12_init_210 : decode cX12_init 210 = .ok (.iconst (-1), 1) := by decide +kernel
theorem dX12_init_211 : decode cX12_init 211 = .ok (.putfield 91, 3) := by decide +kernel
theorem dX12_init_214 : decode cX12_init 214 = .ok (.aload_n 0, 1) := by decide +kernel
theorem dX12_init_215 : decode cX12_init 215 = .ok (.iconst (-1), 1) := by decide +kernel
theorem dX12_init_216 : decode cX12_init 216 = .ok (.putfield 94, 3) := by decide +kernel
theorem dX12_init_219 : decode cX12_init 219 = .ok (.aload_n 0, 1) := by decide +kernel
theorem dX12_init_220 : decode cX12_init 220 = .ok (.iconst (-1), 1) := by decide +kernel
theorem dX12_init_221 : decode cX12_init 221 = .ok (.putfield 97, 3) := by decide +kernel
theorem dX12_init_224 : decode cX12_init 224 = .ok (.aload_n 0, 1) := by decide +kernel
theorem dX12_init_225 : decode cX12_init 225 = .ok (.iconst (-1), 1) := by decide +kernel
theorem dX12_init_226 : decode cX12_init 226 = .ok (.putfield 100, 3) := by decide +kernel
theorem dX12_init_229 : decode cX12_init 229 = .ok (.aload_n 0, 1) := by decide +kernel
theorem dX12_init_230 : decode cX12_init 230 = .ok (.iconst 4, 1) := by decide +kernel
theorem dX12_init_231 : decode cX12_init 231 = .ok (.newarray .int, 2) := by decide +kernel
theorem dX12_init_233 : decode cX12_init 233 = .ok (.putfield 103, 3) := by decide +kernel
theorem dX12_init_236 : decode cX12_init 236 = .ok (.aload_n 0, 1) := by decide +kernel
theorem dX12_init_237 : decode cX12_init 237 = .ok (.iconst 4, 1) := by decide +kernel
theorem dX12_init_238 : decode cX12_init 238 = .ok (.newarray .int, 2) := by decide +kernel
theorem dX12_init_240 : decode cX12_init 240 = .ok (.putfield 106, 3) := by decide +kernel
theorem dX12_init_243 : decode cX12_init 243 = .ok (.aload_n 0, 1) := by decide +kernel
theorem dX12_init_244 : decode cX12_init 244 = .ok (.iconst 4, 1) := by decide +kernel
theorem dX12_init_245 : decode cX12_init 245 = .ok (.newarray .int, 2) := by decide +kernel
theorem dX12_init_247 : decode cX12_init 247 = .ok (.putfield 109, 3) := by decide +kernel
theorem dX12_init_250 : decode cX12_init 250 = .ok (.aload_n 0, 1) := by decide +kernel
theorem dX12_init_251 : decode cX12_init 251 = .ok (.bipush 100, 2) := by decide +kernel
theorem dX12_init_253 : decode cX12_init 253 = .ok (.putfield 112, 3) := by decide +kernel
theorem dX12_init_256 : decode cX12_init 256 = .ok (.aload_n 0, 1) := by decide +kernel
theorem dX12_init_257 : decode cX12_init 257 = .ok (.iconst 3, 1) := by decide +kernel
theorem dX12_init_258 : decode cX12_init 258 = .ok (.putfield 115, 3) := by decide +kernel
theorem dX12_init_261 : decode cX12_init 261 = .ok (.aload_n 0, 1) := by decide +kernel
theorem dX12_init_262 : decode cX12_init 262 = .ok (.sipush 800, 3) := by decide +kernel
theorem dX12_init_265 : decode cX12_init 265 = .ok (.newarray .boolean, 2) := by decide +kernel
theorem dX12_init_267 : decode cX12_init 267 = .ok (.putfield 118, 3) := by decide +kernel
theorem dX12_init_270 : decode cX12_init 270 = .ok (.aload_n 0, 1) := by decide +kernel
theorem dX12_init_271 : decode cX12_init 271 = .ok (.sipush 800, 3) := by decide +kernel
theorem dX12_init_274 : decode cX12_init 274 = .ok (.newarray .int, 2) := by decide +kernel
theorem dX12_init_276 : decode cX12_init 276 = .ok (.putfield 121, 3) := by decide +kernel
theorem dX12_init_279 : decode cX12_init 279 = .ok (.aload_n 0, 1) := by decide +kernel
theorem dX12_init_280 : decode cX12_init 280 = .ok (.sipush 400, 3) := by decide +kernel
theorem dX12_init_283 : decode cX12_init 283 = .ok (.newarray .int, 2) := by decide +kernel
theorem dX12_init_285 : decode cX12_init 285 = .ok (.putfield 124, 3) := by decide +kernel
theorem dX12_init_288 : decode cX12_init 288 = .ok (.aload_n 0, 1) := by decide +kernel
theorem dX12_init_289 : decode cX12_init 289 = .ok (.sipush 400, 3) := by decide +kernel
theorem dX12_init_292 : decode cX12_init 292 = .ok (.newarray .int, 2) := by decide +kernel
theorem dX12_init_294 : decode cX12_init 294 = .ok (.putfield 127, 3) := by decide +kernel
theorem dX12_init_297 : decode cX12_init 297 = .ok (.aload_n 0, 1) := by decide +kernel
theorem dX12_init_298 : decode cX12_init 298 = .ok (.sipush 400, 3) := by decide +kernel
theorem dX12_init_301 : decode cX12_init 301 = .ok (.newarray .int, 2) := by decide +kernel
theorem dX12_init_303 : decode cX12_init 303 = .ok (.putfield 130, 3) := by decide +kernel
theorem dX12_init_306 : decode cX12_init 306 = .ok (.aload_n 0, 1) := by decide +kernel
theorem dX12_init_307 : decode cX12_init 307 = .ok (.sipush 400, 3) := by decide +kernel
theorem dX12_init_310 : decode cX12_init 310 = .ok (.newarray .int, 2) := by decide +kernel
theorem dX12_init_312 : decode cX12_init 312 = .ok (.putfield 133, 3) := by decide +kernel
theorem dX12_init_315 : decode cX12_init 315 = .ok (.aload_n 0, 1) := by decide +kernel
theorem dX12_init_316 : decode cX12_init 316 = .ok (.sipush 400, 3) := by decide +kernel
theorem dX12_init_319 : decode cX12_init 319 = .ok (.newarray .int, 2) := by decide +kernel
theorem dX12_init_321 : decode cX12_init 321 = .ok (.putfield 136, 3) := by decide +kernel
theorem dX12_init_324 : decode cX12_init 324 = .ok (.aload_n 0, 1) := by decide +kernel
theorem dX12_init_325 : decode cX12_init 325 = .ok (.sipush 400, 3) := by decide +kernel
theorem dX12_init_328 : decode cX12_init 328 = .ok (.newarray .int, 2) := by decide +kernel
theorem dX12_init_330 : decode cX12_init 330 = .ok (.putfield 139, 3) := by decide +kernel
theorem dX12_init_333 : decode cX12_init 333 = .ok (.aload_n 0, 1) := by decide +kernel
theorem dX12_init_334 : decode cX12_init 334 = .ok (.sipush 400, 3) := by decide +kernel
theorem dX12_init_337 : decode cX12_init 337 = .ok (.newarray .int, 2) := by decide +kernel
theorem dX12_init_339 : decode cX12_init 339 = .ok (.putfield 142, 3) := by decide +kernel
theorem dX12_init_342 : decode cX12_init 342 = .ok (.aload_n 0, 1) := by decide +kernel
theorem dX12_init_343 : decode cX12_init 343 = .ok (.sipush 400, 3) := by decide +kernel
theorem dX12_init_346 : decode cX12_init 346 = .ok (.newarray .int, 2) := by decide +kernel
theorem dX12_init_348 : decode cX12_init 348 = .ok (.putfield 145, 3) := by decide +kernel
theorem dX12_init_351 : decode cX12_init 351 = .ok (.aload_n 0, 1) := by decide +kernel
theorem dX12_init_352 : decode cX12_init 352 = .ok (.sipush 400, 3) := by decide +kernel
theorem dX12_init_355 : decode cX12_init 355 = .ok (.newarray .boolean, 2) := by decide +kernel
theorem dX12_init_357 : decode cX12_init 357 = .ok (.putfield 148, 3) := by decide +kernel
theorem dX12_init_360 : decode cX12_init 360 = .ok (.aload_n 0, 1) := by decide +kernel
theorem dX12_init_361 : decode cX12_init 361 = .ok (.sipush 400, 3) := by decide +kernel
theorem dX12_init_364 : decode cX12_init 364 = .ok (.newarray .boolean, 2) := by decide +kernel
theorem dX12_init_366 : decode cX12_init 366 = .ok (.putfield 151, 3) := by decide +kernel
theorem dX12_init_369 : decode cX12_init 369 = .ok (.aload_n 0, 1) := by decide +kernel
theorem dX12_init_370 : decode cX12_init 370 = .ok (.sipush 400, 3) := by decide +kernel
theorem dX12_init_373 : decode cX12_init 373 = .ok (.newarray .boolean, 2) := by decide +kernel
theorem dX12_init_375 : decode cX12_init 375 = .ok (.putfield 154, 3) := by decide +kernel
theorem dX12_init_378 : decode cX12_init 378 = .ok (.aload_n 0, 1) := by decide +kernel
theorem dX12_init_379 : decode cX12_init 379 = .ok (.sipush 400, 3) := by decide +kernel
theorem dX12_init_382 : decode cX12_init 382 = .ok (.newarray .int, 2) := by decide +kernel
theorem dX12_init_384 : decode cX12_init 384 = .ok (.putfield 157, 3) := by decide +kernel
theorem dX12_init_387 : decode cX12_init 387 = .ok (.aload_n 0, 1) := by decide +kernel
theorem dX12_init_388 : decode cX12_init 388 = .ok (.sipush 400, 3) := by decide +kernel
theorem dX12_init_391 : decode cX12_init 391 = .ok (.newarray .int, 2) := by decide +kernel
theorem dX12_init_393 : decode cX12_init 393 = .ok (.putfield 160, 3) := by decide +kernel
theorem dX12_init_396 : decode cX12_init 396 = .ok (.aload_n 0, 1) := by decide +kernel
theorem dX12_init_397 : decode cX12_init 397 = .ok (.iconst 2, 1) := by decide +kernel
theorem dX12_init_398 : decode cX12_init 398 = .ok (.newarray .int, 2) := by decide +kernel
theorem dX12_init_400 : decode cX12_init 400 = .ok (.putfield 163, 3) := by decide +kernel
theorem dX12_init_403 : decode cX12_init 403 = .ok (.aload_n 0, 1) := by decide +kernel
theorem dX12_init_404 : decode cX12_init 404 = .ok (.iconst 2, 1) := by decide +kernel
theorem dX12_init_405 : decode cX12_init 405 = .ok (.newarray .int, 2) := by decide +kernel
theorem dX12_init_407 : decode cX12_init 407 = .ok (.putfield 166, 3) := by decide +kernel
theorem dX12_init_410 : decode cX12_init 410 = .ok (.aload_n 0, 1) := by decide +kernel
theorem dX12_init_411 : decode cX12_init 411 = .ok (.iconst 2, 1) := by decide +kernel
theorem dX12_init_412 : decode cX12_init 412 = .ok (.newarray .int, 2) := by decide +kernel
theorem dX12_init_414 : decode cX12_init 414 = .ok (.putfield 169, 3) := by decide +kernel
theorem dX12_init_417 : decode cX12_init 417 = .ok (.aload_n 0, 1) := by decide +kernel
theorem dX12_init_418 : decode cX12_init 418 = .ok (.iconst 2, 1) := by decide +kernel
theorem dX12_init_419 : decode cX12_init 419 = .ok (.newarray .int, 2) := by decide +kernel
theorem dX12_init_421 : decode cX12_init 421 = .ok (.putfield 172, 3) := by decide +kernel
theorem dX12_init_424 : decode cX12_init 424 = .ok (.aload_n 0, 1) := by decide +kernel
theorem dX12_init_425 : decode cX12_init 425 = .ok (.iconst 2, 1) := by decide +kernel
theorem dX12_init_426 : decode cX12_init 426 = .ok (.newarray .int, 2) := by decide +kernel
theorem dX12_init_428 : decode cX12_init 428 = .ok (.putfield 175, 3) := by decide +kernel
theorem dX12_init_431 : decode cX12_init 431 = .ok (.aload_n 0, 1) := by decide +kernel
theorem dX12_init_432 : decode cX12_init 432 = .ok (.iconst 2, 1) := by decide +kernel
theorem dX12_init_433 : decode cX12_init 433 = .ok (.newarray .int, 2) := by decide +kernel
theorem dX12_init_435 : decode cX12_init 435 = .ok (.putfield 178, 3) := by decide +kernel
theorem dX12_init_438 : decode cX12_init 438 = .ok (.aload_n 0, 1) := by decide +kernel
theorem dX12_init_439 : decode cX12_init 439 = .ok (.iconst 2, 1) := by decide +kernel
theorem dX12_init_440 : decode cX12_init 440 = .ok (.newarray .int, 2) := by decide +kernel
theorem dX12_init_442 : decode cX12_init 442 = .ok (.putfield 181, 3) := by decide +kernel
theorem dX12_init_445 : decode cX12_init 445 = .ok (.aload_n 0, 1) := by decide +kernel
theorem dX12_init_446 : decode cX12_init 446 = .ok (.iconst 2, 1) := by decide +kernel
theorem dX12_init_447 : decode cX12_init 447 = .ok (.newarray .boolean, 2) := by decide +kernel
theorem dX12_init_449 : decode cX12_init 449 = .ok (.putfield 184, 3) := by decide +kernel
theorem dX12_init_452 : decode cX12_init 452 = .ok (.aload_n 0, 1) := by decide +kernel
theorem dX12_init_453 : decode cX12_init 453 = .ok (.iconst 2, 1) := by decide +kernel
theorem dX12_init_454 : decode cX12_init 454 = .ok (.newarray .boolean, 2) := by decide +kernel
theorem dX12_init_456 : decode cX12_init 456 = .ok (.putfield 187, 3) := by decide +kernel
theorem dX12_init_459 : decode cX12_init 459 = .ok (.aload_n 0, 1) := by decide +kernel
theorem dX12_init_460 : decode cX12_init 460 = .ok (.iconst 2, 1) := by decide +kernel
theorem dX12_init_461 : decode cX12_init 461 = .ok (.newarray .int, 2) := by decide +kernel
theorem dX12_init_463 : decode cX12_init 463 = .ok (.putfield 190, 3) := by decide +kernel
theorem dX12_init_466 : decode cX12_init 466 = .ok (.aload_n 0, 1) := by decide +kernel
theorem dX12_init_467 : decode cX12_init 467 = .ok (.iconst 2, 1) := by decide +kernel
theorem dX12_init_468 : decode cX12_init 468 = .ok (.newarray .int, 2) := by decide +kernel
theorem dX12_init_470 : decode cX12_init 470 = .ok (.putfield 193, 3) := by decide +kernel
theorem dX12_init_473 : decode cX12_init 473 = .ok (.aload_n 0, 1) := by decide +kernel
theorem dX12_init_474 : decode cX12_init 474 = .ok (.iconst 2, 1) := by decide +kernel
theorem dX12_init_475 : decode cX12_init 475 = .ok (.newarray .int, 2) := by decide +kernel
theorem dX12_init_477 : decode cX12_init 477 = .ok (.putfield 196, 3) := by decide +kernel
theorem dX12_init_480 : decode cX12_init 480 = .ok (.aload_n 0, 1) := by decide +kernel
theorem dX12_init_481 : decode cX12_init 481 = .ok (.iconst 2, 1) := by decide +kernel
theorem dX12_init_482 : decode cX12_init 482 = .ok (.newarray .int, 2) := by decide +kernel
theorem dX12_init_484 : decode cX12_init 484 = .ok (.putfield 199, 3) := by decide +kernel
theorem dX12_init_487 : decode cX12_init 487 = .ok (.aload_n 0, 1) := by decide +kernel
theorem dX12_init_488 : decode cX12_init 488 = .ok (.iconst 2, 1) := by decide +kernel
theorem dX12_init_489 : decode cX12_init 489 = .ok (.newarray .int, 2) := by decide +kernel
theorem dX12_init_491 : decode cX12_init 491 = .ok (.putfield 202, 3) := by decide +kernel
theorem dX12_init_494 : decode cX12_init 494 = .ok (.aload_n 0, 1) := by decide +kernel
theorem dX12_init_495 : decode cX12_init 495 = .ok (.bipush 16, 2) := by decide +kernel
theorem dX12_init_497 : decode cX12_init 497 = .ok (.newarray .int, 2) := by decide +kernel
theorem dX12_init_499 : decode cX12_init 499 = .ok (.putfield 205, 3) := by decide +kernel
theorem dX12_init_502 : decode cX12_init 502 = .ok (.aload_n 0, 1) := by decide +kernel
theorem dX12_init_503 : decode cX12_init 503 = .ok (.iconst 2, 1) := by decide +kernel
theorem dX12_init_504 : decode cX12_init 504 = .ok (.newarray .int, 2) := by decide +kernel
theorem dX12_init_506 : decode cX12_init 506 = .ok (.putfield 208, 3) := by decide +kernel
theorem dX12_init_509 : decode cX12_init 509 = .ok (.aload_n 0, 1) := by decide +kernel
theorem dX12_init_510 : decode cX12_init 510 = .ok (.iconst 2, 1) := by decide +kernel
theorem dX12_init_511 : decode cX12_init 511 = .ok (.newarray .int, 2) := by decide +kernel
theorem dX12_init_513 : decode cX12_init 513 = .ok (.putfield 211, 3) := by decide +kernel
theorem dX12_init_516 : decode cX12_init 516 = .ok (.aload_n 0, 1) := by decide +kernel
theorem dX12_init_517 : decode cX12_init 517 = .ok (.iconst 2, 1) := by decide +kernel
theorem dX12_init_518 : decode cX12_init 518 = .ok (.newarray .int, 2) := by decide +kernel
theorem dX12_init_520 : decode cX12_init 520 = .ok (.putfield 214, 3) := by decide +kernel
theorem dX12_init_523 : decode cX12_init 523 = .ok (.aload_n 0, 1) := by decide +kernel
theorem dX12_init_524 : decode cX12_init 524 = .ok (.iconst 2, 1) := by decide +kernel
theorem dX12_init_525 : decode cX12_init 525 = .ok (.newarray .int, 2) := by decide +kernel
theorem dX12_init_527 : decode cX12_init 527 = .ok (.putfield 217, 3) := by decide +kernel
theorem dX12_init_530 : decode cX12_init 530 = .ok (.aload_n 0, 1) := by decide +kernel
theorem dX12_init_531 : decode cX12_init 531 = .ok (.iconst 2, 1) := by decide +kernel
theorem dX12_init_532 : decode cX12_init 532 = .ok (.newarray .int, 2) := by decide +kernel
theorem dX12_init_534 : decode cX12_init 534 = .ok (.putfield 220, 3) := by decide +kernel
theorem dX12_init_537 : decode cX12_init 537 = .ok (.aload_n 0, 1) := by decide +kernel
theorem dX12_init_538 : decode cX12_init 538 = .ok (.iconst 2, 1) := by decide +kernel
theorem dX12_init_539 : decode cX12_init 539 = .ok (.newarray .int, 2) := by decide +kernel
theorem dX12_init_541 : decode cX12_init 541 = .ok (.putfield 223, 3) := by decide +kernel
theorem dX12_init_544 : decode cX12_init 544 = .ok (.aload_n 0, 1) := by decide +kernel
theorem dX12_init_545 : decode cX12_init 545 = .ok (.iconst 2, 1) := by decide +kernel
theorem dX12_init_546 : decode cX12_init 546 = .ok (.newarray .int, 2) := by decide +kernel
theorem dX12_init_548 : decode cX12_init 548 = .ok (.putfield 226, 3) := by decide +kernel
theorem dX12_init_551 : decode cX12_init 551 = .ok (.aload_n 0, 1) := by decide +kernel
theorem dX12_init_552 : decode cX12_init 552 = .ok (.bipush 6, 2) := by decide +kernel
theorem dX12_init_554 : decode cX12_init 554 = .ok (.newarray .int, 2) := by decide +kernel
theorem dX12_init_556 : decode cX12_init 556 = .ok (.putfield 229, 3) := by decide +kernel
theorem dX12_init_559 : decode cX12_init 559 = .ok (.iconst 0, 1) := by decide +kernel
theorem dX12_init_560 : decode cX12_init 560 = .ok (.istore_n 1, 1) := by decide +kernel
theorem dX12_init_561 : decode cX12_init 561 = .ok (.iload_n 1, 1) := by decide +kernel
theorem dX12_init_562 : decode cX12_init 562 = .ok (.iconst 2, 1) := by decide +kernel
theorem dX12_init_563 : decode cX12_init 563 = .ok (.if_icmp .ge 102, 3) := by decide +kernel
theorem dX12_init_566 : decode cX12_init 566 = .ok (.aload_n 0, 1) := by decide +kernel
theorem dX12_init_567 : decode cX12_init 567 = .ok (.getfield 7, 3) := by decide +kernel
theorem dX12_init_570 : decode cX12_init 570 = .ok (.iload_n 1, 1) := by decide +kernel
theorem dX12_init_571 : decode cX12_init 571 = .ok (.iconst 5, 1) := by decide +kernel
theorem dX12_init_572 : decode cX12_init 572 = .ok (.iastore, 1) := by decide +kernel
theorem dX12_init_573 : decode cX12_init 573 = .ok (.aload_n 0, 1) := by decide +kernel
theorem dX12_init_574 : decode cX12_init 574 = .ok (.getfield 13, 3) := by decide +kernel
theorem dX12_init_577 : decode cX12_init 577 = .ok (.iload_n 1, 1) := by decide +kernel
theorem dX12_init_578 : decode cX12_init 578 = .ok (.iconst 2, 1) := by decide +kernel
theorem dX12_init_579 : decode cX12_init 579 = .ok (.iastore, 1) := by decide +kernel
theorem dX12_init_580 : decode cX12_init 580 = .ok (.aload_n 0, 1) := by decide +kernel
theorem dX12_init_581 : decode cX12_init 581 = .ok (.getfield 16, 3) := by decide +kernel
theorem dX12_init_584 : decode cX12_init 584 = .ok (.iload_n 1, 1) := by decide +kernel
theorem dX12_init_585 : decode cX12_init 585 = .ok (.bipush 8, 2) := by decide +kernel
theorem dX12_init_587 : decode cX12_init 587 = .ok (.iastore, 1) := by decide +kernel
theorem dX12_init_588 : decode cX12_init 588 = .ok (.aload_n 0, 1) := by decide +kernel
theorem dX12_init_589 : decode cX12_init 589 = .ok (.getfield 19, 3) := by decide +kernel
theorem dX12_init_592 : decode cX12_init 592 = .ok (.iload_n 1, 1) := by decide +kernel
theorem dX12_init_593 : decode cX12_init 593 = .ok (.bipush 6, 2) := by decide +kernel
theorem dX12_init_595 : decode cX12_init 595 = .ok (.iastore, 1) := by decide +kernel
theorem dX12_init_596 : decode cX12_init 596 = .ok (.aload_n 0, 1) := by decide +kernel
theorem dX12_init_597 : decode cX12_init 597 = .ok (.getfield 163, 3) := by decide +kernel
theorem dX12_init_600 : decode cX12_init 600 = .ok (.iload_n 1, 1) := by decide +kernel
theorem dX12_init_601 : decode cX12_init 601 = .ok (.sipush 160, 3) := by decide +kernel
theorem dX12_init_604 : decode cX12_init 604 = .ok (.iastore, 1) := by decide +kernel
theorem dX12_init_605 : decode cX12_init 605 = .ok (.aload_n 0, 1) := by decide +kernel
theorem dX12_init_606 : decode cX12_init 606 = .ok (.getfield 166, 3) := by decide +kernel
theorem dX12_init_609 : decode cX12_init 609 = .ok (.iload_n 1, 1) := by decide +kernel
theorem dX12_init_610 : decode cX12_init 610 = .ok (.ldc 232, 2) := by decide +kernel
theorem dX12_init_612 : decode cX12_init 612 = .ok (.iastore, 1) := by decide +kernel
theorem dX12_init_613 : decode cX12_init 613 = .ok (.aload_n 0, 1) := by decide +kernel
theorem dX12_init_614 : decode cX12_init 614 = .ok (.getfield 172, 3) := by decide +kernel
theorem dX12_init_617 : decode cX12_init 617 = .ok (.iload_n 1, 1) := by decide +kernel
theorem dX12_init_618 : decode cX12_init 618 = .ok (.bipush 80, 2) := by decide +kernel
theorem dX12_init_620 : decode cX12_init 620 = .ok (.iastore, 1) := by decide +kernel
theorem dX12_init_621 : decode cX12_init 621 = .ok (.aload_n 0, 1) := by decide +kernel
theorem dX12_init_622 : decode cX12_init 622 = .ok (.getfield 175, 3) := by decide +kernel
theorem dX12_init_625 : decode cX12_init 625 = .ok (.iload_n 1, 1) := by decide +kernel
theorem dX12_init_626 : decode cX12_init 626 = .ok (.bipush 20, 2) := by decide +kernel
theorem dX12_init_628 : decode cX12_init 628 = .ok (.iastore, 1) := by decide +kernel
theorem dX12_init_629 : decode cX12_init 629 = .ok (.aload_n 0, 1) := by decide +kernel
theorem dX12_init_630 : decode cX12_init 630 = .ok (.getfield 178, 3) := by decide +kernel
theorem dX12_init_633 : decode cX12_init 633 = .ok (.iload_n 1, 1) := by decide +kernel
theorem dX12_init_634 : decode cX12_init 634 = .ok (.bipush 10, 2) := by decide +kernel
theorem dX12_init_636 : decode cX12_init 636 = .ok (.iastore, 1) := by decide +kernel
theorem dX12_init_637 : decode cX12_init 637 = .ok (.aload_n 0, 1) := by decide +kernel
theorem dX12_init_638 : decode cX12_init 638 = .ok (.getfield 181, 3) := by decide +kernel
theorem dX12_init_641 : decode cX12_init 641 = .ok (.iload_n 1, 1) := by decide +kernel
theorem dX12_init_642 : decode cX12_init 642 = .ok (.bipush 10, 2) := by decide +kernel
theorem dX12_init_644 : decode cX12_init 644 = .ok (.iastore, 1) := by decide +kernel
theorem dX12_init_645 : decode cX12_init 645 = .ok (.aload_n 0, 1) := by decide +kernel
theorem dX12_init_646 : decode cX12_init 646 = .ok (.getfield 193, 3) := by decide +kernel
theorem dX12_init_649 : decode cX12_init 649 = .ok (.iload_n 1, 1) := by decide +kernel
theorem dX12_init_650 : decode cX12_init 650 = .ok (.iconst (-1), 1) := by decide +kernel
theorem dX12_init_651 : decode cX12_init 651 = .ok (.iastore, 1) := by decide +kernel
theorem dX12_init_652 : decode cX12_init 652 = .ok (.aload_n 0, 1) := by decide +kernel
theorem dX12_init_653 : decode cX12_init 653 = .ok (.getfield 217, 3) := by decide +kernel
theorem dX12_init_656 : decode cX12_init 656 = .ok (.iload_n 1, 1) := by decide +kernel
theorem dX12_init_657 : decode cX12_init 657 = .ok (.iconst (-1), 1) := by decide +kernel
theorem dX12_init_658 : decode cX12_init 658 = .ok (.iastore, 1) := by decide +kernel
theorem dX12_init_659 : decode cX12_init 659 = .ok (.iinc 1 1, 3) := by decide +kernel
theorem dX12_init_662 : decode cX12_init 662 = .ok (.goto (-101), 3) := by decide +kernel
theorem dX12_init_665 : decode cX12_init 665 = .ok (.aload_n 0, 1) := by decide +kernel
theorem dX12_init_666 : decode cX12_init 666 = .ok (.getfield 187, 3) := by decide +kernel
theorem dX12_init_669 : decode cX12_init 669 = .ok (.iconst 0, 1) := by decide +kernel
theorem dX12_init_670 : decode cX12_init 670 = .ok (.iconst 1, 1) := by decide +kernel
theorem dX12_init_671 : decode cX12_init 671 = .ok (.bastore, 1) := by decide +kernel
theorem dX12_init_672 : decode cX12_init 672 = .ok (.iconst 0, 1) := by decide +kernel
theorem dX12_init_673 : decode cX12_init 673 = .ok (.istore_n 1, 1) := by decide +kernel
theorem dX12_init_674 : decode cX12_init 674 = .ok (.iload_n 1, 1) := by decide +kernel
theorem dX12_init_675 : decode cX12_init 675 = .ok (.iconst 4, 1) := by decide +kernel
theorem dX12_init_676 : decode cX12_init 676 = .ok (.if_icmp .ge 17, 3) := by decide +kernel
theorem dX12_init_679 : decode cX12_init 679 = .ok (.aload_n 0, 1) := by decide +kernel
theorem dX12_init_680 : decode cX12_init 680 = .ok (.getfield 109, 3) := by decide +kernel
theorem dX12_init_683 : decode cX12_init 683 = .ok (.iload_n 1, 1) := by decide +kernel
theorem dX12_init_684 : decode cX12_init 684 = .ok (.bipush 40, 2) := by decide +kernel
theorem dX12_init_686 : decode cX12_init 686 = .ok (.iastore, 1) := by decide +kernel
theorem dX12_init_687 : decode cX12_init 687 = .ok (.iinc 1 1, 3) := by decide +kernel
theorem dX12_init_690 : decode cX12_init 690 = .ok (.goto (-16), 3) := by decide +kernel
theorem dX12_init_693 : decode cX12_init 693 = .ok (.return_, 1) := by decide +kernel
theorem dX12_thrown_0 : decode cX12_thrown 0 = .ok (.aload_n 0, 1) := by decide +kernel
theorem dX12_thrown_1 : decode cX12_thrown 1 = .ok (.getfield 233, 3) := by decide +kernel
theorem dX12_thrown_4 : decode cX12_thrown 4 = .ok (.ireturn, 1) := by decide +kernel
theorem dX12_in_0 : decode cX12_in 0 = .ok (.iload_n 0, 1) := by decide +kernel
theorem dX12_in_1 : decode cX12_in 1 = .ok (.iload_n 1, 1) := by decide +kernel
theorem dX12_in_2 : decode cX12_in 2 = .ok (.if_icmp .lt 12, 3) := by decide +kernel
theorem dX12_in_5 : decode cX12_in 5 = .ok (.iload_n 0, 1) := by decide +kernel
theorem dX12_in_6 : decode cX12_in 6 = .ok (.iload_n 2, 1) := by decide +kernel
theorem dX12_in_7 : decode cX12_in 7 = .ok (.if_icmp .gt 7, 3) := by decide +kernel
theorem dX12_in_10 : decode cX12_in 10 = .ok (.iconst 1, 1) := by decide +kernel
theorem dX12_in_11 : decode cX12_in 11 = .ok (.goto 4, 3) := by decide +kernel
theorem dX12_in_14 : decode cX12_in 14 = .ok (.iconst 0, 1) := by decide +kernel
theorem dX12_in_15 : decode cX12_in 15 = .ok (.ireturn, 1) := by decide +kernel
theorem dX12_goes_0 : decode cX12_goes 0 = .ok (.aload_n 0, 1) := by decide +kernel
theorem dX12_goes_1 : decode cX12_goes 1 = .ok (.iload_n 1, 1) := by decide +kernel
theorem dX12_goes_2 : decode cX12_goes 2 = .ok (.ifCond .ne 7, 3) := by decide +kernel
theorem dX12_goes_5 : decode cX12_goes 5 = .ok (.iconst 1, 1) := by decide +kernel
theorem dX12_goes_6 : decode cX12_goes 6 = .ok (.goto 20, 3) := by decide +kernel
theorem dX12_goes_9 : decode cX12_goes 9 = .ok (.iload_n 2, 1) := by decide +kernel
theorem dX12_goes_10 : decode cX12_goes 10 = .ok (.ifCond .ne 7, 3) := by decide +kernel
theorem dX12_goes_13 : decode cX12_goes 13 = .ok (.iconst 2, 1) := by decide +kernel
theorem dX12_goes_14 : decode cX12_goes 14 = .ok (.goto 12, 3) := by decide +kernel
theorem dX12_goes_17 : decode cX12_goes 17 = .ok (.iload_n 3, 1) := by decide +kernel
theorem dX12_goes_18 : decode cX12_goes 18 = .ok (.ifCond .eq 7, 3) := by decide +kernel
theorem dX12_goes_21 : decode cX12_goes 21 = .ok (.iconst 0, 1) := by decide +kernel
theorem dX12_goes_22 : decode cX12_goes 22 = .ok (.goto 4, 3) := by decide +kernel
theorem dX12_goes_25 : decode cX12_goes 25 = .ok (.iconst 3, 1) := by decide +kernel
theorem dX12_goes_26 : decode cX12_goes 26 = .ok (.putfield 233, 3) := by decide +kernel
theorem dX12_goes_29 : decode cX12_goes 29 = .ok (.aload_n 0, 1) := by decide +kernel
theorem dX12_goes_30 : decode cX12_goes 30 = .ok (.getfield 233, 3) := by decide +kernel
theorem dX12_goes_33 : decode cX12_goes 33 = .ok (.ifCond .ne 7, 3) := by decide +kernel
theorem dX12_goes_36 : decode cX12_goes 36 = .ok (.iconst 1, 1) := by decide +kernel
theorem dX12_goes_37 : decode cX12_goes 37 = .ok (.goto 4, 3) := by decide +kernel
theorem dX12_goes_40 : decode cX12_goes 40 = .ok (.iconst 0, 1) := by decide +kernel
theorem dX12_goes_41 : decode cX12_goes 41 = .ok (.ireturn, 1) := by decide +kernel
theorem dX12_isPath_0 : decode cX12_isPath 0 = .ok (.iload_n 0, 1) := by decide +kernel
theorem dX12_isPath_1 : decode cX12_isPath 1 = .ok (.iconst 0, 1) := by decide +kernel
theorem dX12_isPath_2 : decode cX12_isPath 2 = .ok (.iconst 1, 1) := by decide +kernel
theorem dX12_isPath_3 : decode cX12_isPath 3 = .ok (.invokestatic 236, 3) := by decide +kernel
theorem dX12_isPath_6 : decode cX12_isPath 6 = .ok (.ireturn, 1) := by decide +kernel
theorem dX12_isStream_0 : decode cX12_isStream 0 = .ok (.iload_n 0, 1) := by decide +kernel
theorem dX12_isStream_1 : decode cX12_isStream 1 = .ok (.iconst 0, 1) := by decide +kernel
theorem dX12_isStream_2 : decode cX12_isStream 2 = .ok (.iconst 3, 1) := by decide +kernel
theorem dX12_isStream_3 : decode cX12_isStream 3 = .ok (.invokestatic 236, 3) := by decide +kernel
theorem dX12_isStream_6 : decode cX12_isStream 6 = .ok (.ireturn, 1) := by decide +kernel
theorem dX12_max_0 : decode cX12_max 0 = .ok (.iload_n 0, 1) := by decide +kernel
theorem dX12_max_1 : decode cX12_max 1 = .ok (.iload_n 1, 1) := by decide +kernel
theorem dX12_max_2 : decode cX12_max 2 = .ok (.if_icmp .le 7, 3) := by decide +kernel
theorem dX12_max_5 : decode cX12_max 5 = .ok (.iload_n 0, 1) := by decide +kernel
theorem dX12_max_6 : decode cX12_max 6 = .ok (.goto 4, 3) := by decide +kernel
theorem dX12_max_9 : decode cX12_max 9 = .ok (.iload_n 1, 1) := by decide +kernel
theorem dX12_max_10 : decode cX12_max 10 = .ok (.ireturn, 1) := by decide +kernel
theorem dX12_puts_0 : decode cX12_puts 0 = .ok (.aload_n 0, 1) := by decide +kernel
theorem dX12_puts_1 : decode cX12_puts 1 = .ok (.getfield 22, 3) := by decide +kernel
theorem dX12_puts_4 : decode cX12_puts 4 = .ok (.iload_n 1, 1) := by decide +kernel
theorem dX12_puts_5 : decode cX12_puts 5 = .ok (.baload, 1) := by decide +kernel
theorem dX12_puts_6 : decode cX12_puts 6 = .ok (.istore 4, 2) := by decide +kernel
theorem dX12_puts_8 : decode cX12_puts 8 = .ok (.iload 4, 2) := by decide +kernel
theorem dX12_puts_10 : decode cX12_puts 10 = .ok (.ifCond .ne 25, 3) := by decide +kernel
theorem dX12_puts_13 : decode cX12_puts 13 = .ok (.aload_n 0, 1) := by decide +kernel
theorem dX12_puts_14 : decode cX12_puts 14 = .ok (.getfield 26, 3) := by decide +kernel
theorem dX12_puts_17 : decode cX12_puts 17 = .ok (.iload_n 1, 1) := by decide +kernel
theorem dX12_puts_18 : decode cX12_puts 18 = .ok (.iaload, 1) := by decide +kernel
theorem dX12_puts_19 : decode cX12_puts 19 = .ok (.ifCond .le 16, 3) := by decide +kernel
theorem dX12_puts_22 : decode cX12_puts 22 = .ok (.aload_n 0, 1) := by decide +kernel
theorem dX12_puts_23 : decode cX12_puts 23 = .ok (.getfield 26, 3) := by decide +kernel
theorem dX12_puts_26 : decode cX12_puts 26 = .ok (.iload_n 1, 1) := by decide +kernel
theorem dX12_puts_27 : decode cX12_puts 27 = .ok (.dup2, 1) := by decide +kernel
theorem dX12_puts_28 : decode cX12_puts 28 = .ok (.iaload, 1) := by decide +kernel
theorem dX12_puts_29 : decode cX12_puts 29 = .ok (.iconst 1, 1) := by decide +kernel
theorem dX12_puts_30 : decode cX12_puts 30 = .ok (.isub, 1) := by decide +kernel
theorem dX12_puts_31 : decode cX12_puts 31 = .ok (.iastore, 1) := by decide +kernel
theorem dX12_puts_32 : decode cX12_puts 32 = .ok (.iconst 1, 1) := by decide +kernel
theorem dX12_puts_33 : decode cX12_puts 33 = .ok (.istore 4, 2) := by decide +kernel
theorem dX12_puts_35 : decode cX12_puts 35 = .ok (.iload 4, 2) := by decide +kernel
theorem dX12_puts_37 : decode cX12_puts 37 = .ok (.ifCond .ne 18, 3) := by decide +kernel
theorem dX12_puts_40 : decode cX12_puts 40 = .ok (.aload_n 0, 1) := by decide +kernel
theorem dX12_puts_41 : decode cX12_puts 41 = .ok (.getfield 41, 3) := by decide +kernel
theorem dX12_puts_44 : decode cX12_puts 44 = .ok (.iload_n 1, 1) := by decide +kernel
theorem dX12_puts_45 : decode cX12_puts 45 = .ok (.iaload, 1) := by decide +kernel
theorem dX12_puts_46 : decode cX12_puts 46 = .ok (.aload_n 0, 1) := by decide +kernel
theorem dX12_puts_47 : decode cX12_puts 47 = .ok (.getfield 16, 3) := by decide +kernel
theorem dX12_puts_50 : decode cX12_puts 50 = .ok (.iload_n 1, 1) := by decide +kernel
theorem dX12_puts_51 : decode cX12_puts 51 = .ok (.iaload, 1) := by decide +kernel
theorem dX12_puts_52 : decode cX12_puts 52 = .ok (.if_icmp .lt 7, 3) := by decide +kernel
theorem dX12_puts_55 : decode cX12_puts 55 = .ok (.iconst 1, 1) := by decide +kernel
theorem dX12_puts_56 : decode cX12_puts 56 = .ok (.goto 4, 3) := by decide +kernel
theorem dX12_puts_59 : decode cX12_puts 59 = .ok (.iconst 0, 1) := by decide +kernel
theorem dX12_puts_60 : decode cX12_puts 60 = .ok (.istore 4, 2) := by decide +kernel
theorem dX12_puts_62 : decode cX12_puts 62 = .ok (.iload 4, 2) := by decide +kernel
theorem dX12_puts_64 : decode cX12_puts 64 = .ok (.ifCond .eq 16, 3) := by decide +kernel
theorem dX12_puts_67 : decode cX12_puts 67 = .ok (.iload_n 2, 1) := by decide +kernel
theorem dX12_puts_68 : decode cX12_puts 68 = .ok (.iconst 2, 1) := by decide +kernel
theorem dX12_puts_69 : decode cX12_puts 69 = .ok (.if_icmp .ne 10, 3) := by decide +kernel
theorem dX12_puts_72 : decode cX12_puts 72 = .ok (.aload_n 0, 1) := by decide +kernel
theorem dX12_puts_73 : decode cX12_puts 73 = .ok (.getfield 142, 3) := by decide +kernel
theorem dX12_puts_76 : decode cX12_puts 76 = .ok (.iload_n 3, 1) := by decide +kernel
theorem dX12_puts_77 : decode cX12_puts 77 = .ok (.iconst 3, 1) := by decide +kernel
theorem dX12_puts_78 : decode cX12_puts 78 = .ok (.iastore, 1) := by decide +kernel
theorem dX12_puts_79 : decode cX12_puts 79 = .ok (.return_, 1) := by decide +kernel
theorem dX12_puts_80 : decode cX12_puts 80 = .ok (.iload_n 2, 1) := by decide +kernel
theorem dX12_puts_81 : decode cX12_puts 81 = .ok (.iconst 2, 1) := by decide +kernel
theorem dX12_puts_82 : decode cX12_puts 82 = .ok (.if_icmp .ne 29, 3) := by decide +kernel
theorem dX12_puts_85 : decode cX12_puts 85 = .ok (.aload_n 0, 1) := by decide +kernel
theorem dX12_puts_86 : decode cX12_puts 86 = .ok (.getfield 154, 3) := by decide +kernel
theorem dX12_puts_89 : decode cX12_puts 89 = .ok (.iload_n 3, 1) := by decide +kernel
theorem dX12_puts_90 : decode cX12_puts 90 = .ok (.aload_n 0, 1) := by decide +kernel
theorem dX12_puts_91 : decode cX12_puts 91 = .ok (.getfield 41, 3) := by decide +kernel
theorem dX12_puts_94 : decode cX12_puts 94 = .ok (.iload_n 1, 1) := by decide +kernel
theorem dX12_puts_95 : decode cX12_puts 95 = .ok (.iaload, 1) := by decide +kernel
theorem dX12_puts_96 : decode cX12_puts 96 = .ok (.aload_n 0, 1) := by decide +kernel
theorem dX12_puts_97 : decode cX12_puts 97 = .ok (.getfield 19, 3) := by decide +kernel
theorem dX12_puts_100 : decode cX12_puts 100 = .ok (.iload_n 1, 1) := by decide +kernel
theorem dX12_puts_101 : decode cX12_puts 101 = .ok (.iaload, 1) := by decide +kernel
theorem dX12_puts_102 : decode cX12_puts 102 = .ok (.if_icmp .lt 7, 3) := by decide +kernel
theorem dX12_puts_105 : decode cX12_puts 105 = .ok (.iconst 1, 1) := by decide +kernel
theorem dX12_puts_106 : decode cX12_puts 106 = .ok (.goto 4, 3) := by decide +kernel
theorem dX12_puts_109 : decode cX12_puts 109 = .ok (.iconst 0, 1) := by decide +kernel
theorem dX12_puts_110 : decode cX12_puts 110 = .ok (.bastore, 1) := by decide +kernel
theorem dX12_puts_111 : decode cX12_puts 111 = .ok (.aload_n 0, 1) := by decide +kernel
theorem dX12_puts_112 : decode cX12_puts 112 = .ok (.getfield 44, 3) := by decide +kernel
theorem dX12_puts_115 : decode cX12_puts 115 = .ok (.aload_n 0, 1) := by decide +kernel
theorem dX12_puts_116 : decode cX12_puts 116 = .ok (.getfield 240, 3) := by decide +kernel
theorem dX12_puts_119 : decode cX12_puts 119 = .ok (.iload_n 2, 1) := by decide +kernel
theorem dX12_puts_120 : decode cX12_puts 120 = .ok (.iastore, 1) := by decide +kernel
theorem dX12_puts_121 : decode cX12_puts 121 = .ok (.aload_n 0, 1) := by decide +kernel
theorem dX12_puts_122 : decode cX12_puts 122 = .ok (.getfield 47, 3) := by decide +kernel
theorem dX12_puts_125 : decode cX12_puts 125 = .ok (.aload_n 0, 1) := by decide +kernel
theorem dX12_puts_126 : decode cX12_puts 126 = .ok (.getfield 240, 3) := by decide +kernel
theorem dX12_puts_129 : decode cX12_puts 129 = .ok (.iload_n 3, 1) := by decide +kernel
theorem dX12_puts_130 : decode cX12_puts 130 = .ok (.iastore, 1) := by decide +kernel
theorem dX12_puts_131 : decode cX12_puts 131 = .ok (.aload_n 0, 1) := by decide +kernel
theorem dX12_puts_132 : decode cX12_puts 132 = .ok (.getfield 50, 3) := by decide +kernel
theorem dX12_puts_135 : decode cX12_puts 135 = .ok (.aload_n 0, 1) := by decide +kernel
theorem dX12_puts_136 : decode cX12_puts 136 = .ok (.getfield 240, 3) := by decide +kernel
theorem dX12_puts_139 : decode cX12_puts 139 = .ok (.iload_n 1, 1) := by decide +kernel
theorem dX12_puts_140 : decode cX12_puts 140 = .ok (.iastore, 1) := by decide +kernel
theorem dX12_puts_141 : decode cX12_puts 141 = .ok (.aload_n 0, 1) := by decide +kernel
theorem dX12_puts_142 : decode cX12_puts 142 = .ok (.getfield 38, 3) := by decide +kernel
theorem dX12_puts_145 : decode cX12_puts 145 = .ok (.bipush 30, 2) := by decide +kernel
theorem dX12_puts_147 : decode cX12_puts 147 = .ok (.iload_n 1, 1) := by decide +kernel
theorem dX12_puts_148 : decode cX12_puts 148 = .ok (.imul, 1) := by decide +kernel
theorem dX12_puts_149 : decode cX12_puts 149 = .ok (.aload_n 0, 1) := by decide +kernel
theorem dX12_puts_150 : decode cX12_puts 150 = .ok (.getfield 41, 3) := by decide +kernel
theorem dX12_puts_153 : decode cX12_puts 153 = .ok (.iload_n 1, 1) := by decide +kernel
theorem dX12_puts_154 : decode cX12_puts 154 = .ok (.iaload, 1) := by decide +kernel
theorem dX12_puts_155 : decode cX12_puts 155 = .ok (.iadd, 1) := by decide +kernel
theorem dX12_puts_156 : decode cX12_puts 156 = .ok (.aload_n 0, 1) := by decide +kernel
theorem dX12_puts_157 : decode cX12_puts 157 = .ok (.getfield 240, 3) := by decide +kernel
theorem dX12_puts_160 : decode cX12_puts 160 = .ok (.iastore, 1) := by decide +kernel
theorem dX12_puts_161 : decode cX12_puts 161 = .ok (.aload_n 0, 1) := by decide +kernel
theorem dX12_puts_162 : decode cX12_puts 162 = .ok (.getfield 41, 3) := by decide +kernel
theorem dX12_puts_165 : decode cX12_puts 165 = .ok (.iload_n 1, 1) := by decide +kernel
theorem dX12_puts_166 : decode cX12_puts 166 = .ok (.dup2, 1) := by decide +kernel
theorem dX12_puts_167 : decode cX12_puts 167 = .ok (.iaload, 1) := by decide +kernel
theorem dX12_puts_168 : decode cX12_puts 168 = .ok (.iconst 1, 1) := by decide +kernel
theorem dX12_puts_169 : decode cX12_puts 169 = .ok (.iadd, 1) := by decide +kernel
theorem dX12_puts_170 : decode cX12_puts 170 = .ok (.iastore, 1) := by decide +kernel
theorem dX12_puts_171 : decode cX12_puts 171 = .ok (.aload_n 0, 1) := by decide +kernel
theorem dX12_puts_172 : decode cX12_puts 172 = .ok (.dup, 1) := by decide +kernel
theorem dX12_puts_173 : decode cX12_puts 173 = .ok (.getfield 240, 3) := by decide +kernel
theorem dX12_puts_176 : decode cX12_puts 176 = .ok (.iconst 1, 1) := by decide +kernel
theorem dX12_puts_177 : decode cX12_puts 177 = .ok (.iadd, 1) := by decide +kernel
theorem dX12_puts_178 : decode cX12_puts 178 = .ok (.putfield 240, 3) := by decide +kernel
theorem dX12_puts_181 : decode cX12_puts 181 = .ok (.return_, 1) := by decide +kernel
theorem dX12_answers_0 : decode cX12_answers 0 = .ok (.aload_n 0, 1) := by decide +kernel
theorem dX12_answers_1 : decode cX12_answers 1 = .ok (.getfield 22, 3) := by decide +kernel
theorem dX12_answers_4 : decode cX12_answers 4 = .ok (.iload_n 1, 1) := by decide +kernel
theorem dX12_answers_5 : decode cX12_answers 5 = .ok (.baload, 1) := by decide +kernel
theorem dX12_answers_6 : decode cX12_answers 6 = .ok (.ifCond .eq 4, 3) := by decide +kernel
theorem dX12_answers_9 : decode cX12_answers 9 = .ok (.return_, 1) := by decide +kernel
theorem dX12_answers_10 : decode cX12_answers 10 = .ok (.aload_n 0, 1) := by decide +kernel
theorem dX12_answers_11 : decode cX12_answers 11 = .ok (.getfield 29, 3) := by decide +kernel
theorem dX12_answers_14 : decode cX12_answers 14 = .ok (.iload_n 1, 1) := by decide +kernel
theorem dX12_answers_15 : decode cX12_answers 15 = .ok (.iaload, 1) := by decide +kernel
theorem dX12_answers_16 : decode cX12_answers 16 = .ok (.ifCond .le 14, 3) := by decide +kernel
theorem dX12_answers_19 : decode cX12_answers 19 = .ok (.aload_n 0, 1) := by decide +kernel
theorem dX12_answers_20 : decode cX12_answers 20 = .ok (.getfield 29, 3) := by decide +kernel
theorem dX12_answers_23 : decode cX12_answers 23 = .ok (.iload_n 1, 1) := by decide +kernel
theorem dX12_answers_24 : decode cX12_answers 24 = .ok (.dup2, 1) := by decide +kernel
theorem dX12_answers_25 : decode cX12_answers 25 = .ok (.iaload, 1) := by decide +kernel
theorem dX12_answers_26 : decode cX12_answers 26 = .ok (.iconst 1, 1) := by decide +kernel
theorem dX12_answers_27 : decode cX12_answers 27 = .ok (.isub, 1) := by decide +kernel
theorem dX12_answers_28 : decode cX12_answers 28 = .ok (.iastore, 1) := by decide +kernel
theorem dX12_answers_29 : decode cX12_answers 29 = .ok (.return_, 1) := by decide +kernel
theorem dX12_answers_30 : decode cX12_answers 30 = .ok (.aload_n 0, 1) := by decide +kernel
theorem dX12_answers_31 : decode cX12_answers 31 = .ok (.getfield 59, 3) := by decide +kernel
theorem dX12_answers_34 : decode cX12_answers 34 = .ok (.aload_n 0, 1) := by decide +kernel
theorem dX12_answers_35 : decode cX12_answers 35 = .ok (.getfield 243, 3) := by decide +kernel
theorem dX12_answers_38 : decode cX12_answers 38 = .ok (.iload_n 2, 1) := by decide +kernel
theorem dX12_answers_39 : decode cX12_answers 39 = .ok (.iastore, 1) := by decide +kernel
theorem dX12_answers_40 : decode cX12_answers 40 = .ok (.aload_n 0, 1) := by decide +kernel
theorem dX12_answers_41 : decode cX12_answers 41 = .ok (.getfield 62, 3) := by decide +kernel
theorem dX12_answers_44 : decode cX12_answers 44 = .ok (.aload_n 0, 1) := by decide +kernel
theorem dX12_answers_45 : decode cX12_answers 45 = .ok (.getfield 243, 3) := by decide +kernel
theorem dX12_answers_48 : decode cX12_answers 48 = .ok (.iload_n 3, 1) := by decide +kernel
theorem dX12_answers_49 : decode cX12_answers 49 = .ok (.iastore, 1) := by decide +kernel
theorem dX12_answers_50 : decode cX12_answers 50 = .ok (.aload_n 0, 1) := by decide +kernel
theorem dX12_answers_51 : decode cX12_answers 51 = .ok (.getfield 65, 3) := by decide +kernel
theorem dX12_answers_54 : decode cX12_answers 54 = .ok (.aload_n 0, 1) := by decide +kernel
theorem dX12_answers_55 : decode cX12_answers 55 = .ok (.getfield 243, 3) := by decide +kernel
theorem dX12_answers_58 : decode cX12_answers 58 = .ok (.iload_n 1, 1) := by decide +kernel
theorem dX12_answers_59 : decode cX12_answers 59 = .ok (.iastore, 1) := by decide +kernel
theorem dX12_answers_60 : decode cX12_answers 60 = .ok (.aload_n 0, 1) := by decide +kernel
theorem dX12_answers_61 : decode cX12_answers 61 = .ok (.getfield 68, 3) := by decide +kernel
theorem dX12_answers_64 : decode cX12_answers 64 = .ok (.aload_n 0, 1) := by decide +kernel
theorem dX12_answers_65 : decode cX12_answers 65 = .ok (.getfield 243, 3) := by decide +kernel
theorem dX12_answers_68 : decode cX12_answers 68 = .ok (.aload_n 0, 1) := by decide +kernel
theorem dX12_answers_69 : decode cX12_answers 69 = .ok (.getfield 246, 3) := by decide +kernel
theorem dX12_answers_72 : decode cX12_answers 72 = .ok (.aload_n 0, 1) := by decide +kernel
theorem dX12_answers_73 : decode cX12_answers 73 = .ok (.getfield 7, 3) := by decide +kernel
theorem dX12_answers_76 : decode cX12_answers 76 = .ok (.iload_n 1, 1) := by decide +kernel
theorem dX12_answers_77 : decode cX12_answers 77 = .ok (.iaload, 1) := by decide +kernel
theorem dX12_answers_78 : decode cX12_answers 78 = .ok (.iadd, 1) := by decide +kernel
theorem dX12_answers_79 : decode cX12_answers 79 = .ok (.iastore, 1) := by decide +kernel
theorem dX12_answers_80 : decode cX12_answers 80 = .ok (.aload_n 0, 1) := by decide +kernel
theorem dX12_answers_81 : decode cX12_answers 81 = .ok (.dup, 1) := by decide +kernel
theorem dX12_answers_82 : decode cX12_answers 82 = .ok (.getfield 243, 3) := by decide +kernel
theorem dX12_answers_85 : decode cX12_answers 85 = .ok (.iconst 1, 1) := by decide +kernel
theorem dX12_answers_86 : decode cX12_answers 86 = .ok (.iadd, 1) := by decide +kernel
theorem dX12_answers_87 : decode cX12_answers 87 = .ok (.putfield 243, 3) := by decide +kernel
theorem dX12_answers_90 : decode cX12_answers 90 = .ok (.return_, 1) := by decide +kernel
theorem dX12_setPath_0 : decode cX12_setPath 0 = .ok (.aload_n 0, 1) := by decide +kernel
theorem dX12_setPath_1 : decode cX12_setPath 1 = .ok (.iload_n 1, 1) := by decide +kernel
theorem dX12_setPath_2 : decode cX12_setPath 2 = .ok (.invokestatic 249, 3) := by decide +kernel
theorem dX12_setPath_5 : decode cX12_setPath 5 = .ok (.iload_n 2, 1) := by decide +kernel
theorem dX12_setPath_6 : decode cX12_setPath 6 = .ok (.iconst 1, 1) := by decide +kernel
theorem dX12_setPath_7 : decode cX12_setPath 7 = .ok (.bipush 30, 2) := by decide +kernel
theorem dX12_setPath_9 : decode cX12_setPath 9 = .ok (.invokestatic 236, 3) := by decide +kernel
theorem dX12_setPath_12 : decode cX12_setPath 12 = .ok (.ifCond .eq 39, 3) := by decide +kernel
theorem dX12_setPath_15 : decode cX12_setPath 15 = .ok (.iload_n 3, 1) := by decide +kernel
theorem dX12_setPath_16 : decode cX12_setPath 16 = .ok (.iconst 1, 1) := by decide +kernel
theorem dX12_setPath_17 : decode cX12_setPath 17 = .ok (.bipush 9, 2) := by decide +kernel
theorem dX12_setPath_19 : decode cX12_setPath 19 = .ok (.invokestatic 236, 3) := by decide +kernel
theorem dX12_setPath_22 : decode cX12_setPath 22 = .ok (.ifCond .eq 29, 3) := by decide +kernel
theorem dX12_setPath_25 : decode cX12_setPath 25 = .ok (.iload 4, 2) := by decide +kernel
theorem dX12_setPath_27 : decode cX12_setPath 27 = .ok (.iconst 1, 1) := by decide +kernel
theorem dX12_setPath_28 : decode cX12_setPath 28 = .ok (.bipush 30, 2) := by decide +kernel
theorem dX12_setPath_30 : decode cX12_setPath 30 = .ok (.invokestatic 236, 3) := by decide +kernel
theorem dX12_setPath_33 : decode cX12_setPath 33 = .ok (.ifCond .eq 18, 3) := by decide +kernel
theorem dX12_setPath_36 : decode cX12_setPath 36 = .ok (.iload 5, 2) := by decide +kernel
theorem dX12_setPath_38 : decode cX12_setPath 38 = .ok (.iconst 0, 1) := by decide +kernel
theorem dX12_setPath_39 : decode cX12_setPath 39 = .ok (.bipush 30, 2) := by decide +kernel
theorem dX12_setPath_41 : decode cX12_setPath 41 = .ok (.invokestatic 236, 3) := by decide +kernel
theorem dX12_setPath_44 : decode cX12_setPath 44 = .ok (.ifCond .eq 7, 3) := by decide +kernel
theorem dX12_setPath_47 : decode cX12_setPath 47 = .ok (.iconst 1, 1) := by decide +kernel
theorem dX12_setPath_48 : decode cX12_setPath 48 = .ok (.goto 4, 3) := by decide +kernel
theorem dX12_setPath_51 : decode cX12_setPath 51 = .ok (.iconst 0, 1) := by decide +kernel
theorem dX12_setPath_52 : decode cX12_setPath 52 = .ok (.iconst 1, 1) := by decide +kernel
theorem dX12_setPath_53 : decode cX12_setPath 53 = .ok (.invokevirtual 253, 3) := by decide +kernel
theorem dX12_setPath_56 : decode cX12_setPath 56 = .ok (.ifCond .eq 33, 3) := by decide +kernel
theorem dX12_setPath_59 : decode cX12_setPath 59 = .ok (.aload_n 0, 1) := by decide +kernel
theorem dX12_setPath_60 : decode cX12_setPath 60 = .ok (.getfield 7, 3) := by decide +kernel
theorem dX12_setPath_63 : decode cX12_setPath 63 = .ok (.iload_n 1, 1) := by decide +kernel
theorem dX12_setPath_64 : decode cX12_setPath 64 = .ok (.iload_n 2, 1) := by decide +kernel
theorem dX12_setPath_65 : decode cX12_setPath 65 = .ok (.iastore, 1) := by decide +kernel
theorem dX12_setPath_66 : decode cX12_setPath 66 = .ok (.aload_n 0, 1) := by decide +kernel
theorem dX12_setPath_67 : decode cX12_setPath 67 = .ok (.getfield 13, 3) := by decide +kernel
theorem dX12_setPath_70 : decode cX12_setPath 70 = .ok (.iload_n 1, 1) := by decide +kernel
theorem dX12_setPath_71 : decode cX12_setPath 71 = .ok (.iload_n 3, 1) := by decide +kernel
theorem dX12_setPath_72 : decode cX12_setPath 72 = .ok (.iastore, 1) := by decide +kernel
theorem dX12_setPath_73 : decode cX12_setPath 73 = .ok (.aload_n 0, 1) := by decide +kernel
theorem dX12_setPath_74 : decode cX12_setPath 74 = .ok (.getfield 16, 3) := by decide +kernel
theorem dX12_setPath_77 : decode cX12_setPath 77 = .ok (.iload_n 1, 1) := by decide +kernel
theorem dX12_setPath_78 : decode cX12_setPath 78 = .ok (.iload 4, 2) := by decide +kernel
theorem dX12_setPath_80 : decode cX12_setPath 80 = .ok (.iastore, 1) := by decide +kernel
theorem dX12_setPath_81 : decode cX12_setPath 81 = .ok (.aload_n 0, 1) := by decide +kernel
theorem dX12_setPath_82 : decode cX12_setPath 82 = .ok (.getfield 19, 3) := by decide +kernel
theorem dX12_setPath_85 : decode cX12_setPath 85 = .ok (.iload_n 1, 1) := by decide +kernel
theorem dX12_setPath_86 : decode cX12_setPath 86 = .ok (.iload 5, 2) := by decide +kernel
theorem dX12_setPath_88 : decode cX12_setPath 88 = .ok (.iastore, 1) := by decide +kernel
theorem dX12_setPath_89 : decode cX12_setPath 89 = .ok (.return_, 1) := by decide +kernel
theorem dX12_setUp_0 : decode cX12_setUp 0 = .ok (.aload_n 0, 1) := by decide +kernel
theorem dX12_setUp_1 : decode cX12_setUp 1 = .ok (.iload_n 1, 1) := by decide +kernel
theorem dX12_setUp_2 : decode cX12_setUp 2 = .ok (.invokestatic 249, 3) := by decide +kernel
theorem dX12_setUp_5 : decode cX12_setUp 5 = .ok (.iconst 1, 1) := by decide +kernel
theorem dX12_setUp_6 : decode cX12_setUp 6 = .ok (.iconst 1, 1) := by decide +kernel
theorem dX12_setUp_7 : decode cX12_setUp 7 = .ok (.invokevirtual 253, 3) := by decide +kernel
theorem dX12_setUp_10 : decode cX12_setUp 10 = .ok (.ifCond .ne 5, 3) := by decide +kernel
theorem dX12_setUp_13 : decode cX12_setUp 13 = .ok (.iconst 0, 1) := by decide +kernel
theorem dX12_setUp_14 : decode cX12_setUp 14 = .ok (.ireturn, 1) := by decide +kernel
theorem dX12_setUp_15 : decode cX12_setUp 15 = .ok (.aload_n 0, 1) := by decide +kernel
theorem dX12_setUp_16 : decode cX12_setUp 16 = .ok (.getfield 22, 3) := by decide +kernel
theorem dX12_setUp_19 : decode cX12_setUp 19 = .ok (.iload_n 1, 1) := by decide +kernel
theorem dX12_setUp_20 : decode cX12_setUp 20 = .ok (.baload, 1) := by decide +kernel
theorem dX12_setUp_21 : decode cX12_setUp 21 = .ok (.ifCond .ne 7, 3) := by decide +kernel
theorem dX12_setUp_24 : decode cX12_setUp 24 = .ok (.iconst 1, 1) := by decide +kernel
theorem dX12_setUp_25 : decode cX12_setUp 25 = .ok (.goto 4, 3) := by decide +kernel
theorem dX12_setUp_28 : decode cX12_setUp 28 = .ok (.iconst 0, 1) := by decide +kernel
theorem dX12_setUp_29 : decode cX12_setUp 29 = .ok (.istore_n 3, 1) := by decide +kernel
theorem dX12_setUp_30 : decode cX12_setUp 30 = .ok (.aload_n 0, 1) := by decide +kernel
theorem dX12_setUp_31 : decode cX12_setUp 31 = .ok (.getfield 22, 3) := by decide +kernel
theorem dX12_setUp_34 : decode cX12_setUp 34 = .ok (.iload_n 1, 1) := by decide +kernel
theorem dX12_setUp_35 : decode cX12_setUp 35 = .ok (.iload_n 2, 1) := by decide +kernel
theorem dX12_setUp_36 : decode cX12_setUp 36 = .ok (.ifCond .ne 7, 3) := by decide +kernel
theorem dX12_setUp_39 : decode cX12_setUp 39 = .ok (.iconst 1, 1) := by decide +kernel
theorem dX12_setUp_40 : decode cX12_setUp 40 = .ok (.goto 4, 3) := by decide +kernel
theorem dX12_setUp_43 : decode cX12_setUp 43 = .ok (.iconst 0, 1) := by decide +kernel
theorem dX12_setUp_44 : decode cX12_setUp 44 = .ok (.bastore, 1) := by decide +kernel
theorem dX12_setUp_45 : decode cX12_setUp 45 = .ok (.iload_n 3, 1) := by decide +kernel
theorem dX12_setUp_46 : decode cX12_setUp 46 = .ok (.ireturn, 1) := by decide +kernel
theorem dX12_lose_0 : decode cX12_lose 0 = .ok (.aload_n 0, 1) := by decide +kernel
theorem dX12_lose_1 : decode cX12_lose 1 = .ok (.iload_n 1, 1) := by decide +kernel
theorem dX12_lose_2 : decode cX12_lose 2 = .ok (.invokestatic 249, 3) := by decide +kernel
theorem dX12_lose_5 : decode cX12_lose 5 = .ok (.iload_n 3, 1) := by decide +kernel
theorem dX12_lose_6 : decode cX12_lose 6 = .ok (.iconst 0, 1) := by decide +kernel
theorem dX12_lose_7 : decode cX12_lose 7 = .ok (.bipush 20, 2) := by decide +kernel
theorem dX12_lose_9 : decode cX12_lose 9 = .ok (.invokestatic 236, 3) := by decide +kernel
theorem dX12_lose_12 : decode cX12_lose 12 = .ok (.iconst 1, 1) := by decide +kernel
theorem dX12_lose_13 : decode cX12_lose 13 = .ok (.invokevirtual 253, 3) := by decide +kernel
theorem dX12_lose_16 : decode cX12_lose 16 = .ok (.ifCond .eq 24, 3) := by decide +kernel
theorem dX12_lose_19 : decode cX12_lose 19 = .ok (.iload_n 2, 1) := by decide +kernel
theorem dX12_lose_20 : decode cX12_lose 20 = .ok (.ifCond .eq 13, 3) := by decide +kernel
theorem dX12_lose_23 : decode cX12_lose 23 = .ok (.aload_n 0, 1) := by decide +kernel
theorem dX12_lose_24 : decode cX12_lose 24 = .ok (.getfield 26, 3) := by decide +kernel
theorem dX12_lose_27 : decode cX12_lose 27 = .ok (.iload_n 1, 1) := by decide +kernel
theorem dX12_lose_28 : decode cX12_lose 28 = .ok (.iload_n 3, 1) := by decide +kernel
theorem dX12_lose_29 : decode cX12_lose 29 = .ok (.iastore, 1) := by decide +kernel
theorem dX12_lose_30 : decode cX12_lose 30 = .ok (.goto 10, 3) := by decide +kernel
theorem dX12_lose_33 : decode cX12_lose 33 = .ok (.aload_n 0, 1) := by decide +kernel
theorem dX12_lose_34 : decode cX12_lose 34 = .ok (.getfield 29, 3) := by decide +kernel
theorem dX12_lose_37 : decode cX12_lose 37 = .ok (.iload_n 1, 1) := by decide +kernel
theorem dX12_lose_38 : decode cX12_lose 38 = .ok (.iload_n 3, 1) := by decide +kernel
theorem dX12_lose_39 : decode cX12_lose 39 = .ok (.iastore, 1) := by decide +kernel
theorem dX12_lose_40 : decode cX12_lose 40 = .ok (.return_, 1) := by decide +kernel
theorem dX12_late_0 : decode cX12_late 0 = .ok (.aload_n 0, 1) := by decide +kernel
theorem dX12_late_1 : decode cX12_late 1 = .ok (.iload_n 1, 1) := by decide +kernel
theorem dX12_late_2 : decode cX12_late 2 = .ok (.invokestatic 249, 3) := by decide +kernel
theorem dX12_late_5 : decode cX12_late 5 = .ok (.iload_n 2, 1) := by decide +kernel
theorem dX12_late_6 : decode cX12_late 6 = .ok (.iconst 0, 1) := by decide +kernel
theorem dX12_late_7 : decode cX12_late 7 = .ok (.bipush 20, 2) := by decide +kernel
theorem dX12_late_9 : decode cX12_late 9 = .ok (.invokestatic 236, 3) := by decide +kernel
theorem dX12_late_12 : decode cX12_late 12 = .ok (.ifCond .eq 17, 3) := by decide +kernel
theorem dX12_late_15 : decode cX12_late 15 = .ok (.iload_n 3, 1) := by decide +kernel
theorem dX12_late_16 : decode cX12_late 16 = .ok (.iconst 0, 1) := by decide +kernel
theorem dX12_late_17 : decode cX12_late 17 = .ok (.bipush 50, 2) := by decide +kernel
theorem dX12_late_19 : decode cX12_late 19 = .ok (.invokestatic 236, 3) := by decide +kernel
theorem dX12_late_22 : decode cX12_late 22 = .ok (.ifCond .eq 7, 3) := by decide +kernel
theorem dX12_late_25 : decode cX12_late 25 = .ok (.iconst 1, 1) := by decide +kernel
theorem dX12_late_26 : decode cX12_late 26 = .ok (.goto 4, 3) := by decide +kernel
theorem dX12_late_29 : decode cX12_late 29 = .ok (.iconst 0, 1) := by decide +kernel
theorem dX12_late_30 : decode cX12_late 30 = .ok (.iconst 1, 1) := by decide +kernel
theorem dX12_late_31 : decode cX12_late 31 = .ok (.invokevirtual 253, 3) := by decide +kernel
theorem dX12_late_34 : decode cX12_late 34 = .ok (.ifCond .eq 17, 3) := by decide +kernel
theorem dX12_late_37 : decode cX12_late 37 = .ok (.aload_n 0, 1) := by decide +kernel
theorem dX12_late_38 : decode cX12_late 38 = .ok (.getfield 32, 3) := by decide +kernel
theorem dX12_late_41 : decode cX12_late 41 = .ok (.iload_n 1, 1) := by decide +kernel
theorem dX12_late_42 : decode cX12_late 42 = .ok (.iload_n 2, 1) := by decide +kernel
theorem dX12_late_43 : decode cX12_late 43 = .ok (.iastore, 1) := by decide +kernel
theorem dX12_late_44 : decode cX12_late 44 = .ok (.aload_n 0, 1) := by decide +kernel
theorem dX12_late_45 : decode cX12_late 45 = .ok (.getfield 35, 3) := by decide +kernel
theorem dX12_late_48 : decode cX12_late 48 = .ok (.iload_n 1, 1) := by decide +kernel
theorem dX12_late_49 : decode cX12_late 49 = .ok (.iload_n 3, 1) := by decide +kernel
theorem dX12_late_50 : decode cX12_late 50 = .ok (.iastore, 1) := by decide +kernel
theorem dX12_late_51 : decode cX12_late 51 = .ok (.return_, 1) := by decide +kernel
theorem dX12_foreign_0 : decode cX12_foreign 0 = .ok (.aload_n 0, 1) := by decide +kernel
theorem dX12_foreign_1 : decode cX12_foreign 1 = .ok (.iload_n 1, 1) := by decide +kernel
theorem dX12_foreign_2 : decode cX12_foreign 2 = .ok (.invokestatic 249, 3) := by decide +kernel
theorem dX12_foreign_5 : decode cX12_foreign 5 = .ok (.iload_n 2, 1) := by decide +kernel
theorem dX12_foreign_6 : decode cX12_foreign 6 = .ok (.iconst 1, 1) := by decide +kernel
theorem dX12_foreign_7 : decode cX12_foreign 7 = .ok (.bipush 30, 2) := by decide +kernel
theorem dX12_foreign_9 : decode cX12_foreign 9 = .ok (.invokestatic 236, 3) := by decide +kernel
theorem dX12_foreign_12 : decode cX12_foreign 12 = .ok (.iconst 1, 1) := by decide +kernel
theorem dX12_foreign_13 : decode cX12_foreign 13 = .ok (.invokevirtual 253, 3) := by decide +kernel
theorem dX12_foreign_16 : decode cX12_foreign 16 = .ok (.ifCond .ne 5, 3) := by decide +kernel
theorem dX12_foreign_19 : decode cX12_foreign 19 = .ok (.iconst 0, 1) := by decide +kernel
theorem dX12_foreign_20 : decode cX12_foreign 20 = .ok (.ireturn, 1) := by decide +kernel
theorem dX12_foreign_21 : decode cX12_foreign 21 = .ok (.iconst 0, 1) := by decide +kernel
theorem dX12_foreign_22 : decode cX12_foreign 22 = .ok (.istore_n 3, 1) := by decide +kernel
theorem dX12_foreign_23 : decode cX12_foreign 23 = .ok (.iload_n 3, 1) := by decide +kernel
theorem dX12_foreign_24 : decode cX12_foreign 24 = .ok (.iload_n 2, 1) := by decide +kernel
theorem dX12_foreign_25 : decode cX12_foreign 25 = .ok (.if_icmp .ge 51, 3) := by decide +kernel
theorem dX12_foreign_28 : decode cX12_foreign 28 = .ok (.aload_n 0, 1) := by decide +kernel
theorem dX12_foreign_29 : decode cX12_foreign 29 = .ok (.getfield 41, 3) := by decide +kernel
theorem dX12_foreign_32 : decode cX12_foreign 32 = .ok (.iload_n 1, 1) := by decide +kernel
theorem dX12_foreign_33 : decode cX12_foreign 33 = .ok (.iaload, 1) := by decide +kernel
theorem dX12_foreign_34 : decode cX12_foreign 34 = .ok (.aload_n 0, 1) := by decide +kernel
theorem dX12_foreign_35 : decode cX12_foreign 35 = .ok (.getfield 16, 3) := by decide +kernel
theorem dX12_foreign_38 : decode cX12_foreign 38 = .ok (.iload_n 1, 1) := by decide +kernel
theorem dX12_foreign_39 : decode cX12_foreign 39 = .ok (.iaload, 1) := by decide +kernel
theorem dX12_foreign_40 : decode cX12_foreign 40 = .ok (.if_icmp .ge 36, 3) := by decide +kernel
theorem dX12_foreign_43 : decode cX12_foreign 43 = .ok (.aload_n 0, 1) := by decide +kernel
theorem dX12_foreign_44 : decode cX12_foreign 44 = .ok (.getfield 38, 3) := by decide +kernel
theorem dX12_foreign_47 : decode cX12_foreign 47 = .ok (.bipush 30, 2) := by decide +kernel
theorem dX12_foreign_49 : decode cX12_foreign 49 = .ok (.iload_n 1, 1) := by decide +kernel
theorem dX12_foreign_50 : decode cX12_foreign 50 = .ok (.imul, 1) := by decide +kernel
theorem dX12_foreign_51 : decode cX12_foreign 51 = .ok (.aload_n 0, 1) := by decide +kernel
theorem dX12_foreign_52 : decode cX12_foreign 52 = .ok (.getfield 41, 3) := by decide +kernel
theorem dX12_foreign_55 : decode cX12_foreign 55 = .ok (.iload_n 1, 1) := by decide +kernel
theorem dX12_foreign_56 : decode cX12_foreign 56 = .ok (.iaload, 1) := by decide +kernel
theorem dX12_foreign_57 : decode cX12_foreign 57 = .ok (.iadd, 1) := by decide +kernel
theorem dX12_foreign_58 : decode cX12_foreign 58 = .ok (.iconst (-1), 1) := by decide +kernel
theorem dX12_foreign_59 : decode cX12_foreign 59 = .ok (.iastore, 1) := by decide +kernel
theorem dX12_foreign_60 : decode cX12_foreign 60 = .ok (.aload_n 0, 1) := by decide +kernel
theorem dX12_foreign_61 : decode cX12_foreign 61 = .ok (.getfield 41, 3) := by decide +kernel
theorem dX12_foreign_64 : decode cX12_foreign 64 = .ok (.iload_n 1, 1) := by decide +kernel
theorem dX12_foreign_65 : decode cX12_foreign 65 = .ok (.dup2, 1) := by decide +kernel
theorem dX12_foreign_66 : decode cX12_foreign 66 = .ok (.iaload, 1) := by decide +kernel
theorem dX12_foreign_67 : decode cX12_foreign 67 = .ok (.iconst 1, 1) := by decide +kernel
theorem dX12_foreign_68 : decode cX12_foreign 68 = .ok (.iadd, 1) := by decide +kernel
theorem dX12_foreign_69 : decode cX12_foreign 69 = .ok (.iastore, 1) := by decide +kernel
theorem dX12_foreign_70 : decode cX12_foreign 70 = .ok (.iinc 3 1, 3) := by decide +kernel
theorem dX12_foreign_73 : decode cX12_foreign 73 = .ok (.goto (-50), 3) := by decide +kernel
theorem dX12_foreign_76 : decode cX12_foreign 76 = .ok (.iload_n 3, 1) := by decide +kernel
theorem dX12_foreign_77 : decode cX12_foreign 77 = .ok (.ireturn, 1) := by decide +kernel
theorem dX12_leaves_0 : decode cX12_leaves 0 = .ok (.aload_n 0, 1) := by decide +kernel
theorem dX12_leaves_1 : decode cX12_leaves 1 = .ok (.getfield 41, 3) := by decide +kernel
theorem dX12_leaves_4 : decode cX12_leaves 4 = .ok (.iload_n 1, 1) := by decide +kernel
theorem dX12_leaves_5 : decode cX12_leaves 5 = .ok (.iaload, 1) := by decide +kernel
theorem dX12_leaves_6 : decode cX12_leaves 6 = .ok (.aload_n 0, 1) := by decide +kernel
theorem dX12_leaves_7 : decode cX12_leaves 7 = .ok (.getfield 13, 3) := by decide +kernel
theorem dX12_leaves_10 : decode cX12_leaves 10 = .ok (.iload_n 1, 1) := by decide +kernel
theorem dX12_leaves_11 : decode cX12_leaves 11 = .ok (.iaload, 1) := by decide +kernel
theorem dX12_leaves_12 : decode cX12_leaves 12 = .ok (.if_icmp .ge 12, 3) := by decide +kernel
theorem dX12_leaves_15 : decode cX12_leaves 15 = .ok (.aload_n 0, 1) := by decide +kernel
theorem dX12_leaves_16 : decode cX12_leaves 16 = .ok (.getfield 41, 3) := by decide +kernel
theorem dX12_leaves_19 : decode cX12_leaves 19 = .ok (.iload_n 1, 1) := by decide +kernel
theorem dX12_leaves_20 : decode cX12_leaves 20 = .ok (.iaload, 1) := by decide +kernel
theorem dX12_leaves_21 : decode cX12_leaves 21 = .ok (.goto 9, 3) := by decide +kernel
theorem dX12_leaves_24 : decode cX12_leaves 24 = .ok (.aload_n 0, 1) := by decide +kernel
theorem dX12_leaves_25 : decode cX12_leaves 25 = .ok (.getfield 13, 3) := by decide +kernel
theorem dX12_leaves_28 : decode cX12_leaves 28 = .ok (.iload_n 1, 1) := by decide +kernel
theorem dX12_leaves_29 : decode cX12_leaves 29 = .ok (.iaload, 1) := by decide +kernel
theorem dX12_leaves_30 : decode cX12_leaves 30 = .ok (.istore_n 2, 1) := by decide +kernel
theorem dX12_leaves_31 : decode cX12_leaves 31 = .ok (.iconst 0, 1) := by decide +kernel
theorem dX12_leaves_32 : decode cX12_leaves 32 = .ok (.istore_n 3, 1) := by decide +kernel
theorem dX12_leaves_33 : decode cX12_leaves 33 = .ok (.iload_n 3, 1) := by decide +kernel
theorem dX12_leaves_34 : decode cX12_leaves 34 = .ok (.iload_n 2, 1) := by decide +kernel
theorem dX12_leaves_35 : decode cX12_leaves 35 = .ok (.if_icmp .ge 120, 3) := by decide +kernel
theorem dX12_leaves_38 : decode cX12_leaves 38 = .ok (.aload_n 0, 1) := by decide +kernel
theorem dX12_leaves_39 : decode cX12_leaves 39 = .ok (.getfield 38, 3) := by decide +kernel
theorem dX12_leaves_42 : decode cX12_leaves 42 = .ok (.bipush 30, 2) := by decide +kernel
theorem dX12_leaves_44 : decode cX12_leaves 44 = .ok (.iload_n 1, 1) := by decide +kernel
theorem dX12_leaves_45 : decode cX12_leaves 45 = .ok (.imul, 1) := by decide +kernel
theorem dX12_leaves_46 : decode cX12_leaves 46 = .ok (.iload_n 3, 1) := by decide +kernel
theorem dX12_leaves_47 : decode cX12_leaves 47 = .ok (.iadd, 1) := by decide +kernel
theorem dX12_leaves_48 : decode cX12_leaves 48 = .ok (.iaload, 1) := by decide +kernel
theorem dX12_leaves_49 : decode cX12_leaves 49 = .ok (.istore 4, 2) := by decide +kernel
theorem dX12_leaves_51 : decode cX12_leaves 51 = .ok (.iload 4, 2) := by decide +kernel
theorem dX12_leaves_53 : decode cX12_leaves 53 = .ok (.iconst (-1), 1) := by decide +kernel
theorem dX12_leaves_54 : decode cX12_leaves 54 = .ok (.if_icmp .eq 95, 3) := by decide +kernel
theorem dX12_leaves_57 : decode cX12_leaves 57 = .ok (.aload_n 0, 1) := by decide +kernel
theorem dX12_leaves_58 : decode cX12_leaves 58 = .ok (.getfield 32, 3) := by decide +kernel
theorem dX12_leaves_61 : decode cX12_leaves 61 = .ok (.iload_n 1, 1) := by decide +kernel
theorem dX12_leaves_62 : decode cX12_leaves 62 = .ok (.iaload, 1) := by decide +kernel
theorem dX12_leaves_63 : decode cX12_leaves 63 = .ok (.ifCond .le 7, 3) := by decide +kernel
theorem dX12_leaves_66 : decode cX12_leaves 66 = .ok (.iconst 1, 1) := by decide +kernel
theorem dX12_leaves_67 : decode cX12_leaves 67 = .ok (.goto 4, 3) := by decide +kernel
theorem dX12_leaves_70 : decode cX12_leaves 70 = .ok (.iconst 0, 1) := by decide +kernel
theorem dX12_leaves_71 : decode cX12_leaves 71 = .ok (.istore 5, 2) := by decide +kernel
theorem dX12_leaves_73 : decode cX12_leaves 73 = .ok (.aload_n 0, 1) := by decide +kernel
theorem dX12_leaves_74 : decode cX12_leaves 74 = .ok (.getfield 32, 3) := by decide +kernel
theorem dX12_leaves_77 : decode cX12_leaves 77 = .ok (.iload_n 1, 1) := by decide +kernel
theorem dX12_leaves_78 : decode cX12_leaves 78 = .ok (.dup2, 1) := by decide +kernel
theorem dX12_leaves_79 : decode cX12_leaves 79 = .ok (.iaload, 1) := by decide +kernel
theorem dX12_leaves_80 : decode cX12_leaves 80 = .ok (.iload 5, 2) := by decide +kernel
theorem dX12_leaves_82 : decode cX12_leaves 82 = .ok (.ifCond .eq 7, 3) := by decide +kernel
theorem dX12_leaves_85 : decode cX12_leaves 85 = .ok (.iconst 1, 1) := by decide +kernel
theorem dX12_leaves_86 : decode cX12_leaves 86 = .ok (.goto 4, 3) := by decide +kernel
theorem dX12_leaves_89 : decode cX12_leaves 89 = .ok (.iconst 0, 1) := by decide +kernel
theorem dX12_leaves_90 : decode cX12_leaves 90 = .ok (.isub, 1) := by decide +kernel
theorem dX12_leaves_91 : decode cX12_leaves 91 = .ok (.iastore, 1) := by decide +kernel
theorem dX12_leaves_92 : decode cX12_leaves 92 = .ok (.aload_n 0, 1) := by decide +kernel
theorem dX12_leaves_93 : decode cX12_leaves 93 = .ok (.getfield 53, 3) := by decide +kernel
theorem dX12_leaves_96 : decode cX12_leaves 96 = .ok (.aload_n 0, 1) := by decide +kernel
theorem dX12_leaves_97 : decode cX12_leaves 97 = .ok (.getfield 257, 3) := by decide +kernel
theorem dX12_leaves_100 : decode cX12_leaves 100 = .ok (.iload 4, 2) := by decide +kernel
theorem dX12_leaves_102 : decode cX12_leaves 102 = .ok (.iastore, 1) := by decide +kernel
theorem dX12_leaves_103 : decode cX12_leaves 103 = .ok (.aload_n 0, 1) := by decide +kernel
theorem dX12_leaves_104 : decode cX12_leaves 104 = .ok (.getfield 56, 3) := by decide +kernel
theorem dX12_leaves_107 : decode cX12_leaves 107 = .ok (.aload_n 0, 1) := by decide +kernel
theorem dX12_leaves_108 : decode cX12_leaves 108 = .ok (.getfield 257, 3) := by decide +kernel
theorem dX12_leaves_111 : decode cX12_leaves 111 = .ok (.aload_n 0, 1) := by decide +kernel
theorem dX12_leaves_112 : decode cX12_leaves 112 = .ok (.getfield 246, 3) := by decide +kernel
theorem dX12_leaves_115 : decode cX12_leaves 115 = .ok (.aload_n 0, 1) := by decide +kernel
theorem dX12_leaves_116 : decode cX12_leaves 116 = .ok (.getfield 7, 3) := by decide +kernel
theorem dX12_leaves_119 : decode cX12_leaves 119 = .ok (.iload_n 1, 1) := by decide +kernel
theorem dX12_leaves_120 : decode cX12_leaves 120 = .ok (.iaload, 1) := by decide +kernel
theorem dX12_leaves_121 : decode cX12_leaves 121 = .ok (.iadd, 1) := by decide +kernel
theorem dX12_leaves_122 : decode cX12_leaves 122 = .ok (.iload 5, 2) := by decide +kernel
theorem dX12_leaves_124 : decode cX12_leaves 124 = .ok (.ifCond .eq 12, 3) := by decide +kernel
theorem dX12_leaves_127 : decode cX12_leaves 127 = .ok (.aload_n 0, 1) := by decide +kernel
theorem dX12_leaves_128 : decode cX12_leaves 128 = .ok (.getfield 35, 3) := by decide +kernel
theorem dX12_leaves_131 : decode cX12_leaves 131 = .ok (.iload_n 1, 1) := by decide +kernel
theorem dX12_leaves_132 : decode cX12_leaves 132 = .ok (.iaload, 1) := by decide +kernel
theorem dX12_leaves_133 : decode cX12_leaves 133 = .ok (.goto 4, 3) := by decide +kernel
theorem dX12_leaves_136 : decode cX12_leaves 136 = .ok (.iconst 0, 1) := by decide +kernel
theorem dX12_leaves_137 : decode cX12_leaves 137 = .ok (.iadd, 1) := by decide +kernel
theorem dX12_leaves_138 : decode cX12_leaves 138 = .ok (.iastore, 1) := by decide +kernel
theorem dX12_leaves_139 : decode cX12_leaves 139 = .ok (.aload_n 0, 1) := by decide +kernel
theorem dX12_leaves_140 : decode cX12_leaves 140 = .ok (.dup, 1) := by decide +kernel
theorem dX12_leaves_141 : decode cX12_leaves 141 = .ok (.getfield 257, 3) := by decide +kernel
theorem dX12_leaves_144 : decode cX12_leaves 144 = .ok (.iconst 1, 1) := by decide +kernel
theorem dX12_leaves_145 : decode cX12_leaves 145 = .ok (.iadd, 1) := by decide +kernel
theorem dX12_leaves_146 : decode cX12_leaves 146 = .ok (.putfield 257, 3) := by decide +kernel
theorem dX12_leaves_149 : decode cX12_leaves 149 = .ok (.iinc 3 1, 3) := by decide +kernel
theorem dX12_leaves_152 : decode cX12_leaves 152 = .ok (.goto (-119), 3) := by decide +kernel
theorem dX12_leaves_155 : decode cX12_leaves 155 = .ok (.iload_n 2, 1) := by decide +kernel
theorem dX12_leaves_156 : decode cX12_leaves 156 = .ok (.istore_n 3, 1) := by decide +kernel
theorem dX12_leaves_157 : decode cX12_leaves 157 = .ok (.iload_n 3, 1) := by decide +kernel
theorem dX12_leaves_158 : decode cX12_leaves 158 = .ok (.aload_n 0, 1) := by decide +kernel
theorem dX12_leaves_159 : decode cX12_leaves 159 = .ok (.getfield 41, 3) := by decide +kernel
theorem dX12_leaves_162 : decode cX12_leaves 162 = .ok (.iload_n 1, 1) := by decide +kernel
theorem dX12_leaves_163 : decode cX12_leaves 163 = .ok (.iaload, 1) := by decide +kernel
theorem dX12_leaves_164 : decode cX12_leaves 164 = .ok (.if_icmp .ge 33, 3) := by decide +kernel
theorem dX12_leaves_167 : decode cX12_leaves 167 = .ok (.aload_n 0, 1) := by decide +kernel
theorem dX12_leaves_168 : decode cX12_leaves 168 = .ok (.getfield 38, 3) := by decide +kernel
theorem dX12_leaves_171 : decode cX12_leaves 171 = .ok (.bipush 30, 2) := by decide +kernel
theorem dX12_leaves_173 : decode cX12_leaves 173 = .ok (.iload_n 1, 1) := by decide +kernel
theorem dX12_leaves_174 : decode cX12_leaves 174 = .ok (.imul, 1) := by decide +kernel
theorem dX12_leaves_175 : decode cX12_leaves 175 = .ok (.iload_n 3, 1) := by decide +kernel
theorem dX12_leaves_176 : decode cX12_leaves 176 = .ok (.iadd, 1) := by decide +kernel
theorem dX12_leaves_177 : decode cX12_leaves 177 = .ok (.iload_n 2, 1) := by decide +kernel
theorem dX12_leaves_178 : decode cX12_leaves 178 = .ok (.isub, 1) := by decide +kernel
theorem dX12_leaves_179 : decode cX12_leaves 179 = .ok (.aload_n 0, 1) := by decide +kernel
theorem dX12_leaves_180 : decode cX12_leaves 180 = .ok (.getfield 38, 3) := by decide +kernel
theorem dX12_leaves_183 : decode cX12_leaves 183 = .ok (.bipush 30, 2) := by decide +kernel
theorem dX12_leaves_185 : decode cX12_leaves 185 = .ok (.iload_n 1, 1) := by decide +kernel
theorem dX12_leaves_186 : decode cX12_leaves 186 = .ok (.imul, 1) := by decide +kernel
theorem dX12_leaves_187 : decode cX12_leaves 187 = .ok (.iload_n 3, 1) := by decide +kernel
theorem dX12_leaves_188 : decode cX12_leaves 188 = .ok (.iadd, 1) := by decide +kernel
theorem dX12_leaves_189 : decode cX12_leaves 189 = .ok (.iaload, 1) := by decide +kernel
theorem dX12_leaves_190 : decode cX12_leaves 190 = .ok (.iastore, 1) := by decide +kernel
theorem dX12_leaves_191 : decode cX12_leaves 191 = .ok (.iinc 3 1, 3) := by decide +kernel
theorem dX12_leaves_194 : decode cX12_leaves 194 = .ok (.goto (-37), 3) := by decide +kernel
theorem dX12_leaves_197 : decode cX12_leaves 197 = .ok (.aload_n 0, 1) := by decide +kernel
theorem dX12_leaves_198 : decode cX12_leaves 198 = .ok (.getfield 41, 3) := by decide +kernel
theorem dX12_leaves_201 : decode cX12_leaves 201 = .ok (.iload_n 1, 1) := by decide +kernel
theorem dX12_leaves_202 : decode cX12_leaves 202 = .ok (.dup2, 1) := by decide +kernel
theorem dX12_leaves_203 : decode cX12_leaves 203 = .ok (.iaload, 1) := by decide +kernel
theorem dX12_leaves_204 : decode cX12_leaves 204 = .ok (.iload_n 2, 1) := by decide +kernel
theorem dX12_leaves_205 : decode cX12_leaves 205 = .ok (.isub, 1) := by decide +kernel
theorem dX12_leaves_206 : decode cX12_leaves 206 = .ok (.iastore, 1) := by decide +kernel
theorem dX12_leaves_207 : decode cX12_leaves 207 = .ok (.return_, 1) := by decide +kernel
theorem dX12_gotOf_0 : decode cX12_gotOf 0 = .ok (.iconst 0, 1) := by decide +kernel
theorem dX12_gotOf_1 : decode cX12_gotOf 1 = .ok (.istore_n 2, 1) := by decide +kernel
theorem dX12_gotOf_2 : decode cX12_gotOf 2 = .ok (.iload_n 2, 1) := by decide +kernel
theorem dX12_gotOf_3 : decode cX12_gotOf 3 = .ok (.sipush 200, 3) := by decide +kernel
theorem dX12_gotOf_6 : decode cX12_gotOf 6 = .ok (.if_icmp .ge 24, 3) := by decide +kernel
theorem dX12_gotOf_9 : decode cX12_gotOf 9 = .ok (.aload_n 0, 1) := by decide +kernel
theorem dX12_gotOf_10 : decode cX12_gotOf 10 = .ok (.getfield 85, 3) := by decide +kernel
theorem dX12_gotOf_13 : decode cX12_gotOf 13 = .ok (.sipush 200, 3) := by decide +kernel
theorem dX12_gotOf_16 : decode cX12_gotOf 16 = .ok (.iload_n 1, 1) := by decide +kernel
theorem dX12_gotOf_17 : decode cX12_gotOf 17 = .ok (.imul, 1) := by decide +kernel
theorem dX12_gotOf_18 : decode cX12_gotOf 18 = .ok (.iload_n 2, 1) := by decide +kernel
theorem dX12_gotOf_19 : decode cX12_gotOf 19 = .ok (.iadd, 1) := by decide +kernel
theorem dX12_gotOf_20 : decode cX12_gotOf 20 = .ok (.baload, 1) := by decide +kernel
theorem dX12_gotOf_21 : decode cX12_gotOf 21 = .ok (.ifCond .eq 9, 3) := by decide +kernel
theorem dX12_gotOf_24 : decode cX12_gotOf 24 = .ok (.iinc 2 1, 3) := by decide +kernel
theorem dX12_gotOf_27 : decode cX12_gotOf 27 = .ok (.goto (-25), 3) := by decide +kernel
theorem dX12_gotOf_30 : decode cX12_gotOf 30 = .ok (.iload_n 2, 1) := by decide +kernel
theorem dX12_gotOf_31 : decode cX12_gotOf 31 = .ok (.ireturn, 1) := by decide +kernel
theorem dX12_acknowledges_0 : decode cX12_acknowledges 0 = .ok (.bipush 15, 2) := by decide +kernel
theorem dX12_acknowledges_2 : decode cX12_acknowledges 2 = .ok (.aload_n 0, 1) := by decide +kernel
theorem dX12_acknowledges_3 : decode cX12_acknowledges 3 = .ok (.getfield 260, 3) := by decide +kernel
theorem dX12_acknowledges_6 : decode cX12_acknowledges 6 = .ok (.imul, 1) := by decide +kernel
theorem dX12_acknowledges_7 : decode cX12_acknowledges 7 = .ok (.istore_n 1, 1) := by decide +kernel
theorem dX12_acknowledges_8 : decode cX12_acknowledges 8 = .ok (.iconst 0, 1) := by decide +kernel
theorem dX12_acknowledges_9 : decode cX12_acknowledges 9 = .ok (.istore_n 2, 1) := by decide +kernel
theorem dX12_acknowledges_10 : decode cX12_acknowledges 10 = .ok (.sipush 399, 3) := by decide +kernel
theorem dX12_acknowledges_13 : decode cX12_acknowledges 13 = .ok (.istore_n 3, 1) := by decide +kernel
theorem dX12_acknowledges_14 : decode cX12_acknowledges 14 = .ok (.iload_n 3, 1) := by decide +kernel
theorem dX12_acknowledges_15 : decode cX12_acknowledges 15 = .ok (.ifCond .lt 77, 3) := by decide +kernel
theorem dX12_acknowledges_18 : decode cX12_acknowledges 18 = .ok (.iload_n 2, 1) := by decide +kernel
theorem dX12_acknowledges_19 : decode cX12_acknowledges 19 = .ok (.iconst 4, 1) := by decide +kernel
theorem dX12_acknowledges_20 : decode cX12_acknowledges 20 = .ok (.if_icmp .ge 72, 3) := by decide +kernel
theorem dX12_acknowledges_23 : decode cX12_acknowledges 23 = .ok (.aload_n 0, 1) := by decide +kernel
theorem dX12_acknowledges_24 : decode cX12_acknowledges 24 = .ok (.getfield 82, 3) := by decide +kernel
theorem dX12_acknowledges_27 : decode cX12_acknowledges 27 = .ok (.iload_n 3, 1) := by decide +kernel
theorem dX12_acknowledges_28 : decode cX12_acknowledges 28 = .ok (.baload, 1) := by decide +kernel
theorem dX12_acknowledges_29 : decode cX12_acknowledges 29 = .ok (.ifCond .eq 57, 3) := by decide +kernel
theorem dX12_acknowledges_32 : decode cX12_acknowledges 32 = .ok (.iload_n 3, 1) := by decide +kernel
theorem dX12_acknowledges_33 : decode cX12_acknowledges 33 = .ok (.istore 4, 2) := by decide +kernel
theorem dX12_acknowledges_35 : decode cX12_acknowledges 35 = .ok (.iload_n 3, 1) := by decide +kernel
theorem dX12_acknowledges_36 : decode cX12_acknowledges 36 = .ok (.ifCond .le 20, 3) := by decide +kernel
theorem dX12_acknowledges_39 : decode cX12_acknowledges 39 = .ok (.aload_n 0, 1) := by decide +kernel
theorem dX12_acknowledges_40 : decode cX12_acknowledges 40 = .ok (.getfield 82, 3) := by decide +kernel
theorem dX12_acknowledges_43 : decode cX12_acknowledges 43 = .ok (.iload_n 3, 1) := by decide +kernel
theorem dX12_acknowledges_44 : decode cX12_acknowledges 44 = .ok (.iconst 1, 1) := by decide +kernel
theorem dX12_acknowledges_45 : decode cX12_acknowledges 45 = .ok (.isub, 1) := by decide +kernel
theorem dX12_acknowledges_46 : decode cX12_acknowledges 46 = .ok (.baload, 1) := by decide +kernel
theorem dX12_acknowledges_47 : decode cX12_acknowledges 47 = .ok (.ifCond .eq 9, 3) := by decide +kernel
theorem dX12_acknowledges_50 : decode cX12_acknowledges 50 = .ok (.iinc 3 (-1), 3) := by decide +kernel
theorem dX12_acknowledges_53 : decode cX12_acknowledges 53 = .ok (.goto (-18), 3) := by decide +kernel
theorem dX12_acknowledges_56 : decode cX12_acknowledges 56 = .ok (.aload_n 0, 1) := by decide +kernel
theorem dX12_acknowledges_57 : decode cX12_acknowledges 57 = .ok (.getfield 72, 3) := by decide +kernel
theorem dX12_acknowledges_60 : decode cX12_acknowledges 60 = .ok (.iload_n 1, 1) := by decide +kernel
theorem dX12_acknowledges_61 : decode cX12_acknowledges 61 = .ok (.iconst 1, 1) := by decide +kernel
theorem dX12_acknowledges_62 : decode cX12_acknowledges 62 = .ok (.iadd, 1) := by decide +kernel
theorem dX12_acknowledges_63 : decode cX12_acknowledges 63 = .ok (.iconst 2, 1) := by decide +kernel
theorem dX12_acknowledges_64 : decode cX12_acknowledges 64 = .ok (.iload_n 2, 1) := by decide +kernel
theorem dX12_acknowledges_65 : decode cX12_acknowledges 65 = .ok (.imul, 1) := by decide +kernel
theorem dX12_acknowledges_66 : decode cX12_acknowledges 66 = .ok (.iadd, 1) := by decide +kernel
theorem dX12_acknowledges_67 : decode cX12_acknowledges 67 = .ok (.iload_n 3, 1) := by decide +kernel
theorem dX12_acknowledges_68 : decode cX12_acknowledges 68 = .ok (.iastore, 1) := by decide +kernel
theorem dX12_acknowledges_69 : decode cX12_acknowledges 69 = .ok (.aload_n 0, 1) := by decide +kernel
theorem dX12_acknowledges_70 : decode cX12_acknowledges 70 = .ok (.getfield 72, 3) := by decide +kernel
theorem dX12_acknowledges_73 : decode cX12_acknowledges 73 = .ok (.iload_n 1, 1) := by decide +kernel
theorem dX12_acknowledges_74 : decode cX12_acknowledges 74 = .ok (.iconst 2, 1) := by decide +kernel
theorem dX12_acknowledges_75 : decode cX12_acknowledges 75 = .ok (.iadd, 1) := by decide +kernel
theorem dX12_acknowledges_76 : decode cX12_acknowledges 76 = .ok (.iconst 2, 1) := by decide +kernel
theorem dX12_acknowledges_77 : decode cX12_acknowledges 77 = .ok (.iload_n 2, 1) := by decide +kernel
theorem dX12_acknowledges_78 : decode cX12_acknowledges 78 = .ok (.imul, 1) := by decide +kernel
theorem dX12_acknowledges_79 : decode cX12_acknowledges 79 = .ok (.iadd, 1) := by decide +kernel
theorem dX12_acknowledges_80 : decode cX12_acknowledges 80 = .ok (.iload 4, 2) := by decide +kernel
theorem dX12_acknowledges_82 : decode cX12_acknowledges 82 = .ok (.iastore, 1) := by decide +kernel
theorem dX12_acknowledges_83 : decode cX12_acknowledges 83 = .ok (.iinc 2 1, 3) := by decide +kernel
theorem dX12_acknowledges_86 : decode cX12_acknowledges 86 = .ok (.iinc 3 (-1), 3) := by decide +kernel
theorem dX12_acknowledges_89 : decode cX12_acknowledges 89 = .ok (.goto (-75), 3) := by decide +kernel
theorem dX12_acknowledges_92 : decode cX12_acknowledges 92 = .ok (.aload_n 0, 1) := by decide +kernel
theorem dX12_acknowledges_93 : decode cX12_acknowledges 93 = .ok (.getfield 72, 3) := by decide +kernel
theorem dX12_acknowledges_96 : decode cX12_acknowledges 96 = .ok (.iload_n 1, 1) := by decide +kernel
theorem dX12_acknowledges_97 : decode cX12_acknowledges 97 = .ok (.iload_n 2, 1) := by decide +kernel
theorem dX12_acknowledges_98 : decode cX12_acknowledges 98 = .ok (.iastore, 1) := by decide +kernel
theorem dX12_acknowledges_99 : decode cX12_acknowledges 99 = .ok (.aload_n 0, 1) := by decide +kernel
theorem dX12_acknowledges_100 : decode cX12_acknowledges 100 = .ok (.getfield 72, 3) := by decide +kernel
theorem dX12_acknowledges_103 : decode cX12_acknowledges 103 = .ok (.iload_n 1, 1) := by decide +kernel
theorem dX12_acknowledges_104 : decode cX12_acknowledges 104 = .ok (.bipush 9, 2) := by decide +kernel
theorem dX12_acknowledges_106 : decode cX12_acknowledges 106 = .ok (.iadd, 1) := by decide +kernel
theorem dX12_acknowledges_107 : decode cX12_acknowledges 107 = .ok (.aload_n 0, 1) := by decide +kernel
theorem dX12_acknowledges_108 : decode cX12_acknowledges 108 = .ok (.getfield 263, 3) := by decide +kernel
theorem dX12_acknowledges_111 : decode cX12_acknowledges 111 = .ok (.iastore, 1) := by decide +kernel
theorem dX12_acknowledges_112 : decode cX12_acknowledges 112 = .ok (.bipush 100, 2) := by decide +kernel
theorem dX12_acknowledges_114 : decode cX12_acknowledges 114 = .ok (.istore 4, 2) := by decide +kernel
theorem dX12_acknowledges_116 : decode cX12_acknowledges 116 = .ok (.iconst 0, 1) := by decide +kernel
theorem dX12_acknowledges_117 : decode cX12_acknowledges 117 = .ok (.istore 5, 2) := by decide +kernel
theorem dX12_acknowledges_119 : decode cX12_acknowledges 119 = .ok (.iload 5, 2) := by decide +kernel
theorem dX12_acknowledges_121 : decode cX12_acknowledges 121 = .ok (.iconst 4, 1) := by decide +kernel
theorem dX12_acknowledges_122 : decode cX12_acknowledges 122 = .ok (.if_icmp .ge 43, 3) := by decide +kernel
theorem dX12_acknowledges_125 : decode cX12_acknowledges 125 = .ok (.aload_n 0, 1) := by decide +kernel
theorem dX12_acknowledges_126 : decode cX12_acknowledges 126 = .ok (.getfield 72, 3) := by decide +kernel
theorem dX12_acknowledges_129 : decode cX12_acknowledges 129 = .ok (.iload_n 1, 1) := by decide +kernel
theorem dX12_acknowledges_130 : decode cX12_acknowledges 130 = .ok (.bipush 10, 2) := by decide +kernel
theorem dX12_acknowledges_132 : decode cX12_acknowledges 132 = .ok (.iadd, 1) := by decide +kernel
theorem dX12_acknowledges_133 : decode cX12_acknowledges 133 = .ok (.iload 5, 2) := by decide +kernel
theorem dX12_acknowledges_135 : decode cX12_acknowledges 135 = .ok (.iadd, 1) := by decide +kernel
theorem dX12_acknowledges_136 : decode cX12_acknowledges 136 = .ok (.aload_n 0, 1) := by decide +kernel
theorem dX12_acknowledges_137 : decode cX12_acknowledges 137 = .ok (.getfield 88, 3) := by decide +kernel
theorem dX12_acknowledges_140 : decode cX12_acknowledges 140 = .ok (.iload 5, 2) := by decide +kernel
theorem dX12_acknowledges_142 : decode cX12_acknowledges 142 = .ok (.iaload, 1) := by decide +kernel
theorem dX12_acknowledges_143 : decode cX12_acknowledges 143 = .ok (.bipush 40, 2) := by decide +kernel
theorem dX12_acknowledges_145 : decode cX12_acknowledges 145 = .ok (.iadd, 1) := by decide +kernel
theorem dX12_acknowledges_146 : decode cX12_acknowledges 146 = .ok (.iastore, 1) := by decide +kernel
theorem dX12_acknowledges_147 : decode cX12_acknowledges 147 = .ok (.iload 4, 2) := by decide +kernel
theorem dX12_acknowledges_149 : decode cX12_acknowledges 149 = .ok (.aload_n 0, 1) := by decide +kernel
theorem dX12_acknowledges_150 : decode cX12_acknowledges 150 = .ok (.getfield 88, 3) := by decide +kernel
theorem dX12_acknowledges_153 : decode cX12_acknowledges 153 = .ok (.iload 5, 2) := by decide +kernel
theorem dX12_acknowledges_155 : decode cX12_acknowledges 155 = .ok (.iaload, 1) := by decide +kernel
theorem dX12_acknowledges_156 : decode cX12_acknowledges 156 = .ok (.iadd, 1) := by decide +kernel
theorem dX12_acknowledges_157 : decode cX12_acknowledges 157 = .ok (.istore 4, 2) := by decide +kernel
theorem dX12_acknowledges_159 : decode cX12_acknowledges 159 = .ok (.iinc 5 1, 3) := by decide +kernel
theorem dX12_acknowledges_162 : decode cX12_acknowledges 162 = .ok (.goto (-43), 3) := by decide +kernel
theorem dX12_acknowledges_165 : decode cX12_acknowledges 165 = .ok (.aload_n 0, 1) := by decide +kernel
theorem dX12_acknowledges_166 : decode cX12_acknowledges 166 = .ok (.getfield 72, 3) := by decide +kernel
theorem dX12_acknowledges_169 : decode cX12_acknowledges 169 = .ok (.iload_n 1, 1) := by decide +kernel
theorem dX12_acknowledges_170 : decode cX12_acknowledges 170 = .ok (.bipush 14, 2) := by decide +kernel
theorem dX12_acknowledges_172 : decode cX12_acknowledges 172 = .ok (.iadd, 1) := by decide +kernel
theorem dX12_acknowledges_173 : decode cX12_acknowledges 173 = .ok (.iload 4, 2) := by decide +kernel
theorem dX12_acknowledges_175 : decode cX12_acknowledges 175 = .ok (.iastore, 1) := by decide +kernel
theorem dX12_acknowledges_176 : decode cX12_acknowledges 176 = .ok (.aload_n 0, 1) := by decide +kernel
theorem dX12_acknowledges_177 : decode cX12_acknowledges 177 = .ok (.dup, 1) := by decide +kernel
theorem dX12_acknowledges_178 : decode cX12_acknowledges 178 = .ok (.getfield 260, 3) := by decide +kernel
theorem dX12_acknowledges_181 : decode cX12_acknowledges 181 = .ok (.iconst 1, 1) := by decide +kernel
theorem dX12_acknowledges_182 : decode cX12_acknowledges 182 = .ok (.iadd, 1) := by decide +kernel
theorem dX12_acknowledges_183 : decode cX12_acknowledges 183 = .ok (.putfield 260, 3) := by decide +kernel
theorem dX12_acknowledges_186 : decode cX12_acknowledges 186 = .ok (.aload_n 0, 1) := by decide +kernel
theorem dX12_acknowledges_187 : decode cX12_acknowledges 187 = .ok (.getfield 229, 3) := by decide +kernel
theorem dX12_acknowledges_190 : decode cX12_acknowledges 190 = .ok (.iconst 4, 1) := by decide +kernel
theorem dX12_acknowledges_191 : decode cX12_acknowledges 191 = .ok (.dup2, 1) := by decide +kernel
theorem dX12_acknowledges_192 : decode cX12_acknowledges 192 = .ok (.iaload, 1) := by decide +kernel
theorem dX12_acknowledges_193 : decode cX12_acknowledges 193 = .ok (.iconst 1, 1) := by decide +kernel
theorem dX12_acknowledges_194 : decode cX12_acknowledges 194 = .ok (.iadd, 1) := by decide +kernel
theorem dX12_acknowledges_195 : decode cX12_acknowledges 195 = .ok (.iastore, 1) := by decide +kernel
theorem dX12_acknowledges_196 : decode cX12_acknowledges 196 = .ok (.aload_n 0, 1) := by decide +kernel
theorem dX12_acknowledges_197 : decode cX12_acknowledges 197 = .ok (.iconst 0, 1) := by decide +kernel
theorem dX12_acknowledges_198 : decode cX12_acknowledges 198 = .ok (.putfield 266, 3) := by decide +kernel
theorem dX12_acknowledges_201 : decode cX12_acknowledges 201 = .ok (.aload_n 0, 1) := by decide +kernel
theorem dX12_acknowledges_202 : decode cX12_acknowledges 202 = .ok (.iconst (-1), 1) := by decide +kernel
theorem dX12_acknowledges_203 : decode cX12_acknowledges 203 = .ok (.putfield 94, 3) := by decide +kernel
theorem dX12_acknowledges_206 : decode cX12_acknowledges 206 = .ok (.aload_n 0, 1) := by decide +kernel
theorem dX12_acknowledges_207 : decode cX12_acknowledges 207 = .ok (.aload_n 0, 1) := by decide +kernel
theorem dX12_acknowledges_208 : decode cX12_acknowledges 208 = .ok (.getfield 97, 3) := by decide +kernel
theorem dX12_acknowledges_211 : decode cX12_acknowledges 211 = .ok (.bipush 7, 2) := by decide +kernel
theorem dX12_acknowledges_213 : decode cX12_acknowledges 213 = .ok (.aload_n 0, 1) := by decide +kernel
theorem dX12_acknowledges_214 : decode cX12_acknowledges 214 = .ok (.getfield 260, 3) := by decide +kernel
theorem dX12_acknowledges_217 : decode cX12_acknowledges 217 = .ok (.iconst 1, 1) := by decide +kernel
theorem dX12_acknowledges_218 : decode cX12_acknowledges 218 = .ok (.isub, 1) := by decide +kernel
theorem dX12_acknowledges_219 : decode cX12_acknowledges 219 = .ok (.invokevirtual 269, 3) := by decide +kernel
theorem dX12_acknowledges_222 : decode cX12_acknowledges 222 = .ok (.return_, 1) := by decide +kernel
theorem dX12_isByKey_0 : decode cX12_isByKey 0 = .ok (.iload_n 1, 1) := by decide +kernel
theorem dX12_isByKey_1 : decode cX12_isByKey 1 = .ok (.aload_n 0, 1) := by decide +kernel
theorem dX12_isByKey_2 : decode cX12_isByKey 2 = .ok (.getfield 272, 3) := by decide +kernel
theorem dX12_isByKey_5 : decode cX12_isByKey 5 = .ok (.if_icmp .eq 25, 3) := by decide +kernel
theorem dX12_isByKey_8 : decode cX12_isByKey 8 = .ok (.iload_n 1, 1) := by decide +kernel
theorem dX12_isByKey_9 : decode cX12_isByKey 9 = .ok (.aload_n 0, 1) := by decide +kernel
theorem dX12_isByKey_10 : decode cX12_isByKey 10 = .ok (.getfield 78, 3) := by decide +kernel
theorem dX12_isByKey_13 : decode cX12_isByKey 13 = .ok (.if_icmp .ne 21, 3) := by decide +kernel
theorem dX12_isByKey_16 : decode cX12_isByKey 16 = .ok (.aload_n 0, 1) := by decide +kernel
theorem dX12_isByKey_17 : decode cX12_isByKey 17 = .ok (.getfield 246, 3) := by decide +kernel
theorem dX12_isByKey_20 : decode cX12_isByKey 20 = .ok (.aload_n 0, 1) := by decide +kernel
theorem dX12_isByKey_21 : decode cX12_isByKey 21 = .ok (.getfield 275, 3) := by decide +kernel
theorem dX12_isByKey_24 : decode cX12_isByKey 24 = .ok (.isub, 1) := by decide +kernel
theorem dX12_isByKey_25 : decode cX12_isByKey 25 = .ok (.bipush 8, 2) := by decide +kernel
theorem dX12_isByKey_27 : decode cX12_isByKey 27 = .ok (.if_icmp .ge 7, 3) := by decide +kernel
theorem dX12_isByKey_30 : decode cX12_isByKey 30 = .ok (.iconst 1, 1) := by decide +kernel
theorem dX12_isByKey_31 : decode cX12_isByKey 31 = .ok (.goto 4, 3) := by decide +kernel
theorem dX12_isByKey_34 : decode cX12_isByKey 34 = .ok (.iconst 0, 1) := by decide +kernel
theorem dX12_isByKey_35 : decode cX12_isByKey 35 = .ok (.ireturn, 1) := by decide +kernel
theorem dX12_takes_0 : decode cX12_takes 0 = .ok (.aload_n 0, 1) := by decide +kernel
theorem dX12_takes_1 : decode cX12_takes 1 = .ok (.getfield 142, 3) := by decide +kernel
theorem dX12_takes_4 : decode cX12_takes 4 = .ok (.iload_n 1, 1) := by decide +kernel
theorem dX12_takes_5 : decode cX12_takes 5 = .ok (.iconst 2, 1) := by decide +kernel
theorem dX12_takes_6 : decode cX12_takes 6 = .ok (.iastore, 1) := by decide +kernel
theorem dX12_takes_7 : decode cX12_takes 7 = .ok (.aload_n 0, 1) := by decide +kernel
theorem dX12_takes_8 : decode cX12_takes 8 = .ok (.getfield 278, 3) := by decide +kernel
theorem dX12_takes_11 : decode cX12_takes 11 = .ok (.iconst 1, 1) := by decide +kernel
theorem dX12_takes_12 : decode cX12_takes 12 = .ok (.if_icmp .eq 4, 3) := by decide +kernel
theorem dX12_takes_15 : decode cX12_takes 15 = .ok (.return_, 1) := by decide +kernel
theorem dX12_takes_16 : decode cX12_takes 16 = .ok (.aload_n 0, 1) := by decide +kernel
theorem dX12_takes_17 : decode cX12_takes 17 = .ok (.aload_n 0, 1) := by decide +kernel
theorem dX12_takes_18 : decode cX12_takes 18 = .ok (.getfield 124, 3) := by decide +kernel
theorem dX12_takes_21 : decode cX12_takes 21 = .ok (.iload_n 1, 1) := by decide +kernel
theorem dX12_takes_22 : decode cX12_takes 22 = .ok (.iaload, 1) := by decide +kernel
theorem dX12_takes_23 : decode cX12_takes 23 = .ok (.putfield 97, 3) := by decide +kernel
theorem dX12_takes_26 : decode cX12_takes 26 = .ok (.aload_n 0, 1) := by decide +kernel
theorem dX12_takes_27 : decode cX12_takes 27 = .ok (.getfield 151, 3) := by decide +kernel
theorem dX12_takes_30 : decode cX12_takes 30 = .ok (.iload_n 1, 1) := by decide +kernel
theorem dX12_takes_31 : decode cX12_takes 31 = .ok (.baload, 1) := by decide +kernel
theorem dX12_takes_32 : decode cX12_takes 32 = .ok (.ifCond .eq 11, 3) := by decide +kernel
theorem dX12_takes_35 : decode cX12_takes 35 = .ok (.aload_n 0, 1) := by decide +kernel
theorem dX12_takes_36 : decode cX12_takes 36 = .ok (.getfield 281, 3) := by decide +kernel
theorem dX12_takes_39 : decode cX12_takes 39 = .ok (.ifCond .ne 4, 3) := by decide +kernel
theorem dX12_takes_42 : decode cX12_takes 42 = .ok (.return_, 1) := by decide +kernel
theorem dX12_takes_43 : decode cX12_takes 43 = .ok (.aload_n 0, 1) := by decide +kernel
theorem dX12_takes_44 : decode cX12_takes 44 = .ok (.getfield 145, 3) := by decide +kernel
theorem dX12_takes_47 : decode cX12_takes 47 = .ok (.iload_n 1, 1) := by decide +kernel
theorem dX12_takes_48 : decode cX12_takes 48 = .ok (.iaload, 1) := by decide +kernel
theorem dX12_takes_49 : decode cX12_takes 49 = .ok (.aload_n 0, 1) := by decide +kernel
theorem dX12_takes_50 : decode cX12_takes 50 = .ok (.getfield 272, 3) := by decide +kernel
theorem dX12_takes_53 : decode cX12_takes 53 = .ok (.if_icmp .le 32, 3) := by decide +kernel
theorem dX12_takes_56 : decode cX12_takes 56 = .ok (.aload_n 0, 1) := by decide +kernel
theorem dX12_takes_57 : decode cX12_takes 57 = .ok (.aload_n 0, 1) := by decide +kernel
theorem dX12_takes_58 : decode cX12_takes 58 = .ok (.getfield 272, 3) := by decide +kernel
theorem dX12_takes_61 : decode cX12_takes 61 = .ok (.putfield 78, 3) := by decide +kernel
theorem dX12_takes_64 : decode cX12_takes 64 = .ok (.aload_n 0, 1) := by decide +kernel
theorem dX12_takes_65 : decode cX12_takes 65 = .ok (.aload_n 0, 1) := by decide +kernel
theorem dX12_takes_66 : decode cX12_takes 66 = .ok (.getfield 145, 3) := by decide +kernel
theorem dX12_takes_69 : decode cX12_takes 69 = .ok (.iload_n 1, 1) := by decide +kernel
theorem dX12_takes_70 : decode cX12_takes 70 = .ok (.iaload, 1) := by decide +kernel
theorem dX12_takes_71 : decode cX12_takes 71 = .ok (.putfield 272, 3) := by decide +kernel
theorem dX12_takes_74 : decode cX12_takes 74 = .ok (.aload_n 0, 1) := by decide +kernel
theorem dX12_takes_75 : decode cX12_takes 75 = .ok (.aload_n 0, 1) := by decide +kernel
theorem dX12_takes_76 : decode cX12_takes 76 = .ok (.getfield 246, 3) := by decide +kernel
theorem dX12_takes_79 : decode cX12_takes 79 = .ok (.putfield 275, 3) := by decide +kernel
theorem dX12_takes_82 : decode cX12_takes 82 = .ok (.goto 17, 3) := by decide +kernel
theorem dX12_takes_85 : decode cX12_takes 85 = .ok (.aload_n 0, 1) := by decide +kernel
theorem dX12_takes_86 : decode cX12_takes 86 = .ok (.aload_n 0, 1) := by decide +kernel
theorem dX12_takes_87 : decode cX12_takes 87 = .ok (.getfield 145, 3) := by decide +kernel
theorem dX12_takes_90 : decode cX12_takes 90 = .ok (.iload_n 1, 1) := by decide +kernel
theorem dX12_takes_91 : decode cX12_takes 91 = .ok (.iaload, 1) := by decide +kernel
theorem dX12_takes_92 : decode cX12_takes 92 = .ok (.invokevirtual 285, 3) := by decide +kernel
theorem dX12_takes_95 : decode cX12_takes 95 = .ok (.ifCond .ne 4, 3) := by decide +kernel
theorem dX12_takes_98 : decode cX12_takes 98 = .ok (.return_, 1) := by decide +kernel
theorem dX12_takes_99 : decode cX12_takes 99 = .ok (.aload_n 0, 1) := by decide +kernel
theorem dX12_takes_100 : decode cX12_takes 100 = .ok (.getfield 142, 3) := by decide +kernel
theorem dX12_takes_103 : decode cX12_takes 103 = .ok (.iload_n 1, 1) := by decide +kernel
theorem dX12_takes_104 : decode cX12_takes 104 = .ok (.iconst 1, 1) := by decide +kernel
theorem dX12_takes_105 : decode cX12_takes 105 = .ok (.iastore, 1) := by decide +kernel
theorem dX12_takes_106 : decode cX12_takes 106 = .ok (.aload_n 0, 1) := by decide +kernel
theorem dX12_takes_107 : decode cX12_takes 107 = .ok (.getfield 82, 3) := by decide +kernel
theorem dX12_takes_110 : decode cX12_takes 110 = .ok (.iload_n 1, 1) := by decide +kernel
theorem dX12_takes_111 : decode cX12_takes 111 = .ok (.iconst 1, 1) := by decide +kernel
theorem dX12_takes_112 : decode cX12_takes 112 = .ok (.bastore, 1) := by decide +kernel
theorem dX12_takes_113 : decode cX12_takes 113 = .ok (.aload_n 0, 1) := by decide +kernel
theorem dX12_takes_114 : decode cX12_takes 114 = .ok (.dup, 1) := by decide +kernel
theorem dX12_takes_115 : decode cX12_takes 115 = .ok (.getfield 263, 3) := by decide +kernel
theorem dX12_takes_118 : decode cX12_takes 118 = .ok (.aload_n 0, 1) := by decide +kernel
theorem dX12_takes_119 : decode cX12_takes 119 = .ok (.getfield 154, 3) := by decide +kernel
theorem dX12_takes_122 : decode cX12_takes 122 = .ok (.iload_n 1, 1) := by decide +kernel
theorem dX12_takes_123 : decode cX12_takes 123 = .ok (.baload, 1) := by decide +kernel
theorem dX12_takes_124 : decode cX12_takes 124 = .ok (.ifCond .eq 7, 3) := by decide +kernel
theorem dX12_takes_127 : decode cX12_takes 127 = .ok (.iconst 1, 1) := by decide +kernel
theorem dX12_takes_128 : decode cX12_takes 128 = .ok (.goto 4, 3) := by decide +kernel
theorem dX12_takes_131 : decode cX12_takes 131 = .ok (.iconst 0, 1) := by decide +kernel
theorem dX12_takes_132 : decode cX12_takes 132 = .ok (.iadd, 1) := by decide +kernel
theorem dX12_takes_133 : decode cX12_takes 133 = .ok (.putfield 263, 3) := by decide +kernel
theorem dX12_takes_136 : decode cX12_takes 136 = .ok (.iconst 0, 1) := by decide +kernel
theorem dX12_takes_137 : decode cX12_takes 137 = .ok (.istore_n 2, 1) := by decide +kernel
theorem dX12_takes_138 : decode cX12_takes 138 = .ok (.iload_n 2, 1) := by decide +kernel
theorem dX12_takes_139 : decode cX12_takes 139 = .ok (.aload_n 0, 1) := by decide +kernel
theorem dX12_takes_140 : decode cX12_takes 140 = .ok (.getfield 136, 3) := by decide +kernel
theorem dX12_takes_143 : decode cX12_takes 143 = .ok (.iload_n 1, 1) := by decide +kernel
theorem dX12_takes_144 : decode cX12_takes 144 = .ok (.iaload, 1) := by decide +kernel
theorem dX12_takes_145 : decode cX12_takes 145 = .ok (.if_icmp .ge 34, 3) := by decide +kernel
theorem dX12_takes_148 : decode cX12_takes 148 = .ok (.aload_n 0, 1) := by decide +kernel
theorem dX12_takes_149 : decode cX12_takes 149 = .ok (.getfield 85, 3) := by decide +kernel
theorem dX12_takes_152 : decode cX12_takes 152 = .ok (.sipush 200, 3) := by decide +kernel
theorem dX12_takes_155 : decode cX12_takes 155 = .ok (.aload_n 0, 1) := by decide +kernel
theorem dX12_takes_156 : decode cX12_takes 156 = .ok (.getfield 130, 3) := by decide +kernel
theorem dX12_takes_159 : decode cX12_takes 159 = .ok (.iload_n 1, 1) := by decide +kernel
theorem dX12_takes_160 : decode cX12_takes 160 = .ok (.iaload, 1) := by decide +kernel
theorem dX12_takes_161 : decode cX12_takes 161 = .ok (.imul, 1) := by decide +kernel
theorem dX12_takes_162 : decode cX12_takes 162 = .ok (.aload_n 0, 1) := by decide +kernel
theorem dX12_takes_163 : decode cX12_takes 163 = .ok (.getfield 133, 3) := by decide +kernel
theorem dX12_takes_166 : decode cX12_takes 166 = .ok (.iload_n 1, 1) := by decide +kernel
theorem dX12_takes_167 : decode cX12_takes 167 = .ok (.iaload, 1) := by decide +kernel
theorem dX12_takes_168 : decode cX12_takes 168 = .ok (.iadd, 1) := by decide +kernel
theorem dX12_takes_169 : decode cX12_takes 169 = .ok (.iload_n 2, 1) := by decide +kernel
theorem dX12_takes_170 : decode cX12_takes 170 = .ok (.iadd, 1) := by decide +kernel
theorem dX12_takes_171 : decode cX12_takes 171 = .ok (.iconst 1, 1) := by decide +kernel
theorem dX12_takes_172 : decode cX12_takes 172 = .ok (.bastore, 1) := by decide +kernel
theorem dX12_takes_173 : decode cX12_takes 173 = .ok (.iinc 2 1, 3) := by decide +kernel
theorem dX12_takes_176 : decode cX12_takes 176 = .ok (.goto (-38), 3) := by decide +kernel
theorem dX12_takes_179 : decode cX12_takes 179 = .ok (.iload_n 1, 1) := by decide +kernel
theorem dX12_takes_180 : decode cX12_takes 180 = .ok (.aload_n 0, 1) := by decide +kernel
theorem dX12_takes_181 : decode cX12_takes 181 = .ok (.getfield 91, 3) := by decide +kernel
theorem dX12_takes_184 : decode cX12_takes 184 = .ok (.iconst 1, 1) := by decide +kernel
theorem dX12_takes_185 : decode cX12_takes 185 = .ok (.iadd, 1) := by decide +kernel
theorem dX12_takes_186 : decode cX12_takes 186 = .ok (.if_icmp .ne 7, 3) := by decide +kernel
theorem dX12_takes_189 : decode cX12_takes 189 = .ok (.iconst 1, 1) := by decide +kernel
theorem dX12_takes_190 : decode cX12_takes 190 = .ok (.goto 4, 3) := by decide +kernel
theorem dX12_takes_193 : decode cX12_takes 193 = .ok (.iconst 0, 1) := by decide +kernel
theorem dX12_takes_194 : decode cX12_takes 194 = .ok (.istore_n 2, 1) := by decide +kernel
theorem dX12_takes_195 : decode cX12_takes 195 = .ok (.aload_n 0, 1) := by decide +kernel
theorem dX12_takes_196 : decode cX12_takes 196 = .ok (.aload_n 0, 1) := by decide +kernel
theorem dX12_takes_197 : decode cX12_takes 197 = .ok (.getfield 91, 3) := by decide +kernel
theorem dX12_takes_200 : decode cX12_takes 200 = .ok (.iload_n 1, 1) := by decide +kernel
theorem dX12_takes_201 : decode cX12_takes 201 = .ok (.invokestatic 288, 3) := by decide +kernel
theorem dX12_takes_204 : decode cX12_takes 204 = .ok (.putfield 91, 3) := by decide +kernel
theorem dX12_takes_207 : decode cX12_takes 207 = .ok (.aload_n 0, 1) := by decide +kernel
theorem dX12_takes_208 : decode cX12_takes 208 = .ok (.dup, 1) := by decide +kernel
theorem dX12_takes_209 : decode cX12_takes 209 = .ok (.getfield 266, 3) := by decide +kernel
theorem dX12_takes_212 : decode cX12_takes 212 = .ok (.iconst 1, 1) := by decide +kernel
theorem dX12_takes_213 : decode cX12_takes 213 = .ok (.iadd, 1) := by decide +kernel
theorem dX12_takes_214 : decode cX12_takes 214 = .ok (.putfield 266, 3) := by decide +kernel
theorem dX12_takes_217 : decode cX12_takes 217 = .ok (.aload_n 0, 1) := by decide +kernel
theorem dX12_takes_218 : decode cX12_takes 218 = .ok (.getfield 148, 3) := by decide +kernel
theorem dX12_takes_221 : decode cX12_takes 221 = .ok (.iload_n 1, 1) := by decide +kernel
theorem dX12_takes_222 : decode cX12_takes 222 = .ok (.baload, 1) := by decide +kernel
theorem dX12_takes_223 : decode cX12_takes 223 = .ok (.ifCond .ne 15, 3) := by decide +kernel
theorem dX12_takes_226 : decode cX12_takes 226 = .ok (.iload_n 2, 1) := by decide +kernel
theorem dX12_takes_227 : decode cX12_takes 227 = .ok (.ifCond .eq 11, 3) := by decide +kernel
theorem dX12_takes_230 : decode cX12_takes 230 = .ok (.aload_n 0, 1) := by decide +kernel
theorem dX12_takes_231 : decode cX12_takes 231 = .ok (.getfield 266, 3) := by decide +kernel
theorem dX12_takes_234 : decode cX12_takes 234 = .ok (.iconst 2, 1) := by decide +kernel
theorem dX12_takes_235 : decode cX12_takes 235 = .ok (.if_icmp .ne 10, 3) := by decide +kernel
theorem dX12_takes_238 : decode cX12_takes 238 = .ok (.aload_n 0, 1) := by decide +kernel
theorem dX12_takes_239 : decode cX12_takes 239 = .ok (.invokevirtual 292, 3) := by decide +kernel
theorem dX12_takes_242 : decode cX12_takes 242 = .ok (.goto 13, 3) := by decide +kernel
theorem dX12_takes_245 : decode cX12_takes 245 = .ok (.aload_n 0, 1) := by decide +kernel
theorem dX12_takes_246 : decode cX12_takes 246 = .ok (.aload_n 0, 1) := by decide +kernel
theorem dX12_takes_247 : decode cX12_takes 247 = .ok (.getfield 246, 3) := by decide +kernel
theorem dX12_takes_250 : decode cX12_takes 250 = .ok (.iconst 3, 1) := by decide +kernel
theorem dX12_takes_251 : decode cX12_takes 251 = .ok (.iadd, 1) := by decide +kernel
theorem dX12_takes_252 : decode cX12_takes 252 = .ok (.putfield 94, 3) := by decide +kernel
theorem dX12_takes_255 : decode cX12_takes 255 = .ok (.return_, 1) := by decide +kernel
theorem dX12_hears_0 : decode cX12_hears 0 = .ok (.iload_n 2, 1) := by decide +kernel
theorem dX12_hears_1 : decode cX12_hears 1 = .ok (.iconst 2, 1) := by decide +kernel
theorem dX12_hears_2 : decode cX12_hears 2 = .ok (.irem, 1) := by decide +kernel
theorem dX12_hears_3 : decode cX12_hears 3 = .ok (.iconst 1, 1) := by decide +kernel
theorem dX12_hears_4 : decode cX12_hears 4 = .ok (.if_icmp .ne 7, 3) := by decide +kernel
theorem dX12_hears_7 : decode cX12_hears 7 = .ok (.iconst 1, 1) := by decide +kernel
theorem dX12_hears_8 : decode cX12_hears 8 = .ok (.goto 4, 3) := by decide +kernel
theorem dX12_hears_11 : decode cX12_hears 11 = .ok (.iconst 0, 1) := by decide +kernel
theorem dX12_hears_12 : decode cX12_hears 12 = .ok (.istore_n 3, 1) := by decide +kernel
theorem dX12_hears_13 : decode cX12_hears 13 = .ok (.iload_n 2, 1) := by decide +kernel
theorem dX12_hears_14 : decode cX12_hears 14 = .ok (.iconst 2, 1) := by decide +kernel
theorem dX12_hears_15 : decode cX12_hears 15 = .ok (.idiv, 1) := by decide +kernel
theorem dX12_hears_16 : decode cX12_hears 16 = .ok (.iconst 1, 1) := by decide +kernel
theorem dX12_hears_17 : decode cX12_hears 17 = .ok (.isub, 1) := by decide +kernel
theorem dX12_hears_18 : decode cX12_hears 18 = .ok (.istore 4, 2) := by decide +kernel
theorem dX12_hears_20 : decode cX12_hears 20 = .ok (.aload_n 0, 1) := by decide +kernel
theorem dX12_hears_21 : decode cX12_hears 21 = .ok (.getfield 278, 3) := by decide +kernel
theorem dX12_hears_24 : decode cX12_hears 24 = .ok (.iconst 2, 1) := by decide +kernel
theorem dX12_hears_25 : decode cX12_hears 25 = .ok (.if_icmp .ne 4, 3) := by decide +kernel
theorem dX12_hears_28 : decode cX12_hears 28 = .ok (.return_, 1) := by decide +kernel
theorem dX12_hears_29 : decode cX12_hears 29 = .ok (.aload_n 0, 1) := by decide +kernel
theorem dX12_hears_30 : decode cX12_hears 30 = .ok (.getfield 278, 3) := by decide +kernel
theorem dX12_hears_33 : decode cX12_hears 33 = .ok (.iconst 1, 1) := by decide +kernel
theorem dX12_hears_34 : decode cX12_hears 34 = .ok (.if_icmp .ne 25, 3) := by decide +kernel
theorem dX12_hears_37 : decode cX12_hears 37 = .ok (.aload_n 0, 1) := by decide +kernel
theorem dX12_hears_38 : decode cX12_hears 38 = .ok (.iload_n 1, 1) := by decide +kernel
theorem dX12_hears_39 : decode cX12_hears 39 = .ok (.bipush 6, 2) := by decide +kernel
theorem dX12_hears_41 : decode cX12_hears 41 = .ok (.aload_n 0, 1) := by decide +kernel
theorem dX12_hears_42 : decode cX12_hears 42 = .ok (.getfield 281, 3) := by decide +kernel
theorem dX12_hears_45 : decode cX12_hears 45 = .ok (.ifCond .eq 7, 3) := by decide +kernel
theorem dX12_hears_48 : decode cX12_hears 48 = .ok (.iconst 1, 1) := by decide +kernel
theorem dX12_hears_49 : decode cX12_hears 49 = .ok (.goto 4, 3) := by decide +kernel
theorem dX12_hears_52 : decode cX12_hears 52 = .ok (.iconst 0, 1) := by decide +kernel
theorem dX12_hears_53 : decode cX12_hears 53 = .ok (.invokevirtual 269, 3) := by decide +kernel
theorem dX12_hears_56 : decode cX12_hears 56 = .ok (.goto 87, 3) := by decide +kernel
theorem dX12_hears_59 : decode cX12_hears 59 = .ok (.aload_n 0, 1) := by decide +kernel
theorem dX12_hears_60 : decode cX12_hears 60 = .ok (.getfield 295, 3) := by decide +kernel
theorem dX12_hears_63 : decode cX12_hears 63 = .ok (.ifCond .eq 17, 3) := by decide +kernel
theorem dX12_hears_66 : decode cX12_hears 66 = .ok (.iload_n 3, 1) := by decide +kernel
theorem dX12_hears_67 : decode cX12_hears 67 = .ok (.ifCond .ne 13, 3) := by decide +kernel
theorem dX12_hears_70 : decode cX12_hears 70 = .ok (.aload_n 0, 1) := by decide +kernel
theorem dX12_hears_71 : decode cX12_hears 71 = .ok (.iload_n 1, 1) := by decide +kernel
theorem dX12_hears_72 : decode cX12_hears 72 = .ok (.iconst 5, 1) := by decide +kernel
theorem dX12_hears_73 : decode cX12_hears 73 = .ok (.iconst 0, 1) := by decide +kernel
theorem dX12_hears_74 : decode cX12_hears 74 = .ok (.invokevirtual 269, 3) := by decide +kernel
theorem dX12_hears_77 : decode cX12_hears 77 = .ok (.goto 66, 3) := by decide +kernel
theorem dX12_hears_80 : decode cX12_hears 80 = .ok (.aload_n 0, 1) := by decide +kernel
theorem dX12_hears_81 : decode cX12_hears 81 = .ok (.iconst 1, 1) := by decide +kernel
theorem dX12_hears_82 : decode cX12_hears 82 = .ok (.putfield 278, 3) := by decide +kernel
theorem dX12_hears_85 : decode cX12_hears 85 = .ok (.aload_n 0, 1) := by decide +kernel
theorem dX12_hears_86 : decode cX12_hears 86 = .ok (.iload 4, 2) := by decide +kernel
theorem dX12_hears_88 : decode cX12_hears 88 = .ok (.ifCond .lt 17, 3) := by decide +kernel
theorem dX12_hears_91 : decode cX12_hears 91 = .ok (.aload_n 0, 1) := by decide +kernel
theorem dX12_hears_92 : decode cX12_hears 92 = .ok (.getfield 75, 3) := by decide +kernel
theorem dX12_hears_95 : decode cX12_hears 95 = .ok (.iload 4, 2) := by decide +kernel
theorem dX12_hears_97 : decode cX12_hears 97 = .ok (.baload, 1) := by decide +kernel
theorem dX12_hears_98 : decode cX12_hears 98 = .ok (.ifCond .ne 7, 3) := by decide +kernel
theorem dX12_hears_101 : decode cX12_hears 101 = .ok (.iconst 1, 1) := by decide +kernel
theorem dX12_hears_102 : decode cX12_hears 102 = .ok (.goto 4, 3) := by decide +kernel
theorem dX12_hears_105 : decode cX12_hears 105 = .ok (.iconst 0, 1) := by decide +kernel
theorem dX12_hears_106 : decode cX12_hears 106 = .ok (.putfield 281, 3) := by decide +kernel
theorem dX12_hears_109 : decode cX12_hears 109 = .ok (.aload_n 0, 1) := by decide +kernel
theorem dX12_hears_110 : decode cX12_hears 110 = .ok (.getfield 281, 3) := by decide +kernel
theorem dX12_hears_113 : decode cX12_hears 113 = .ok (.ifCond .eq 11, 3) := by decide +kernel
theorem dX12_hears_116 : decode cX12_hears 116 = .ok (.aload_n 0, 1) := by decide +kernel
theorem dX12_hears_117 : decode cX12_hears 117 = .ok (.getfield 75, 3) := by decide +kernel
theorem dX12_hears_120 : decode cX12_hears 120 = .ok (.iload 4, 2) := by decide +kernel
theorem dX12_hears_122 : decode cX12_hears 122 = .ok (.iconst 1, 1) := by decide +kernel
theorem dX12_hears_123 : decode cX12_hears 123 = .ok (.bastore, 1) := by decide +kernel
theorem dX12_hears_124 : decode cX12_hears 124 = .ok (.aload_n 0, 1) := by decide +kernel
theorem dX12_hears_125 : decode cX12_hears 125 = .ok (.iload_n 1, 1) := by decide +kernel
theorem dX12_hears_126 : decode cX12_hears 126 = .ok (.bipush 6, 2) := by decide +kernel
theorem dX12_hears_128 : decode cX12_hears 128 = .ok (.aload_n 0, 1) := by decide +kernel
theorem dX12_hears_129 : decode cX12_hears 129 = .ok (.getfield 281, 3) := by decide +kernel
theorem dX12_hears_132 : decode cX12_hears 132 = .ok (.ifCond .eq 7, 3) := by decide +kernel
theorem dX12_hears_135 : decode cX12_hears 135 = .ok (.iconst 1, 1) := by decide +kernel
theorem dX12_hears_136 : decode cX12_hears 136 = .ok (.goto 4, 3) := by decide +kernel
theorem dX12_hears_139 : decode cX12_hears 139 = .ok (.iconst 0, 1) := by decide +kernel
theorem dX12_hears_140 : decode cX12_hears 140 = .ok (.invokevirtual 269, 3) := by decide +kernel
theorem dX12_hears_143 : decode cX12_hears 143 = .ok (.return_, 1) := by decide +kernel
theorem dX12_arrivesAtServer_0 : decode cX12_arrivesAtServer 0 = .ok (.aload_n 0, 1) := by decide +kernel
theorem dX12_arrivesAtServer_1 : decode cX12_arrivesAtServer 1 = .ok (.getfield 44, 3) := by decide +kernel
theorem dX12_arrivesAtServer_4 : decode cX12_arrivesAtServer 4 = .ok (.iload_n 1, 1) := by decide +kernel
theorem dX12_arrivesAtServer_5 : decode cX12_arrivesAtServer 5 = .ok (.iaload, 1) := by decide +kernel
theorem dX12_arrivesAtServer_6 : decode cX12_arrivesAtServer 6 = .ok (.istore_n 2, 1) := by decide +kernel
theorem dX12_arrivesAtServer_7 : decode cX12_arrivesAtServer 7 = .ok (.aload_n 0, 1) := by decide +kernel
theorem dX12_arrivesAtServer_8 : decode cX12_arrivesAtServer 8 = .ok (.getfield 50, 3) := by decide +kernel
theorem dX12_arrivesAtServer_11 : decode cX12_arrivesAtServer 11 = .ok (.iload_n 1, 1) := by decide +kernel
theorem dX12_arrivesAtServer_12 : decode cX12_arrivesAtServer 12 = .ok (.iaload, 1) := by decide +kernel
theorem dX12_arrivesAtServer_13 : decode cX12_arrivesAtServer 13 = .ok (.istore_n 3, 1) := by decide +kernel
theorem dX12_arrivesAtServer_14 : decode cX12_arrivesAtServer 14 = .ok (.iload_n 2, 1) := by decide +kernel
theorem dX12_arrivesAtServer_15 : decode cX12_arrivesAtServer 15 = .ok (.iconst 1, 1) := by decide +kernel
theorem dX12_arrivesAtServer_16 : decode cX12_arrivesAtServer 16 = .ok (.if_icmp .ne 15, 3) := by decide +kernel
theorem dX12_arrivesAtServer_19 : decode cX12_arrivesAtServer 19 = .ok (.aload_n 0, 1) := by decide +kernel
theorem dX12_arrivesAtServer_20 : decode cX12_arrivesAtServer 20 = .ok (.iload_n 3, 1) := by decide +kernel
theorem dX12_arrivesAtServer_21 : decode cX12_arrivesAtServer 21 = .ok (.aload_n 0, 1) := by decide +kernel
theorem dX12_arrivesAtServer_22 : decode cX12_arrivesAtServer 22 = .ok (.getfield 47, 3) := by decide +kernel
theorem dX12_arrivesAtServer_25 : decode cX12_arrivesAtServer 25 = .ok (.iload_n 1, 1) := by decide +kernel
theorem dX12_arrivesAtServer_26 : decode cX12_arrivesAtServer 26 = .ok (.iaload, 1) := by decide +kernel
theorem dX12_arrivesAtServer_27 : decode cX12_arrivesAtServer 27 = .ok (.invokevirtual 298, 3) := by decide +kernel
theorem dX12_arrivesAtServer_30 : decode cX12_arrivesAtServer 30 = .ok (.return_, 1) := by decide +kernel
theorem dX12_arrivesAtServer_31 : decode cX12_arrivesAtServer 31 = .ok (.iload_n 2, 1) := by decide +kernel
theorem dX12_arrivesAtServer_32 : decode cX12_arrivesAtServer 32 = .ok (.iconst 2, 1) := by decide +kernel
theorem dX12_arrivesAtServer_33 : decode cX12_arrivesAtServer 33 = .ok (.if_icmp .ne 13, 3) := by decide +kernel
theorem dX12_arrivesAtServer_36 : decode cX12_arrivesAtServer 36 = .ok (.aload_n 0, 1) := by decide +kernel
theorem dX12_arrivesAtServer_37 : decode cX12_arrivesAtServer 37 = .ok (.aload_n 0, 1) := by decide +kernel
theorem dX12_arrivesAtServer_38 : decode cX12_arrivesAtServer 38 = .ok (.getfield 47, 3) := by decide +kernel
theorem dX12_arrivesAtServer_41 : decode cX12_arrivesAtServer 41 = .ok (.iload_n 1, 1) := by decide +kernel
theorem dX12_arrivesAtServer_42 : decode cX12_arrivesAtServer 42 = .ok (.iaload, 1) := by decide +kernel
theorem dX12_arrivesAtServer_43 : decode cX12_arrivesAtServer 43 = .ok (.invokevirtual 302, 3) := by decide +kernel
theorem dX12_arrivesAtServer_46 : decode cX12_arrivesAtServer 46 = .ok (.aload_n 0, 1) := by decide +kernel
theorem dX12_arrivesAtServer_47 : decode cX12_arrivesAtServer 47 = .ok (.getfield 278, 3) := by decide +kernel
theorem dX12_arrivesAtServer_50 : decode cX12_arrivesAtServer 50 = .ok (.iconst 3, 1) := by decide +kernel
theorem dX12_arrivesAtServer_51 : decode cX12_arrivesAtServer 51 = .ok (.if_icmp .ne 14, 3) := by decide +kernel
theorem dX12_arrivesAtServer_54 : decode cX12_arrivesAtServer 54 = .ok (.aload_n 0, 1) := by decide +kernel
theorem dX12_arrivesAtServer_55 : decode cX12_arrivesAtServer 55 = .ok (.iload_n 3, 1) := by decide +kernel
theorem dX12_arrivesAtServer_56 : decode cX12_arrivesAtServer 56 = .ok (.bipush 9, 2) := by decide +kernel
theorem dX12_arrivesAtServer_58 : decode cX12_arrivesAtServer 58 = .ok (.iconst 0, 1) := by decide +kernel
theorem dX12_arrivesAtServer_59 : decode cX12_arrivesAtServer 59 = .ok (.invokevirtual 269, 3) := by decide +kernel
theorem dX12_arrivesAtServer_62 : decode cX12_arrivesAtServer 62 = .ok (.goto 37, 3) := by decide +kernel
theorem dX12_arrivesAtServer_65 : decode cX12_arrivesAtServer 65 = .ok (.iload_n 2, 1) := by decide +kernel
theorem dX12_arrivesAtServer_66 : decode cX12_arrivesAtServer 66 = .ok (.iconst 3, 1) := by decide +kernel
theorem dX12_arrivesAtServer_67 : decode cX12_arrivesAtServer 67 = .ok (.if_icmp .ne 22, 3) := by decide +kernel
theorem dX12_arrivesAtServer_70 : decode cX12_arrivesAtServer 70 = .ok (.aload_n 0, 1) := by decide +kernel
theorem dX12_arrivesAtServer_71 : decode cX12_arrivesAtServer 71 = .ok (.getfield 278, 3) := by decide +kernel
theorem dX12_arrivesAtServer_74 : decode cX12_arrivesAtServer 74 = .ok (.iconst 1, 1) := by decide +kernel
theorem dX12_arrivesAtServer_75 : decode cX12_arrivesAtServer 75 = .ok (.if_icmp .ne 14, 3) := by decide +kernel
theorem dX12_arrivesAtServer_78 : decode cX12_arrivesAtServer 78 = .ok (.aload_n 0, 1) := by decide +kernel
theorem dX12_arrivesAtServer_79 : decode cX12_arrivesAtServer 79 = .ok (.iload_n 3, 1) := by decide +kernel
theorem dX12_arrivesAtServer_80 : decode cX12_arrivesAtServer 80 = .ok (.bipush 8, 2) := by decide +kernel
theorem dX12_arrivesAtServer_82 : decode cX12_arrivesAtServer 82 = .ok (.iconst 0, 1) := by decide +kernel
theorem dX12_arrivesAtServer_83 : decode cX12_arrivesAtServer 83 = .ok (.invokevirtual 269, 3) := by decide +kernel
theorem dX12_arrivesAtServer_86 : decode cX12_arrivesAtServer 86 = .ok (.goto 13, 3) := by decide +kernel
theorem dX12_arrivesAtServer_89 : decode cX12_arrivesAtServer 89 = .ok (.iload_n 2, 1) := by decide +kernel
theorem dX12_arrivesAtServer_90 : decode cX12_arrivesAtServer 90 = .ok (.iconst 4, 1) := by decide +kernel
theorem dX12_arrivesAtServer_91 : decode cX12_arrivesAtServer 91 = .ok (.if_icmp .ne 8, 3) := by decide +kernel
theorem dX12_arrivesAtServer_94 : decode cX12_arrivesAtServer 94 = .ok (.aload_n 0, 1) := by decide +kernel
theorem dX12_arrivesAtServer_95 : decode cX12_arrivesAtServer 95 = .ok (.iconst 2, 1) := by decide +kernel
theorem dX12_arrivesAtServer_96 : decode cX12_arrivesAtServer 96 = .ok (.putfield 278, 3) := by decide +kernel
theorem dX12_arrivesAtServer_99 : decode cX12_arrivesAtServer 99 = .ok (.return_, 1) := by decide +kernel
theorem dX12_setCookies_0 : decode cX12_setCookies 0 = .ok (.aload_n 0, 1) := by decide +kernel
theorem dX12_setCookies_1 : decode cX12_setCookies 1 = .ok (.iconst 0, 1) := by decide +kernel
theorem dX12_setCookies_2 : decode cX12_setCookies 2 = .ok (.putfield 233, 3) := by decide +kernel
theorem dX12_setCookies_5 : decode cX12_setCookies 5 = .ok (.aload_n 0, 1) := by decide +kernel
theorem dX12_setCookies_6 : decode cX12_setCookies 6 = .ok (.getfield 295, 3) := by decide +kernel
theorem dX12_setCookies_9 : decode cX12_setCookies 9 = .ok (.istore_n 2, 1) := by decide +kernel
theorem dX12_setCookies_10 : decode cX12_setCookies 10 = .ok (.aload_n 0, 1) := by decide +kernel
theorem dX12_setCookies_11 : decode cX12_setCookies 11 = .ok (.iload_n 1, 1) := by decide +kernel
theorem dX12_setCookies_12 : decode cX12_setCookies 12 = .ok (.putfield 295, 3) := by decide +kernel
theorem dX12_setCookies_15 : decode cX12_setCookies 15 = .ok (.iload_n 2, 1) := by decide +kernel
theorem dX12_setCookies_16 : decode cX12_setCookies 16 = .ok (.ireturn, 1) := by decide +kernel
theorem dX12_read_0 : decode cX12_read 0 = .ok (.aload_n 0, 1) := by decide +kernel
theorem dX12_read_1 : decode cX12_read 1 = .ok (.iload_n 1, 1) := by decide +kernel
theorem dX12_read_2 : decode cX12_read 2 = .ok (.invokestatic 306, 3) := by decide +kernel
theorem dX12_read_5 : decode cX12_read 5 = .ok (.iload_n 2, 1) := by decide +kernel
theorem dX12_read_6 : decode cX12_read 6 = .ok (.iconst 1, 1) := by decide +kernel
theorem dX12_read_7 : decode cX12_read 7 = .ok (.sipush 200, 3) := by decide +kernel
theorem dX12_read_10 : decode cX12_read 10 = .ok (.invokestatic 236, 3) := by decide +kernel
theorem dX12_read_13 : decode cX12_read 13 = .ok (.iconst 1, 1) := by decide +kernel
theorem dX12_read_14 : decode cX12_read 14 = .ok (.invokevirtual 253, 3) := by decide +kernel
theorem dX12_read_17 : decode cX12_read 17 = .ok (.ifCond .ne 5, 3) := by decide +kernel
theorem dX12_read_20 : decode cX12_read 20 = .ok (.iconst 0, 1) := by decide +kernel
theorem dX12_read_21 : decode cX12_read 21 = .ok (.ireturn, 1) := by decide +kernel
theorem dX12_read_22 : decode cX12_read 22 = .ok (.aload_n 0, 1) := by decide +kernel
theorem dX12_read_23 : decode cX12_read 23 = .ok (.iload_n 1, 1) := by decide +kernel
theorem dX12_read_24 : decode cX12_read 24 = .ok (.invokevirtual 309, 3) := by decide +kernel
theorem dX12_read_27 : decode cX12_read 27 = .ok (.aload_n 0, 1) := by decide +kernel
theorem dX12_read_28 : decode cX12_read 28 = .ok (.getfield 88, 3) := by decide +kernel
theorem dX12_read_31 : decode cX12_read 31 = .ok (.iload_n 1, 1) := by decide +kernel
theorem dX12_read_32 : decode cX12_read 32 = .ok (.iaload, 1) := by decide +kernel
theorem dX12_read_33 : decode cX12_read 33 = .ok (.isub, 1) := by decide +kernel
theorem dX12_read_34 : decode cX12_read 34 = .ok (.istore_n 3, 1) := by decide +kernel
theorem dX12_read_35 : decode cX12_read 35 = .ok (.iload_n 2, 1) := by decide +kernel
theorem dX12_read_36 : decode cX12_read 36 = .ok (.iload_n 3, 1) := by decide +kernel
theorem dX12_read_37 : decode cX12_read 37 = .ok (.if_icmp .ge 7, 3) := by decide +kernel
theorem dX12_read_40 : decode cX12_read 40 = .ok (.iload_n 2, 1) := by decide +kernel
theorem dX12_read_41 : decode cX12_read 41 = .ok (.goto 4, 3) := by decide +kernel
theorem dX12_read_44 : decode cX12_read 44 = .ok (.iload_n 3, 1) := by decide +kernel
theorem dX12_read_45 : decode cX12_read 45 = .ok (.istore 4, 2) := by decide +kernel
theorem dX12_read_47 : decode cX12_read 47 = .ok (.aload_n 0, 1) := by decide +kernel
theorem dX12_read_48 : decode cX12_read 48 = .ok (.getfield 88, 3) := by decide +kernel
theorem dX12_read_51 : decode cX12_read 51 = .ok (.iload_n 1, 1) := by decide +kernel
theorem dX12_read_52 : decode cX12_read 52 = .ok (.dup2, 1) := by decide +kernel
theorem dX12_read_53 : decode cX12_read 53 = .ok (.iaload, 1) := by decide +kernel
theorem dX12_read_54 : decode cX12_read 54 = .ok (.iload 4, 2) := by decide +kernel
theorem dX12_read_56 : decode cX12_read 56 = .ok (.iadd, 1) := by decide +kernel
theorem dX12_read_57 : decode cX12_read 57 = .ok (.iastore, 1) := by decide +kernel
theorem dX12_read_58 : decode cX12_read 58 = .ok (.iload 4, 2) := by decide +kernel
theorem dX12_read_60 : decode cX12_read 60 = .ok (.ifCond .le 23, 3) := by decide +kernel
theorem dX12_read_63 : decode cX12_read 63 = .ok (.aload_n 0, 1) := by decide +kernel
theorem dX12_read_64 : decode cX12_read 64 = .ok (.getfield 278, 3) := by decide +kernel
theorem dX12_read_67 : decode cX12_read 67 = .ok (.iconst 1, 1) := by decide +kernel
theorem dX12_read_68 : decode cX12_read 68 = .ok (.if_icmp .ne 15, 3) := by decide +kernel
theorem dX12_read_71 : decode cX12_read 71 = .ok (.aload_n 0, 1) := by decide +kernel
theorem dX12_read_72 : decode cX12_read 72 = .ok (.getfield 97, 3) := by decide +kernel
theorem dX12_read_75 : decode cX12_read 75 = .ok (.iconst (-1), 1) := by decide +kernel
theorem dX12_read_76 : decode cX12_read 76 = .ok (.if_icmp .eq 7, 3) := by decide +kernel
theorem dX12_read_79 : decode cX12_read 79 = .ok (.aload_n 0, 1) := by decide +kernel
theorem dX12_read_80 : decode cX12_read 80 = .ok (.invokevirtual 292, 3) := by decide +kernel
theorem dX12_read_83 : decode cX12_read 83 = .ok (.iload 4, 2) := by decide +kernel
theorem dX12_read_85 : decode cX12_read 85 = .ok (.ireturn, 1) := by decide +kernel
theorem dX12_loseState_0 : decode cX12_loseState 0 = .ok (.aload_n 0, 1) := by decide +kernel
theorem dX12_loseState_1 : decode cX12_loseState 1 = .ok (.iconst 0, 1) := by decide +kernel
theorem dX12_loseState_2 : decode cX12_loseState 2 = .ok (.putfield 233, 3) := by decide +kernel
theorem dX12_loseState_5 : decode cX12_loseState 5 = .ok (.aload_n 0, 1) := by decide +kernel
theorem dX12_loseState_6 : decode cX12_loseState 6 = .ok (.iconst 3, 1) := by decide +kernel
theorem dX12_loseState_7 : decode cX12_loseState 7 = .ok (.putfield 278, 3) := by decide +kernel
theorem dX12_loseState_10 : decode cX12_loseState 10 = .ok (.iconst 0, 1) := by decide +kernel
theorem dX12_loseState_11 : decode cX12_loseState 11 = .ok (.istore_n 1, 1) := by decide +kernel
theorem dX12_loseState_12 : decode cX12_loseState 12 = .ok (.iload_n 1, 1) := by decide +kernel
theorem dX12_loseState_13 : decode cX12_loseState 13 = .ok (.sipush 400, 3) := by decide +kernel
theorem dX12_loseState_16 : decode cX12_loseState 16 = .ok (.if_icmp .ge 16, 3) := by decide +kernel
theorem dX12_loseState_19 : decode cX12_loseState 19 = .ok (.aload_n 0, 1) := by decide +kernel
theorem dX12_loseState_20 : decode cX12_loseState 20 = .ok (.getfield 82, 3) := by decide +kernel
theorem dX12_loseState_23 : decode cX12_loseState 23 = .ok (.iload_n 1, 1) := by decide +kernel
theorem dX12_loseState_24 : decode cX12_loseState 24 = .ok (.iconst 0, 1) := by decide +kernel
theorem dX12_loseState_25 : decode cX12_loseState 25 = .ok (.bastore, 1) := by decide +kernel
theorem dX12_loseState_26 : decode cX12_loseState 26 = .ok (.iinc 1 1, 3) := by decide +kernel
theorem dX12_loseState_29 : decode cX12_loseState 29 = .ok (.goto (-17), 3) := by decide +kernel
theorem dX12_loseState_32 : decode cX12_loseState 32 = .ok (.aload_n 0, 1) := by decide +kernel
theorem dX12_loseState_33 : decode cX12_loseState 33 = .ok (.iconst (-1), 1) := by decide +kernel
theorem dX12_loseState_34 : decode cX12_loseState 34 = .ok (.putfield 91, 3) := by decide +kernel
theorem dX12_loseState_37 : decode cX12_loseState 37 = .ok (.aload_n 0, 1) := by decide +kernel
theorem dX12_loseState_38 : decode cX12_loseState 38 = .ok (.iconst 0, 1) := by decide +kernel
theorem dX12_loseState_39 : decode cX12_loseState 39 = .ok (.putfield 266, 3) := by decide +kernel
theorem dX12_loseState_42 : decode cX12_loseState 42 = .ok (.aload_n 0, 1) := by decide +kernel
theorem dX12_loseState_43 : decode cX12_loseState 43 = .ok (.iconst (-1), 1) := by decide +kernel
theorem dX12_loseState_44 : decode cX12_loseState 44 = .ok (.putfield 94, 3) := by decide +kernel
theorem dX12_loseState_47 : decode cX12_loseState 47 = .ok (.aload_n 0, 1) := by decide +kernel
theorem dX12_loseState_48 : decode cX12_loseState 48 = .ok (.iconst (-1), 1) := by decide +kernel
theorem dX12_loseState_49 : decode cX12_loseState 49 = .ok (.putfield 97, 3) := by decide +kernel
theorem dX12_loseState_52 : decode cX12_loseState 52 = .ok (.aload_n 0, 1) := by decide +kernel
theorem dX12_loseState_53 : decode cX12_loseState 53 = .ok (.iconst 0, 1) := by decide +kernel
theorem dX12_loseState_54 : decode cX12_loseState 54 = .ok (.putfield 263, 3) := by decide +kernel
theorem dX12_loseState_57 : decode cX12_loseState 57 = .ok (.return_, 1) := by decide +kernel
theorem dX12_measures_0 : decode cX12_measures 0 = .ok (.aload_n 0, 1) := by decide +kernel
theorem dX12_measures_1 : decode cX12_measures 1 = .ok (.getfield 181, 3) := by decide +kernel
theorem dX12_measures_4 : decode cX12_measures 4 = .ok (.iload_n 1, 1) := by decide +kernel
theorem dX12_measures_5 : decode cX12_measures 5 = .ok (.iload_n 2, 1) := by decide +kernel
theorem dX12_measures_6 : decode cX12_measures 6 = .ok (.iastore, 1) := by decide +kernel
theorem dX12_measures_7 : decode cX12_measures 7 = .ok (.aload_n 0, 1) := by decide +kernel
theorem dX12_measures_8 : decode cX12_measures 8 = .ok (.getfield 184, 3) := by decide +kernel
theorem dX12_measures_11 : decode cX12_measures 11 = .ok (.iload_n 1, 1) := by decide +kernel
theorem dX12_measures_12 : decode cX12_measures 12 = .ok (.baload, 1) := by decide +kernel
theorem dX12_measures_13 : decode cX12_measures 13 = .ok (.ifCond .ne 37, 3) := by decide +kernel
theorem dX12_measures_16 : decode cX12_measures 16 = .ok (.aload_n 0, 1) := by decide +kernel
theorem dX12_measures_17 : decode cX12_measures 17 = .ok (.getfield 184, 3) := by decide +kernel
theorem dX12_measures_20 : decode cX12_measures 20 = .ok (.iload_n 1, 1) := by decide +kernel
theorem dX12_measures_21 : decode cX12_measures 21 = .ok (.iconst 1, 1) := by decide +kernel
theorem dX12_measures_22 : decode cX12_measures 22 = .ok (.bastore, 1) := by decide +kernel
theorem dX12_measures_23 : decode cX12_measures 23 = .ok (.aload_n 0, 1) := by decide +kernel
theorem dX12_measures_24 : decode cX12_measures 24 = .ok (.getfield 172, 3) := by decide +kernel
theorem dX12_measures_27 : decode cX12_measures 27 = .ok (.iload_n 1, 1) := by decide +kernel
theorem dX12_measures_28 : decode cX12_measures 28 = .ok (.bipush 8, 2) := by decide +kernel
theorem dX12_measures_30 : decode cX12_measures 30 = .ok (.iload_n 2, 1) := by decide +kernel
theorem dX12_measures_31 : decode cX12_measures 31 = .ok (.imul, 1) := by decide +kernel
theorem dX12_measures_32 : decode cX12_measures 32 = .ok (.iastore, 1) := by decide +kernel
theorem dX12_measures_33 : decode cX12_measures 33 = .ok (.aload_n 0, 1) := by decide +kernel
theorem dX12_measures_34 : decode cX12_measures 34 = .ok (.getfield 175, 3) := by decide +kernel
theorem dX12_measures_37 : decode cX12_measures 37 = .ok (.iload_n 1, 1) := by decide +kernel
theorem dX12_measures_38 : decode cX12_measures 38 = .ok (.iconst 2, 1) := by decide +kernel
theorem dX12_measures_39 : decode cX12_measures 39 = .ok (.iload_n 2, 1) := by decide +kernel
theorem dX12_measures_40 : decode cX12_measures 40 = .ok (.imul, 1) := by decide +kernel
theorem dX12_measures_41 : decode cX12_measures 41 = .ok (.iastore, 1) := by decide +kernel
theorem dX12_measures_42 : decode cX12_measures 42 = .ok (.aload_n 0, 1) := by decide +kernel
theorem dX12_measures_43 : decode cX12_measures 43 = .ok (.getfield 178, 3) := by decide +kernel
theorem dX12_measures_46 : decode cX12_measures 46 = .ok (.iload_n 1, 1) := by decide +kernel
theorem dX12_measures_47 : decode cX12_measures 47 = .ok (.iload_n 2, 1) := by decide +kernel
theorem dX12_measures_48 : decode cX12_measures 48 = .ok (.iastore, 1) := by decide +kernel
theorem dX12_measures_49 : decode cX12_measures 49 = .ok (.return_, 1) := by decide +kernel
theorem dX12_measures_50 : decode cX12_measures 50 = .ok (.aload_n 0, 1) := by decide +kernel
theorem dX12_measures_51 : decode cX12_measures 51 = .ok (.getfield 178, 3) := by decide +kernel
theorem dX12_measures_54 : decode cX12_measures 54 = .ok (.iload_n 1, 1) := by decide +kernel
theorem dX12_measures_55 : decode cX12_measures 55 = .ok (.iload_n 2, 1) := by decide +kernel
theorem dX12_measures_56 : decode cX12_measures 56 = .ok (.aload_n 0, 1) := by decide +kernel
theorem dX12_measures_57 : decode cX12_measures 57 = .ok (.getfield 178, 3) := by decide +kernel
theorem dX12_measures_60 : decode cX12_measures 60 = .ok (.iload_n 1, 1) := by decide +kernel
theorem dX12_measures_61 : decode cX12_measures 61 = .ok (.iaload, 1) := by decide +kernel
theorem dX12_measures_62 : decode cX12_measures 62 = .ok (.if_icmp .ge 7, 3) := by decide +kernel
theorem dX12_measures_65 : decode cX12_measures 65 = .ok (.iload_n 2, 1) := by decide +kernel
theorem dX12_measures_66 : decode cX12_measures 66 = .ok (.goto 9, 3) := by decide +kernel
theorem dX12_measures_69 : decode cX12_measures 69 = .ok (.aload_n 0, 1) := by decide +kernel
theorem dX12_measures_70 : decode cX12_measures 70 = .ok (.getfield 178, 3) := by decide +kernel
theorem dX12_measures_73 : decode cX12_measures 73 = .ok (.iload_n 1, 1) := by decide +kernel
theorem dX12_measures_74 : decode cX12_measures 74 = .ok (.iaload, 1) := by decide +kernel
theorem dX12_measures_75 : decode cX12_measures 75 = .ok (.iastore, 1) := by decide +kernel
theorem dX12_measures_76 : decode cX12_measures 76 = .ok (.iload_n 2, 1) := by decide +kernel
theorem dX12_measures_77 : decode cX12_measures 77 = .ok (.aload_n 0, 1) := by decide +kernel
theorem dX12_measures_78 : decode cX12_measures 78 = .ok (.getfield 172, 3) := by decide +kernel
theorem dX12_measures_81 : decode cX12_measures 81 = .ok (.iload_n 1, 1) := by decide +kernel
theorem dX12_measures_82 : decode cX12_measures 82 = .ok (.iaload, 1) := by decide +kernel
theorem dX12_measures_83 : decode cX12_measures 83 = .ok (.bipush 8, 2) := by decide +kernel
theorem dX12_measures_85 : decode cX12_measures 85 = .ok (.idiv, 1) := by decide +kernel
theorem dX12_measures_86 : decode cX12_measures 86 = .ok (.isub, 1) := by decide +kernel
theorem dX12_measures_87 : decode cX12_measures 87 = .ok (.istore_n 3, 1) := by decide +kernel
theorem dX12_measures_88 : decode cX12_measures 88 = .ok (.aload_n 0, 1) := by decide +kernel
theorem dX12_measures_89 : decode cX12_measures 89 = .ok (.getfield 175, 3) := by decide +kernel
theorem dX12_measures_92 : decode cX12_measures 92 = .ok (.iload_n 1, 1) := by decide +kernel
theorem dX12_measures_93 : decode cX12_measures 93 = .ok (.dup2, 1) := by decide +kernel
theorem dX12_measures_94 : decode cX12_measures 94 = .ok (.iaload, 1) := by decide +kernel
theorem dX12_measures_95 : decode cX12_measures 95 = .ok (.iload_n 3, 1) := by decide +kernel
theorem dX12_measures_96 : decode cX12_measures 96 = .ok (.ifCond .ge 8, 3) := by decide +kernel
theorem dX12_measures_99 : decode cX12_measures 99 = .ok (.iload_n 3, 1) := by decide +kernel
theorem dX12_measures_100 : decode cX12_measures 100 = .ok (.ineg, 1) := by decide +kernel
theorem dX12_measures_101 : decode cX12_measures 101 = .ok (.goto 4, 3) := by decide +kernel
theorem dX12_measures_104 : decode cX12_measures 104 = .ok (.iload_n 3, 1) := by decide +kernel
theorem dX12_measures_105 : decode cX12_measures 105 = .ok (.aload_n 0, 1) := by decide +kernel
theorem dX12_measures_106 : decode cX12_measures 106 = .ok (.getfield 175, 3) := by decide +kernel
theorem dX12_measures_109 : decode cX12_measures 109 = .ok (.iload_n 1, 1) := by decide +kernel
theorem dX12_measures_110 : decode cX12_measures 110 = .ok (.iaload, 1) := by decide +kernel
theorem dX12_measures_111 : decode cX12_measures 111 = .ok (.iconst 4, 1) := by decide +kernel
theorem dX12_measures_112 : decode cX12_measures 112 = .ok (.idiv, 1) := by decide +kernel
theorem dX12_measures_113 : decode cX12_measures 113 = .ok (.isub, 1) := by decide +kernel
theorem dX12_measures_114 : decode cX12_measures 114 = .ok (.iadd, 1) := by decide +kernel
theorem dX12_measures_115 : decode cX12_measures 115 = .ok (.iastore, 1) := by decide +kernel
theorem dX12_measures_116 : decode cX12_measures 116 = .ok (.aload_n 0, 1) := by decide +kernel
theorem dX12_measures_117 : decode cX12_measures 117 = .ok (.getfield 172, 3) := by decide +kernel
theorem dX12_measures_120 : decode cX12_measures 120 = .ok (.iload_n 1, 1) := by decide +kernel
theorem dX12_measures_121 : decode cX12_measures 121 = .ok (.dup2, 1) := by decide +kernel
theorem dX12_measures_122 : decode cX12_measures 122 = .ok (.iaload, 1) := by decide +kernel
theorem dX12_measures_123 : decode cX12_measures 123 = .ok (.iload_n 2, 1) := by decide +kernel
theorem dX12_measures_124 : decode cX12_measures 124 = .ok (.aload_n 0, 1) := by decide +kernel
theorem dX12_measures_125 : decode cX12_measures 125 = .ok (.getfield 172, 3) := by decide +kernel
theorem dX12_measures_128 : decode cX12_measures 128 = .ok (.iload_n 1, 1) := by decide +kernel
theorem dX12_measures_129 : decode cX12_measures 129 = .ok (.iaload, 1) := by decide +kernel
theorem dX12_measures_130 : decode cX12_measures 130 = .ok (.bipush 8, 2) := by decide +kernel
theorem dX12_measures_132 : decode cX12_measures 132 = .ok (.idiv, 1) := by decide +kernel
theorem dX12_measures_133 : decode cX12_measures 133 = .ok (.isub, 1) := by decide +kernel
theorem dX12_measures_134 : decode cX12_measures 134 = .ok (.iadd, 1) := by decide +kernel
theorem dX12_measures_135 : decode cX12_measures 135 = .ok (.iastore, 1) := by decide +kernel
theorem dX12_measures_136 : decode cX12_measures 136 = .ok (.return_, 1) := by decide +kernel
theorem dX12_inFlight_0 : decode cX12_inFlight 0 = .ok (.iconst 0, 1) := by decide +kernel
theorem dX12_inFlight_1 : decode cX12_inFlight 1 = .ok (.istore_n 2, 1) := by decide +kernel
theorem dX12_inFlight_2 : decode cX12_inFlight 2 = .ok (.iconst 0, 1) := by decide +kernel
theorem dX12_inFlight_3 : decode cX12_inFlight 3 = .ok (.istore_n 3, 1) := by decide +kernel
theorem dX12_inFlight_4 : decode cX12_inFlight 4 = .ok (.iload_n 3, 1) := by decide +kernel
theorem dX12_inFlight_5 : decode cX12_inFlight 5 = .ok (.aload_n 0, 1) := by decide +kernel
theorem dX12_inFlight_6 : decode cX12_inFlight 6 = .ok (.getfield 313, 3) := by decide +kernel
theorem dX12_inFlight_9 : decode cX12_inFlight 9 = .ok (.if_icmp .ge 36, 3) := by decide +kernel
theorem dX12_inFlight_12 : decode cX12_inFlight 12 = .ok (.iload_n 2, 1) := by decide +kernel
theorem dX12_inFlight_13 : decode cX12_inFlight 13 = .ok (.aload_n 0, 1) := by decide +kernel
theorem dX12_inFlight_14 : decode cX12_inFlight 14 = .ok (.getfield 124, 3) := by decide +kernel
theorem dX12_inFlight_17 : decode cX12_inFlight 17 = .ok (.iload_n 3, 1) := by decide +kernel
theorem dX12_inFlight_18 : decode cX12_inFlight 18 = .ok (.iaload, 1) := by decide +kernel
theorem dX12_inFlight_19 : decode cX12_inFlight 19 = .ok (.iload_n 1, 1) := by decide +kernel
theorem dX12_inFlight_20 : decode cX12_inFlight 20 = .ok (.if_icmp .ne 16, 3) := by decide +kernel
theorem dX12_inFlight_23 : decode cX12_inFlight 23 = .ok (.aload_n 0, 1) := by decide +kernel
theorem dX12_inFlight_24 : decode cX12_inFlight 24 = .ok (.getfield 139, 3) := by decide +kernel
theorem dX12_inFlight_27 : decode cX12_inFlight 27 = .ok (.iload_n 3, 1) := by decide +kernel
theorem dX12_inFlight_28 : decode cX12_inFlight 28 = .ok (.iaload, 1) := by decide +kernel
theorem dX12_inFlight_29 : decode cX12_inFlight 29 = .ok (.ifCond .ne 7, 3) := by decide +kernel
theorem dX12_inFlight_32 : decode cX12_inFlight 32 = .ok (.iconst 1, 1) := by decide +kernel
theorem dX12_inFlight_33 : decode cX12_inFlight 33 = .ok (.goto 4, 3) := by decide +kernel
theorem dX12_inFlight_36 : decode cX12_inFlight 36 = .ok (.iconst 0, 1) := by decide +kernel
theorem dX12_inFlight_37 : decode cX12_inFlight 37 = .ok (.iadd, 1) := by decide +kernel
theorem dX12_inFlight_38 : decode cX12_inFlight 38 = .ok (.istore_n 2, 1) := by decide +kernel
theorem dX12_inFlight_39 : decode cX12_inFlight 39 = .ok (.iinc 3 1, 3) := by decide +kernel
theorem dX12_inFlight_42 : decode cX12_inFlight 42 = .ok (.goto (-38), 3) := by decide +kernel
theorem dX12_inFlight_45 : decode cX12_inFlight 45 = .ok (.iload_n 2, 1) := by decide +kernel
theorem dX12_inFlight_46 : decode cX12_inFlight 46 = .ok (.ireturn, 1) := by decide +kernel
theorem dX12_byCube_0 : decode cX12_byCube 0 = .ok (.aload_n 0, 1) := by decide +kernel
theorem dX12_byCube_1 : decode cX12_byCube 1 = .ok (.getfield 220, 3) := by decide +kernel
theorem dX12_byCube_4 : decode cX12_byCube 4 = .ok (.iload_n 1, 1) := by decide +kernel
theorem dX12_byCube_5 : decode cX12_byCube 5 = .ok (.iaload, 1) := by decide +kernel
theorem dX12_byCube_6 : decode cX12_byCube 6 = .ok (.i2l, 1) := by decide +kernel
theorem dX12_byCube_7 : decode cX12_byCube 7 = .ok (.lstore_n 2, 1) := by decide +kernel
theorem dX12_byCube_8 : decode cX12_byCube 8 = .ok (.lconst 0, 1) := by decide +kernel
theorem dX12_byCube_9 : decode cX12_byCube 9 = .ok (.lstore 4, 2) := by decide +kernel
theorem dX12_byCube_11 : decode cX12_byCube 11 = .ok (.ldc2_w 316, 3) := by decide +kernel
theorem dX12_byCube_14 : decode cX12_byCube 14 = .ok (.lload 4, 2) := by decide +kernel
theorem dX12_byCube_16 : decode cX12_byCube 16 = .ok (.lmul, 1) := by decide +kernel
theorem dX12_byCube_17 : decode cX12_byCube 17 = .ok (.lload 4, 2) := by decide +kernel
theorem dX12_byCube_19 : decode cX12_byCube 19 = .ok (.lmul, 1) := by decide +kernel
theorem dX12_byCube_20 : decode cX12_byCube 20 = .ok (.lload 4, 2) := by decide +kernel
theorem dX12_byCube_22 : decode cX12_byCube 22 = .ok (.lmul, 1) := by decide +kernel
theorem dX12_byCube_23 : decode cX12_byCube 23 = .ok (.ldc2_w 318, 3) := by decide +kernel
theorem dX12_byCube_26 : decode cX12_byCube 26 = .ok (.ldiv, 1) := by decide +kernel
theorem dX12_byCube_27 : decode cX12_byCube 27 = .ok (.ldc2_w 320, 3) := by decide +kernel
theorem dX12_byCube_30 : decode cX12_byCube 30 = .ok (.lload_n 2, 1) := by decide +kernel
theorem dX12_byCube_31 : decode cX12_byCube 31 = .ok (.lmul, 1) := by decide +kernel
theorem dX12_byCube_32 : decode cX12_byCube 32 = .ok (.ldc2_w 322, 3) := by decide +kernel
theorem dX12_byCube_35 : decode cX12_byCube 35 = .ok (.ldiv, 1) := by decide +kernel
theorem dX12_byCube_36 : decode cX12_byCube 36 = .ok (.lcmp, 1) := by decide +kernel
theorem dX12_byCube_37 : decode cX12_byCube 37 = .ok (.ifCond .ge 12, 3) := by decide +kernel
theorem dX12_byCube_40 : decode cX12_byCube 40 = .ok (.lload 4, 2) := by decide +kernel
theorem dX12_byCube_42 : decode cX12_byCube 42 = .ok (.lconst 1, 1) := by decide +kernel
theorem dX12_byCube_43 : decode cX12_byCube 43 = .ok (.ladd, 1) := by decide +kernel
theorem dX12_byCube_44 : decode cX12_byCube 44 = .ok (.lstore 4, 2) := by decide +kernel
theorem dX12_byCube_46 : decode cX12_byCube 46 = .ok (.goto (-35), 3) := by decide +kernel
theorem dX12_byCube_49 : decode cX12_byCube 49 = .ok (.aload_n 0, 1) := by decide +kernel
theorem dX12_byCube_50 : decode cX12_byCube 50 = .ok (.getfield 246, 3) := by decide +kernel
theorem dX12_byCube_53 : decode cX12_byCube 53 = .ok (.aload_n 0, 1) := by decide +kernel
theorem dX12_byCube_54 : decode cX12_byCube 54 = .ok (.getfield 214, 3) := by decide +kernel
theorem dX12_byCube_57 : decode cX12_byCube 57 = .ok (.iload_n 1, 1) := by decide +kernel
theorem dX12_byCube_58 : decode cX12_byCube 58 = .ok (.iaload, 1) := by decide +kernel
theorem dX12_byCube_59 : decode cX12_byCube 59 = .ok (.isub, 1) := by decide +kernel
theorem dX12_byCube_60 : decode cX12_byCube 60 = .ok (.i2l, 1) := by decide +kernel
theorem dX12_byCube_61 : decode cX12_byCube 61 = .ok (.lload 4, 2) := by decide +kernel
theorem dX12_byCube_63 : decode cX12_byCube 63 = .ok (.lsub, 1) := by decide +kernel
theorem dX12_byCube_64 : decode cX12_byCube 64 = .ok (.lstore 6, 2) := by decide +kernel
theorem dX12_byCube_66 : decode cX12_byCube 66 = .ok (.lload_n 2, 1) := by decide +kernel
theorem dX12_byCube_67 : decode cX12_byCube 67 = .ok (.ldc2_w 316, 3) := by decide +kernel
theorem dX12_byCube_70 : decode cX12_byCube 70 = .ok (.lload 6, 2) := by decide +kernel
theorem dX12_byCube_72 : decode cX12_byCube 72 = .ok (.lmul, 1) := by decide +kernel
theorem dX12_byCube_73 : decode cX12_byCube 73 = .ok (.lload 6, 2) := by decide +kernel
theorem dX12_byCube_75 : decode cX12_byCube 75 = .ok (.lmul, 1) := by decide +kernel
theorem dX12_byCube_76 : decode cX12_byCube 76 = .ok (.lload 6, 2) := by decide +kernel
end
section
theorem dX12_byCube_78 : decode cX12_byCube 78 = .ok (.lmul, 1) := by decide +kernel
theorem dX12_byCube_79 : decode cX12_byCube 79 = .ok (.ldc2_w 318, 3) := by decide +kernel
theorem dX12_byCube_82 : decode cX12_byCube 82 = .ok (.ldiv, 1) := by decide +kernel
theorem dX12_byCube_83 : decode cX12_byCube 83 = .ok (.ladd, 1) := by decide +kernel
theorem dX12_byCube_84 : decode cX12_byCube 84 = .ok (.lstore 8, 2) := by decide +kernel
theorem dX12_byCube_86 : decode cX12_byCube 86 = .ok (.ldc2_w 324, 3) := by decide +kernel
theorem dX12_byCube_89 : decode cX12_byCube 89 = .ok (.lload 8, 2) := by decide +kernel
theorem dX12_byCube_91 : decode cX12_byCube 91 = .ok (.aload_n 0, 1) := by decide +kernel
theorem dX12_byCube_92 : decode cX12_byCube 92 = .ok (.getfield 163, 3) := by decide +kernel
theorem dX12_byCube_95 : decode cX12_byCube 95 = .ok (.iload_n 1, 1) := by decide +kernel
theorem dX12_byCube_96 : decode cX12_byCube 96 = .ok (.iaload, 1) := by decide +kernel
theorem dX12_byCube_97 : decode cX12_byCube 97 = .ok (.i2l, 1) := by decide +kernel
theorem dX12_byCube_98 : decode cX12_byCube 98 = .ok (.lsub, 1) := by decide +kernel
theorem dX12_byCube_99 : decode cX12_byCube 99 = .ok (.lmul, 1) := by decide +kernel
theorem dX12_byCube_100 : decode cX12_byCube 100 = .ok (.aload_n 0, 1) := by decide +kernel
theorem dX12_byCube_101 : decode cX12_byCube 101 = .ok (.getfield 163, 3) := by decide +kernel
theorem dX12_byCube_104 : decode cX12_byCube 104 = .ok (.iload_n 1, 1) := by decide +kernel
theorem dX12_byCube_105 : decode cX12_byCube 105 = .ok (.iaload, 1) := by decide +kernel
theorem dX12_byCube_106 : decode cX12_byCube 106 = .ok (.i2l, 1) := by decide +kernel
theorem dX12_byCube_107 : decode cX12_byCube 107 = .ok (.ldiv, 1) := by decide +kernel
theorem dX12_byCube_108 : decode cX12_byCube 108 = .ok (.lstore 10, 2) := by decide +kernel
theorem dX12_byCube_110 : decode cX12_byCube 110 = .ok (.lload 10, 2) := by decide +kernel
theorem dX12_byCube_112 : decode cX12_byCube 112 = .ok (.lconst 1, 1) := by decide +kernel
theorem dX12_byCube_113 : decode cX12_byCube 113 = .ok (.lcmp, 1) := by decide +kernel
theorem dX12_byCube_114 : decode cX12_byCube 114 = .ok (.ifCond .ge 7, 3) := by decide +kernel
theorem dX12_byCube_117 : decode cX12_byCube 117 = .ok (.iconst 1, 1) := by decide +kernel
theorem dX12_byCube_118 : decode cX12_byCube 118 = .ok (.goto 6, 3) := by decide +kernel
theorem dX12_byCube_121 : decode cX12_byCube 121 = .ok (.lload 10, 2) := by decide +kernel
theorem dX12_byCube_123 : decode cX12_byCube 123 = .ok (.l2i, 1) := by decide +kernel
theorem dX12_byCube_124 : decode cX12_byCube 124 = .ok (.ireturn, 1) := by decide +kernel
theorem dX12_grows_0 : decode cX12_grows 0 = .ok (.aload_n 0, 1) := by decide +kernel
theorem dX12_grows_1 : decode cX12_grows 1 = .ok (.getfield 124, 3) := by decide +kernel
theorem dX12_grows_4 : decode cX12_grows 4 = .ok (.iload_n 1, 1) := by decide +kernel
theorem dX12_grows_5 : decode cX12_grows 5 = .ok (.iaload, 1) := by decide +kernel
theorem dX12_grows_6 : decode cX12_grows 6 = .ok (.istore_n 2, 1) := by decide +kernel
theorem dX12_grows_7 : decode cX12_grows 7 = .ok (.aload_n 0, 1) := by decide +kernel
theorem dX12_grows_8 : decode cX12_grows 8 = .ok (.getfield 202, 3) := by decide +kernel
theorem dX12_grows_11 : decode cX12_grows 11 = .ok (.iload_n 2, 1) := by decide +kernel
theorem dX12_grows_12 : decode cX12_grows 12 = .ok (.dup2, 1) := by decide +kernel
theorem dX12_grows_13 : decode cX12_grows 13 = .ok (.iaload, 1) := by decide +kernel
theorem dX12_grows_14 : decode cX12_grows 14 = .ok (.iconst 1, 1) := by decide +kernel
theorem dX12_grows_15 : decode cX12_grows 15 = .ok (.iadd, 1) := by decide +kernel
theorem dX12_grows_16 : decode cX12_grows 16 = .ok (.iastore, 1) := by decide +kernel
theorem dX12_grows_17 : decode cX12_grows 17 = .ok (.aload_n 0, 1) := by decide +kernel
theorem dX12_grows_18 : decode cX12_grows 18 = .ok (.getfield 169, 3) := by decide +kernel
theorem dX12_grows_21 : decode cX12_grows 21 = .ok (.iload_n 2, 1) := by decide +kernel
theorem dX12_grows_22 : decode cX12_grows 22 = .ok (.iaload, 1) := by decide +kernel
theorem dX12_grows_23 : decode cX12_grows 23 = .ok (.iconst 2, 1) := by decide +kernel
theorem dX12_grows_24 : decode cX12_grows 24 = .ok (.if_icmp .ne 129, 3) := by decide +kernel
theorem dX12_grows_27 : decode cX12_grows 27 = .ok (.bipush 16, 2) := by decide +kernel
theorem dX12_grows_29 : decode cX12_grows 29 = .ok (.aload_n 0, 1) := by decide +kernel
theorem dX12_grows_30 : decode cX12_grows 30 = .ok (.getfield 202, 3) := by decide +kernel
theorem dX12_grows_33 : decode cX12_grows 33 = .ok (.iload_n 2, 1) := by decide +kernel
theorem dX12_grows_34 : decode cX12_grows 34 = .ok (.iaload, 1) := by decide +kernel
theorem dX12_grows_35 : decode cX12_grows 35 = .ok (.aload_n 0, 1) := by decide +kernel
theorem dX12_grows_36 : decode cX12_grows 36 = .ok (.getfield 160, 3) := by decide +kernel
theorem dX12_grows_39 : decode cX12_grows 39 = .ok (.iload_n 1, 1) := by decide +kernel
theorem dX12_grows_40 : decode cX12_grows 40 = .ok (.iaload, 1) := by decide +kernel
theorem dX12_grows_41 : decode cX12_grows 41 = .ok (.isub, 1) := by decide +kernel
theorem dX12_grows_42 : decode cX12_grows 42 = .ok (.imul, 1) := by decide +kernel
theorem dX12_grows_43 : decode cX12_grows 43 = .ok (.iconst 1, 1) := by decide +kernel
theorem dX12_grows_44 : decode cX12_grows 44 = .ok (.aload_n 0, 1) := by decide +kernel
theorem dX12_grows_45 : decode cX12_grows 45 = .ok (.getfield 246, 3) := by decide +kernel
theorem dX12_grows_48 : decode cX12_grows 48 = .ok (.aload_n 0, 1) := by decide +kernel
theorem dX12_grows_49 : decode cX12_grows 49 = .ok (.getfield 127, 3) := by decide +kernel
theorem dX12_grows_52 : decode cX12_grows 52 = .ok (.iload_n 1, 1) := by decide +kernel
theorem dX12_grows_53 : decode cX12_grows 53 = .ok (.iaload, 1) := by decide +kernel
theorem dX12_grows_54 : decode cX12_grows 54 = .ok (.isub, 1) := by decide +kernel
theorem dX12_grows_55 : decode cX12_grows 55 = .ok (.invokestatic 288, 3) := by decide +kernel
theorem dX12_grows_58 : decode cX12_grows 58 = .ok (.idiv, 1) := by decide +kernel
theorem dX12_grows_59 : decode cX12_grows 59 = .ok (.istore_n 3, 1) := by decide +kernel
theorem dX12_grows_60 : decode cX12_grows 60 = .ok (.aload_n 0, 1) := by decide +kernel
theorem dX12_grows_61 : decode cX12_grows 61 = .ok (.getfield 205, 3) := by decide +kernel
theorem dX12_grows_64 : decode cX12_grows 64 = .ok (.bipush 8, 2) := by decide +kernel
theorem dX12_grows_66 : decode cX12_grows 66 = .ok (.iload_n 2, 1) := by decide +kernel
theorem dX12_grows_67 : decode cX12_grows 67 = .ok (.imul, 1) := by decide +kernel
theorem dX12_grows_68 : decode cX12_grows 68 = .ok (.aload_n 0, 1) := by decide +kernel
theorem dX12_grows_69 : decode cX12_grows 69 = .ok (.getfield 208, 3) := by decide +kernel
theorem dX12_grows_72 : decode cX12_grows 72 = .ok (.iload_n 2, 1) := by decide +kernel
theorem dX12_grows_73 : decode cX12_grows 73 = .ok (.iaload, 1) := by decide +kernel
theorem dX12_grows_74 : decode cX12_grows 74 = .ok (.bipush 8, 2) := by decide +kernel
theorem dX12_grows_76 : decode cX12_grows 76 = .ok (.irem, 1) := by decide +kernel
theorem dX12_grows_77 : decode cX12_grows 77 = .ok (.iadd, 1) := by decide +kernel
theorem dX12_grows_78 : decode cX12_grows 78 = .ok (.iload_n 3, 1) := by decide +kernel
theorem dX12_grows_79 : decode cX12_grows 79 = .ok (.iastore, 1) := by decide +kernel
theorem dX12_grows_80 : decode cX12_grows 80 = .ok (.aload_n 0, 1) := by decide +kernel
theorem dX12_grows_81 : decode cX12_grows 81 = .ok (.getfield 208, 3) := by decide +kernel
theorem dX12_grows_84 : decode cX12_grows 84 = .ok (.iload_n 2, 1) := by decide +kernel
theorem dX12_grows_85 : decode cX12_grows 85 = .ok (.dup2, 1) := by decide +kernel
theorem dX12_grows_86 : decode cX12_grows 86 = .ok (.iaload, 1) := by decide +kernel
theorem dX12_grows_87 : decode cX12_grows 87 = .ok (.iconst 1, 1) := by decide +kernel
theorem dX12_grows_88 : decode cX12_grows 88 = .ok (.iadd, 1) := by decide +kernel
theorem dX12_grows_89 : decode cX12_grows 89 = .ok (.iastore, 1) := by decide +kernel
theorem dX12_grows_90 : decode cX12_grows 90 = .ok (.iconst 0, 1) := by decide +kernel
theorem dX12_grows_91 : decode cX12_grows 91 = .ok (.istore 4, 2) := by decide +kernel
theorem dX12_grows_93 : decode cX12_grows 93 = .ok (.iconst 0, 1) := by decide +kernel
theorem dX12_grows_94 : decode cX12_grows 94 = .ok (.istore 5, 2) := by decide +kernel
theorem dX12_grows_96 : decode cX12_grows 96 = .ok (.iload 5, 2) := by decide +kernel
theorem dX12_grows_98 : decode cX12_grows 98 = .ok (.bipush 8, 2) := by decide +kernel
theorem dX12_grows_100 : decode cX12_grows 100 = .ok (.if_icmp .ge 28, 3) := by decide +kernel
theorem dX12_grows_103 : decode cX12_grows 103 = .ok (.iload 4, 2) := by decide +kernel
theorem dX12_grows_105 : decode cX12_grows 105 = .ok (.aload_n 0, 1) := by decide +kernel
theorem dX12_grows_106 : decode cX12_grows 106 = .ok (.getfield 205, 3) := by decide +kernel
theorem dX12_grows_109 : decode cX12_grows 109 = .ok (.bipush 8, 2) := by decide +kernel
theorem dX12_grows_111 : decode cX12_grows 111 = .ok (.iload_n 2, 1) := by decide +kernel
theorem dX12_grows_112 : decode cX12_grows 112 = .ok (.imul, 1) := by decide +kernel
theorem dX12_grows_113 : decode cX12_grows 113 = .ok (.iload 5, 2) := by decide +kernel
theorem dX12_grows_115 : decode cX12_grows 115 = .ok (.iadd, 1) := by decide +kernel
theorem dX12_grows_116 : decode cX12_grows 116 = .ok (.iaload, 1) := by decide +kernel
theorem dX12_grows_117 : decode cX12_grows 117 = .ok (.invokestatic 288, 3) := by decide +kernel
theorem dX12_grows_120 : decode cX12_grows 120 = .ok (.istore 4, 2) := by decide +kernel
theorem dX12_grows_122 : decode cX12_grows 122 = .ok (.iinc 5 1, 3) := by decide +kernel
theorem dX12_grows_125 : decode cX12_grows 125 = .ok (.goto (-29), 3) := by decide +kernel
theorem dX12_grows_128 : decode cX12_grows 128 = .ok (.aload_n 0, 1) := by decide +kernel
theorem dX12_grows_129 : decode cX12_grows 129 = .ok (.getfield 163, 3) := by decide +kernel
theorem dX12_grows_132 : decode cX12_grows 132 = .ok (.iload_n 2, 1) := by decide +kernel
theorem dX12_grows_133 : decode cX12_grows 133 = .ok (.bipush 64, 2) := by decide +kernel
theorem dX12_grows_135 : decode cX12_grows 135 = .ok (.iconst 2, 1) := by decide +kernel
theorem dX12_grows_136 : decode cX12_grows 136 = .ok (.iload 4, 2) := by decide +kernel
theorem dX12_grows_138 : decode cX12_grows 138 = .ok (.imul, 1) := by decide +kernel
theorem dX12_grows_139 : decode cX12_grows 139 = .ok (.aload_n 0, 1) := by decide +kernel
theorem dX12_grows_140 : decode cX12_grows 140 = .ok (.getfield 178, 3) := by decide +kernel
theorem dX12_grows_143 : decode cX12_grows 143 = .ok (.iload_n 2, 1) := by decide +kernel
theorem dX12_grows_144 : decode cX12_grows 144 = .ok (.iaload, 1) := by decide +kernel
theorem dX12_grows_145 : decode cX12_grows 145 = .ok (.imul, 1) := by decide +kernel
theorem dX12_grows_146 : decode cX12_grows 146 = .ok (.invokestatic 288, 3) := by decide +kernel
theorem dX12_grows_149 : decode cX12_grows 149 = .ok (.iastore, 1) := by decide +kernel
theorem dX12_grows_150 : decode cX12_grows 150 = .ok (.goto 72, 3) := by decide +kernel
theorem dX12_grows_153 : decode cX12_grows 153 = .ok (.aload_n 0, 1) := by decide +kernel
theorem dX12_grows_154 : decode cX12_grows 154 = .ok (.getfield 163, 3) := by decide +kernel
theorem dX12_grows_157 : decode cX12_grows 157 = .ok (.iload_n 2, 1) := by decide +kernel
theorem dX12_grows_158 : decode cX12_grows 158 = .ok (.iaload, 1) := by decide +kernel
theorem dX12_grows_159 : decode cX12_grows 159 = .ok (.aload_n 0, 1) := by decide +kernel
theorem dX12_grows_160 : decode cX12_grows 160 = .ok (.getfield 166, 3) := by decide +kernel
theorem dX12_grows_163 : decode cX12_grows 163 = .ok (.iload_n 2, 1) := by decide +kernel
theorem dX12_grows_164 : decode cX12_grows 164 = .ok (.iaload, 1) := by decide +kernel
theorem dX12_grows_165 : decode cX12_grows 165 = .ok (.if_icmp .ge 17, 3) := by decide +kernel
theorem dX12_grows_168 : decode cX12_grows 168 = .ok (.aload_n 0, 1) := by decide +kernel
theorem dX12_grows_169 : decode cX12_grows 169 = .ok (.getfield 163, 3) := by decide +kernel
theorem dX12_grows_172 : decode cX12_grows 172 = .ok (.iload_n 2, 1) := by decide +kernel
theorem dX12_grows_173 : decode cX12_grows 173 = .ok (.dup2, 1) := by decide +kernel
theorem dX12_grows_174 : decode cX12_grows 174 = .ok (.iaload, 1) := by decide +kernel
theorem dX12_grows_175 : decode cX12_grows 175 = .ok (.bipush 16, 2) := by decide +kernel
theorem dX12_grows_177 : decode cX12_grows 177 = .ok (.iadd, 1) := by decide +kernel
theorem dX12_grows_178 : decode cX12_grows 178 = .ok (.iastore, 1) := by decide +kernel
theorem dX12_grows_179 : decode cX12_grows 179 = .ok (.goto 43, 3) := by decide +kernel
theorem dX12_grows_182 : decode cX12_grows 182 = .ok (.aload_n 0, 1) := by decide +kernel
theorem dX12_grows_183 : decode cX12_grows 183 = .ok (.getfield 163, 3) := by decide +kernel
theorem dX12_grows_186 : decode cX12_grows 186 = .ok (.iload_n 2, 1) := by decide +kernel
theorem dX12_grows_187 : decode cX12_grows 187 = .ok (.dup2, 1) := by decide +kernel
theorem dX12_grows_188 : decode cX12_grows 188 = .ok (.iaload, 1) := by decide +kernel
theorem dX12_grows_189 : decode cX12_grows 189 = .ok (.aload_n 0, 1) := by decide +kernel
theorem dX12_grows_190 : decode cX12_grows 190 = .ok (.getfield 169, 3) := by decide +kernel
theorem dX12_grows_193 : decode cX12_grows 193 = .ok (.iload_n 2, 1) := by decide +kernel
theorem dX12_grows_194 : decode cX12_grows 194 = .ok (.iaload, 1) := by decide +kernel
theorem dX12_grows_195 : decode cX12_grows 195 = .ok (.ifCond .ne 20, 3) := by decide +kernel
theorem dX12_grows_198 : decode cX12_grows 198 = .ok (.iconst 1, 1) := by decide +kernel
theorem dX12_grows_199 : decode cX12_grows 199 = .ok (.sipush 256, 3) := by decide +kernel
theorem dX12_grows_202 : decode cX12_grows 202 = .ok (.aload_n 0, 1) := by decide +kernel
theorem dX12_grows_203 : decode cX12_grows 203 = .ok (.getfield 163, 3) := by decide +kernel
theorem dX12_grows_206 : decode cX12_grows 206 = .ok (.iload_n 2, 1) := by decide +kernel
theorem dX12_grows_207 : decode cX12_grows 207 = .ok (.iaload, 1) := by decide +kernel
theorem dX12_grows_208 : decode cX12_grows 208 = .ok (.idiv, 1) := by decide +kernel
theorem dX12_grows_209 : decode cX12_grows 209 = .ok (.invokestatic 288, 3) := by decide +kernel
theorem dX12_grows_212 : decode cX12_grows 212 = .ok (.goto 8, 3) := by decide +kernel
theorem dX12_grows_215 : decode cX12_grows 215 = .ok (.aload_n 0, 1) := by decide +kernel
theorem dX12_grows_216 : decode cX12_grows 216 = .ok (.iload_n 2, 1) := by decide +kernel
theorem dX12_grows_217 : decode cX12_grows 217 = .ok (.invokevirtual 326, 3) := by decide +kernel
theorem dX12_grows_220 : decode cX12_grows 220 = .ok (.iadd, 1) := by decide +kernel
theorem dX12_grows_221 : decode cX12_grows 221 = .ok (.iastore, 1) := by decide +kernel
theorem dX12_grows_222 : decode cX12_grows 222 = .ok (.return_, 1) := by decide +kernel
theorem dX12_harms_0 : decode cX12_harms 0 = .ok (.iload_n 2, 1) := by decide +kernel
theorem dX12_harms_1 : decode cX12_harms 1 = .ok (.aload_n 0, 1) := by decide +kernel
theorem dX12_harms_2 : decode cX12_harms 2 = .ok (.getfield 211, 3) := by decide +kernel
theorem dX12_harms_5 : decode cX12_harms 5 = .ok (.iload_n 1, 1) := by decide +kernel
theorem dX12_harms_6 : decode cX12_harms 6 = .ok (.iaload, 1) := by decide +kernel
theorem dX12_harms_7 : decode cX12_harms 7 = .ok (.if_icmp .ge 4, 3) := by decide +kernel
theorem dX12_harms_10 : decode cX12_harms 10 = .ok (.return_, 1) := by decide +kernel
theorem dX12_harms_11 : decode cX12_harms 11 = .ok (.aload_n 0, 1) := by decide +kernel
theorem dX12_harms_12 : decode cX12_harms 12 = .ok (.getfield 229, 3) := by decide +kernel
theorem dX12_harms_15 : decode cX12_harms 15 = .ok (.iconst 5, 1) := by decide +kernel
theorem dX12_harms_16 : decode cX12_harms 16 = .ok (.dup2, 1) := by decide +kernel
theorem dX12_harms_17 : decode cX12_harms 17 = .ok (.iaload, 1) := by decide +kernel
theorem dX12_harms_18 : decode cX12_harms 18 = .ok (.iconst 1, 1) := by decide +kernel
theorem dX12_harms_19 : decode cX12_harms 19 = .ok (.iadd, 1) := by decide +kernel
theorem dX12_harms_20 : decode cX12_harms 20 = .ok (.iastore, 1) := by decide +kernel
theorem dX12_harms_21 : decode cX12_harms 21 = .ok (.aload_n 0, 1) := by decide +kernel
theorem dX12_harms_22 : decode cX12_harms 22 = .ok (.getfield 211, 3) := by decide +kernel
theorem dX12_harms_25 : decode cX12_harms 25 = .ok (.iload_n 1, 1) := by decide +kernel
theorem dX12_harms_26 : decode cX12_harms 26 = .ok (.aload_n 0, 1) := by decide +kernel
theorem dX12_harms_27 : decode cX12_harms 27 = .ok (.getfield 313, 3) := by decide +kernel
theorem dX12_harms_30 : decode cX12_harms 30 = .ok (.iastore, 1) := by decide +kernel
theorem dX12_harms_31 : decode cX12_harms 31 = .ok (.aload_n 0, 1) := by decide +kernel
theorem dX12_harms_32 : decode cX12_harms 32 = .ok (.getfield 214, 3) := by decide +kernel
theorem dX12_harms_35 : decode cX12_harms 35 = .ok (.iload_n 1, 1) := by decide +kernel
theorem dX12_harms_36 : decode cX12_harms 36 = .ok (.aload_n 0, 1) := by decide +kernel
theorem dX12_harms_37 : decode cX12_harms 37 = .ok (.getfield 246, 3) := by decide +kernel
theorem dX12_harms_40 : decode cX12_harms 40 = .ok (.iastore, 1) := by decide +kernel
theorem dX12_harms_41 : decode cX12_harms 41 = .ok (.aload_n 0, 1) := by decide +kernel
theorem dX12_harms_42 : decode cX12_harms 42 = .ok (.getfield 217, 3) := by decide +kernel
theorem dX12_harms_45 : decode cX12_harms 45 = .ok (.iload_n 1, 1) := by decide +kernel
theorem dX12_harms_46 : decode cX12_harms 46 = .ok (.iload_n 3, 1) := by decide +kernel
theorem dX12_harms_47 : decode cX12_harms 47 = .ok (.ifCond .eq 7, 3) := by decide +kernel
theorem dX12_harms_50 : decode cX12_harms 50 = .ok (.iload_n 2, 1) := by decide +kernel
theorem dX12_harms_51 : decode cX12_harms 51 = .ok (.goto 4, 3) := by decide +kernel
theorem dX12_harms_54 : decode cX12_harms 54 = .ok (.iconst (-1), 1) := by decide +kernel
theorem dX12_harms_55 : decode cX12_harms 55 = .ok (.iastore, 1) := by decide +kernel
theorem dX12_harms_56 : decode cX12_harms 56 = .ok (.aload_n 0, 1) := by decide +kernel
theorem dX12_harms_57 : decode cX12_harms 57 = .ok (.getfield 220, 3) := by decide +kernel
theorem dX12_harms_60 : decode cX12_harms 60 = .ok (.iload_n 1, 1) := by decide +kernel
theorem dX12_harms_61 : decode cX12_harms 61 = .ok (.aload_n 0, 1) := by decide +kernel
theorem dX12_harms_62 : decode cX12_harms 62 = .ok (.getfield 163, 3) := by decide +kernel
theorem dX12_harms_65 : decode cX12_harms 65 = .ok (.iload_n 1, 1) := by decide +kernel
theorem dX12_harms_66 : decode cX12_harms 66 = .ok (.iaload, 1) := by decide +kernel
theorem dX12_harms_67 : decode cX12_harms 67 = .ok (.iastore, 1) := by decide +kernel
theorem dX12_harms_68 : decode cX12_harms 68 = .ok (.aload_n 0, 1) := by decide +kernel
theorem dX12_harms_69 : decode cX12_harms 69 = .ok (.getfield 223, 3) := by decide +kernel
theorem dX12_harms_72 : decode cX12_harms 72 = .ok (.iload_n 1, 1) := by decide +kernel
theorem dX12_harms_73 : decode cX12_harms 73 = .ok (.aload_n 0, 1) := by decide +kernel
theorem dX12_harms_74 : decode cX12_harms 74 = .ok (.getfield 166, 3) := by decide +kernel
theorem dX12_harms_77 : decode cX12_harms 77 = .ok (.iload_n 1, 1) := by decide +kernel
theorem dX12_harms_78 : decode cX12_harms 78 = .ok (.iaload, 1) := by decide +kernel
theorem dX12_harms_79 : decode cX12_harms 79 = .ok (.iastore, 1) := by decide +kernel
theorem dX12_harms_80 : decode cX12_harms 80 = .ok (.aload_n 0, 1) := by decide +kernel
theorem dX12_harms_81 : decode cX12_harms 81 = .ok (.getfield 169, 3) := by decide +kernel
theorem dX12_harms_84 : decode cX12_harms 84 = .ok (.iload_n 1, 1) := by decide +kernel
theorem dX12_harms_85 : decode cX12_harms 85 = .ok (.iaload, 1) := by decide +kernel
theorem dX12_harms_86 : decode cX12_harms 86 = .ok (.iconst 2, 1) := by decide +kernel
theorem dX12_harms_87 : decode cX12_harms 87 = .ok (.if_icmp .ge 58, 3) := by decide +kernel
theorem dX12_harms_90 : decode cX12_harms 90 = .ok (.aload_n 0, 1) := by decide +kernel
theorem dX12_harms_91 : decode cX12_harms 91 = .ok (.getfield 163, 3) := by decide +kernel
theorem dX12_harms_94 : decode cX12_harms 94 = .ok (.iload_n 1, 1) := by decide +kernel
theorem dX12_harms_95 : decode cX12_harms 95 = .ok (.bipush 32, 2) := by decide +kernel
theorem dX12_harms_97 : decode cX12_harms 97 = .ok (.aload_n 0, 1) := by decide +kernel
theorem dX12_harms_98 : decode cX12_harms 98 = .ok (.getfield 169, 3) := by decide +kernel
theorem dX12_harms_101 : decode cX12_harms 101 = .ok (.iload_n 1, 1) := by decide +kernel
theorem dX12_harms_102 : decode cX12_harms 102 = .ok (.iaload, 1) := by decide +kernel
theorem dX12_harms_103 : decode cX12_harms 103 = .ok (.ifCond .ne 14, 3) := by decide +kernel
theorem dX12_harms_106 : decode cX12_harms 106 = .ok (.aload_n 0, 1) := by decide +kernel
theorem dX12_harms_107 : decode cX12_harms 107 = .ok (.getfield 163, 3) := by decide +kernel
theorem dX12_harms_110 : decode cX12_harms 110 = .ok (.iload_n 1, 1) := by decide +kernel
theorem dX12_harms_111 : decode cX12_harms 111 = .ok (.iaload, 1) := by decide +kernel
theorem dX12_harms_112 : decode cX12_harms 112 = .ok (.iconst 2, 1) := by decide +kernel
theorem dX12_harms_113 : decode cX12_harms 113 = .ok (.idiv, 1) := by decide +kernel
theorem dX12_harms_114 : decode cX12_harms 114 = .ok (.goto 15, 3) := by decide +kernel
theorem dX12_harms_117 : decode cX12_harms 117 = .ok (.bipush 7, 2) := by decide +kernel
theorem dX12_harms_119 : decode cX12_harms 119 = .ok (.aload_n 0, 1) := by decide +kernel
theorem dX12_harms_120 : decode cX12_harms 120 = .ok (.getfield 163, 3) := by decide +kernel
theorem dX12_harms_123 : decode cX12_harms 123 = .ok (.iload_n 1, 1) := by decide +kernel
theorem dX12_harms_124 : decode cX12_harms 124 = .ok (.iaload, 1) := by decide +kernel
theorem dX12_harms_125 : decode cX12_harms 125 = .ok (.imul, 1) := by decide +kernel
theorem dX12_harms_126 : decode cX12_harms 126 = .ok (.bipush 10, 2) := by decide +kernel
theorem dX12_harms_128 : decode cX12_harms 128 = .ok (.idiv, 1) := by decide +kernel
theorem dX12_harms_129 : decode cX12_harms 129 = .ok (.invokestatic 288, 3) := by decide +kernel
theorem dX12_harms_132 : decode cX12_harms 132 = .ok (.iastore, 1) := by decide +kernel
theorem dX12_harms_133 : decode cX12_harms 133 = .ok (.aload_n 0, 1) := by decide +kernel
theorem dX12_harms_134 : decode cX12_harms 134 = .ok (.getfield 166, 3) := by decide +kernel
theorem dX12_harms_137 : decode cX12_harms 137 = .ok (.iload_n 1, 1) := by decide +kernel
theorem dX12_harms_138 : decode cX12_harms 138 = .ok (.aload_n 0, 1) := by decide +kernel
theorem dX12_harms_139 : decode cX12_harms 139 = .ok (.getfield 163, 3) := by decide +kernel
theorem dX12_harms_142 : decode cX12_harms 142 = .ok (.iload_n 1, 1) := by decide +kernel
theorem dX12_harms_143 : decode cX12_harms 143 = .ok (.iaload, 1) := by decide +kernel
theorem dX12_harms_144 : decode cX12_harms 144 = .ok (.iastore, 1) := by decide +kernel
theorem dX12_harms_145 : decode cX12_harms 145 = .ok (.return_, 1) := by decide +kernel
theorem dX12_lands_0 : decode cX12_lands 0 = .ok (.aload_n 0, 1) := by decide +kernel
theorem dX12_lands_1 : decode cX12_lands 1 = .ok (.getfield 139, 3) := by decide +kernel
theorem dX12_lands_4 : decode cX12_lands 4 = .ok (.iload_n 1, 1) := by decide +kernel
theorem dX12_lands_5 : decode cX12_lands 5 = .ok (.iload_n 2, 1) := by decide +kernel
theorem dX12_lands_6 : decode cX12_lands 6 = .ok (.iastore, 1) := by decide +kernel
theorem dX12_lands_7 : decode cX12_lands 7 = .ok (.iconst 0, 1) := by decide +kernel
theorem dX12_lands_8 : decode cX12_lands 8 = .ok (.istore_n 3, 1) := by decide +kernel
theorem dX12_lands_9 : decode cX12_lands 9 = .ok (.iload_n 3, 1) := by decide +kernel
theorem dX12_lands_10 : decode cX12_lands 10 = .ok (.aload_n 0, 1) := by decide +kernel
theorem dX12_lands_11 : decode cX12_lands 11 = .ok (.getfield 136, 3) := by decide +kernel
theorem dX12_lands_14 : decode cX12_lands 14 = .ok (.iload_n 1, 1) := by decide +kernel
theorem dX12_lands_15 : decode cX12_lands 15 = .ok (.iaload, 1) := by decide +kernel
theorem dX12_lands_16 : decode cX12_lands 16 = .ok (.if_icmp .ge 37, 3) := by decide +kernel
theorem dX12_lands_19 : decode cX12_lands 19 = .ok (.aload_n 0, 1) := by decide +kernel
theorem dX12_lands_20 : decode cX12_lands 20 = .ok (.getfield 121, 3) := by decide +kernel
theorem dX12_lands_23 : decode cX12_lands 23 = .ok (.sipush 200, 3) := by decide +kernel
theorem dX12_lands_26 : decode cX12_lands 26 = .ok (.aload_n 0, 1) := by decide +kernel
theorem dX12_lands_27 : decode cX12_lands 27 = .ok (.getfield 130, 3) := by decide +kernel
theorem dX12_lands_30 : decode cX12_lands 30 = .ok (.iload_n 1, 1) := by decide +kernel
theorem dX12_lands_31 : decode cX12_lands 31 = .ok (.iaload, 1) := by decide +kernel
theorem dX12_lands_32 : decode cX12_lands 32 = .ok (.imul, 1) := by decide +kernel
theorem dX12_lands_33 : decode cX12_lands 33 = .ok (.aload_n 0, 1) := by decide +kernel
theorem dX12_lands_34 : decode cX12_lands 34 = .ok (.getfield 133, 3) := by decide +kernel
theorem dX12_lands_37 : decode cX12_lands 37 = .ok (.iload_n 1, 1) := by decide +kernel
theorem dX12_lands_38 : decode cX12_lands 38 = .ok (.iaload, 1) := by decide +kernel
theorem dX12_lands_39 : decode cX12_lands 39 = .ok (.iadd, 1) := by decide +kernel
theorem dX12_lands_40 : decode cX12_lands 40 = .ok (.iload_n 3, 1) := by decide +kernel
theorem dX12_lands_41 : decode cX12_lands 41 = .ok (.iadd, 1) := by decide +kernel
theorem dX12_lands_42 : decode cX12_lands 42 = .ok (.dup2, 1) := by decide +kernel
theorem dX12_lands_43 : decode cX12_lands 43 = .ok (.iaload, 1) := by decide +kernel
theorem dX12_lands_44 : decode cX12_lands 44 = .ok (.iconst 1, 1) := by decide +kernel
theorem dX12_lands_45 : decode cX12_lands 45 = .ok (.isub, 1) := by decide +kernel
theorem dX12_lands_46 : decode cX12_lands 46 = .ok (.iastore, 1) := by decide +kernel
theorem dX12_lands_47 : decode cX12_lands 47 = .ok (.iinc 3 1, 3) := by decide +kernel
theorem dX12_lands_50 : decode cX12_lands 50 = .ok (.goto (-41), 3) := by decide +kernel
theorem dX12_lands_53 : decode cX12_lands 53 = .ok (.return_, 1) := by decide +kernel
theorem dX12_loses_0 : decode cX12_loses 0 = .ok (.aload_n 0, 1) := by decide +kernel
theorem dX12_loses_1 : decode cX12_loses 1 = .ok (.iload_n 1, 1) := by decide +kernel
theorem dX12_loses_2 : decode cX12_loses 2 = .ok (.iconst 2, 1) := by decide +kernel
theorem dX12_loses_3 : decode cX12_loses 3 = .ok (.invokevirtual 329, 3) := by decide +kernel
theorem dX12_loses_6 : decode cX12_loses 6 = .ok (.aload_n 0, 1) := by decide +kernel
theorem dX12_loses_7 : decode cX12_loses 7 = .ok (.getfield 229, 3) := by decide +kernel
theorem dX12_loses_10 : decode cX12_loses 10 = .ok (.iconst 0, 1) := by decide +kernel
theorem dX12_loses_11 : decode cX12_loses 11 = .ok (.dup2, 1) := by decide +kernel
theorem dX12_loses_12 : decode cX12_loses 12 = .ok (.iaload, 1) := by decide +kernel
theorem dX12_loses_13 : decode cX12_loses 13 = .ok (.iconst 1, 1) := by decide +kernel
theorem dX12_loses_14 : decode cX12_loses 14 = .ok (.iadd, 1) := by decide +kernel
theorem dX12_loses_15 : decode cX12_loses 15 = .ok (.iastore, 1) := by decide +kernel
theorem dX12_loses_16 : decode cX12_loses 16 = .ok (.aload_n 0, 1) := by decide +kernel
theorem dX12_loses_17 : decode cX12_loses 17 = .ok (.aload_n 0, 1) := by decide +kernel
theorem dX12_loses_18 : decode cX12_loses 18 = .ok (.getfield 124, 3) := by decide +kernel
theorem dX12_loses_21 : decode cX12_loses 21 = .ok (.iload_n 1, 1) := by decide +kernel
theorem dX12_loses_22 : decode cX12_loses 22 = .ok (.iaload, 1) := by decide +kernel
theorem dX12_loses_23 : decode cX12_loses 23 = .ok (.iload_n 1, 1) := by decide +kernel
theorem dX12_loses_24 : decode cX12_loses 24 = .ok (.iconst 1, 1) := by decide +kernel
theorem dX12_loses_25 : decode cX12_loses 25 = .ok (.invokevirtual 332, 3) := by decide +kernel
theorem dX12_loses_28 : decode cX12_loses 28 = .ok (.return_, 1) := by decide +kernel
theorem dX12_losesByOrder_0 : decode cX12_losesByOrder 0 = .ok (.iconst 0, 1) := by decide +kernel
theorem dX12_losesByOrder_1 : decode cX12_losesByOrder 1 = .ok (.istore_n 2, 1) := by decide +kernel
theorem dX12_losesByOrder_2 : decode cX12_losesByOrder 2 = .ok (.iload_n 2, 1) := by decide +kernel
theorem dX12_losesByOrder_3 : decode cX12_losesByOrder 3 = .ok (.aload_n 0, 1) := by decide +kernel
theorem dX12_losesByOrder_4 : decode cX12_losesByOrder 4 = .ok (.getfield 313, 3) := by decide +kernel
theorem dX12_losesByOrder_7 : decode cX12_losesByOrder 7 = .ok (.if_icmp .ge 50, 3) := by decide +kernel
theorem dX12_losesByOrder_10 : decode cX12_losesByOrder 10 = .ok (.aload_n 0, 1) := by decide +kernel
theorem dX12_losesByOrder_11 : decode cX12_losesByOrder 11 = .ok (.getfield 124, 3) := by decide +kernel
theorem dX12_losesByOrder_14 : decode cX12_losesByOrder 14 = .ok (.iload_n 2, 1) := by decide +kernel
theorem dX12_losesByOrder_15 : decode cX12_losesByOrder 15 = .ok (.iaload, 1) := by decide +kernel
theorem dX12_losesByOrder_16 : decode cX12_losesByOrder 16 = .ok (.iload_n 1, 1) := by decide +kernel
theorem dX12_losesByOrder_17 : decode cX12_losesByOrder 17 = .ok (.if_icmp .ne 34, 3) := by decide +kernel
theorem dX12_losesByOrder_20 : decode cX12_losesByOrder 20 = .ok (.aload_n 0, 1) := by decide +kernel
theorem dX12_losesByOrder_21 : decode cX12_losesByOrder 21 = .ok (.getfield 139, 3) := by decide +kernel
theorem dX12_losesByOrder_24 : decode cX12_losesByOrder 24 = .ok (.iload_n 2, 1) := by decide +kernel
theorem dX12_losesByOrder_25 : decode cX12_losesByOrder 25 = .ok (.iaload, 1) := by decide +kernel
theorem dX12_losesByOrder_26 : decode cX12_losesByOrder 26 = .ok (.ifCond .ne 25, 3) := by decide +kernel
theorem dX12_losesByOrder_29 : decode cX12_losesByOrder 29 = .ok (.aload_n 0, 1) := by decide +kernel
theorem dX12_losesByOrder_30 : decode cX12_losesByOrder 30 = .ok (.getfield 193, 3) := by decide +kernel
theorem dX12_losesByOrder_33 : decode cX12_losesByOrder 33 = .ok (.iload_n 1, 1) := by decide +kernel
theorem dX12_losesByOrder_34 : decode cX12_losesByOrder 34 = .ok (.iaload, 1) := by decide +kernel
theorem dX12_losesByOrder_35 : decode cX12_losesByOrder 35 = .ok (.aload_n 0, 1) := by decide +kernel
theorem dX12_losesByOrder_36 : decode cX12_losesByOrder 36 = .ok (.getfield 157, 3) := by decide +kernel
theorem dX12_losesByOrder_39 : decode cX12_losesByOrder 39 = .ok (.iload_n 2, 1) := by decide +kernel
theorem dX12_losesByOrder_40 : decode cX12_losesByOrder 40 = .ok (.iaload, 1) := by decide +kernel
theorem dX12_losesByOrder_41 : decode cX12_losesByOrder 41 = .ok (.iconst 3, 1) := by decide +kernel
theorem dX12_losesByOrder_42 : decode cX12_losesByOrder 42 = .ok (.iadd, 1) := by decide +kernel
theorem dX12_losesByOrder_43 : decode cX12_losesByOrder 43 = .ok (.if_icmp .lt 8, 3) := by decide +kernel
theorem dX12_losesByOrder_46 : decode cX12_losesByOrder 46 = .ok (.aload_n 0, 1) := by decide +kernel
theorem dX12_losesByOrder_47 : decode cX12_losesByOrder 47 = .ok (.iload_n 2, 1) := by decide +kernel
theorem dX12_losesByOrder_48 : decode cX12_losesByOrder 48 = .ok (.invokevirtual 336, 3) := by decide +kernel
theorem dX12_losesByOrder_51 : decode cX12_losesByOrder 51 = .ok (.iinc 2 1, 3) := by decide +kernel
theorem dX12_losesByOrder_54 : decode cX12_losesByOrder 54 = .ok (.goto (-52), 3) := by decide +kernel
theorem dX12_losesByOrder_57 : decode cX12_losesByOrder 57 = .ok (.return_, 1) := by decide +kernel
theorem dX12_losesByTime_0 : decode cX12_losesByTime 0 = .ok (.iconst 0, 1) := by decide +kernel
theorem dX12_losesByTime_1 : decode cX12_losesByTime 1 = .ok (.istore_n 2, 1) := by decide +kernel
theorem dX12_losesByTime_2 : decode cX12_losesByTime 2 = .ok (.iload_n 2, 1) := by decide +kernel
theorem dX12_losesByTime_3 : decode cX12_losesByTime 3 = .ok (.aload_n 0, 1) := by decide +kernel
theorem dX12_losesByTime_4 : decode cX12_losesByTime 4 = .ok (.getfield 313, 3) := by decide +kernel
theorem dX12_losesByTime_7 : decode cX12_losesByTime 7 = .ok (.if_icmp .ge 92, 3) := by decide +kernel
theorem dX12_losesByTime_10 : decode cX12_losesByTime 10 = .ok (.iconst 1, 1) := by decide +kernel
theorem dX12_losesByTime_11 : decode cX12_losesByTime 11 = .ok (.bipush 9, 2) := by decide +kernel
theorem dX12_losesByTime_13 : decode cX12_losesByTime 13 = .ok (.aload_n 0, 1) := by decide +kernel
theorem dX12_losesByTime_14 : decode cX12_losesByTime 14 = .ok (.getfield 172, 3) := by decide +kernel
theorem dX12_losesByTime_17 : decode cX12_losesByTime 17 = .ok (.iload_n 1, 1) := by decide +kernel
theorem dX12_losesByTime_18 : decode cX12_losesByTime 18 = .ok (.iaload, 1) := by decide +kernel
theorem dX12_losesByTime_19 : decode cX12_losesByTime 19 = .ok (.bipush 8, 2) := by decide +kernel
theorem dX12_losesByTime_21 : decode cX12_losesByTime 21 = .ok (.idiv, 1) := by decide +kernel
theorem dX12_losesByTime_22 : decode cX12_losesByTime 22 = .ok (.aload_n 0, 1) := by decide +kernel
theorem dX12_losesByTime_23 : decode cX12_losesByTime 23 = .ok (.getfield 181, 3) := by decide +kernel
theorem dX12_losesByTime_26 : decode cX12_losesByTime 26 = .ok (.iload_n 1, 1) := by decide +kernel
theorem dX12_losesByTime_27 : decode cX12_losesByTime 27 = .ok (.iaload, 1) := by decide +kernel
theorem dX12_losesByTime_28 : decode cX12_losesByTime 28 = .ok (.invokestatic 288, 3) := by decide +kernel
theorem dX12_losesByTime_31 : decode cX12_losesByTime 31 = .ok (.imul, 1) := by decide +kernel
theorem dX12_losesByTime_32 : decode cX12_losesByTime 32 = .ok (.bipush 8, 2) := by decide +kernel
theorem dX12_losesByTime_34 : decode cX12_losesByTime 34 = .ok (.idiv, 1) := by decide +kernel
theorem dX12_losesByTime_35 : decode cX12_losesByTime 35 = .ok (.invokestatic 288, 3) := by decide +kernel
theorem dX12_losesByTime_38 : decode cX12_losesByTime 38 = .ok (.istore_n 3, 1) := by decide +kernel
theorem dX12_losesByTime_39 : decode cX12_losesByTime 39 = .ok (.aload_n 0, 1) := by decide +kernel
theorem dX12_losesByTime_40 : decode cX12_losesByTime 40 = .ok (.getfield 124, 3) := by decide +kernel
theorem dX12_losesByTime_43 : decode cX12_losesByTime 43 = .ok (.iload_n 2, 1) := by decide +kernel
theorem dX12_losesByTime_44 : decode cX12_losesByTime 44 = .ok (.iaload, 1) := by decide +kernel
theorem dX12_losesByTime_45 : decode cX12_losesByTime 45 = .ok (.iload_n 1, 1) := by decide +kernel
theorem dX12_losesByTime_46 : decode cX12_losesByTime 46 = .ok (.if_icmp .ne 47, 3) := by decide +kernel
theorem dX12_losesByTime_49 : decode cX12_losesByTime 49 = .ok (.aload_n 0, 1) := by decide +kernel
theorem dX12_losesByTime_50 : decode cX12_losesByTime 50 = .ok (.getfield 139, 3) := by decide +kernel
theorem dX12_losesByTime_53 : decode cX12_losesByTime 53 = .ok (.iload_n 2, 1) := by decide +kernel
theorem dX12_losesByTime_54 : decode cX12_losesByTime 54 = .ok (.iaload, 1) := by decide +kernel
theorem dX12_losesByTime_55 : decode cX12_losesByTime 55 = .ok (.ifCond .ne 38, 3) := by decide +kernel
theorem dX12_losesByTime_58 : decode cX12_losesByTime 58 = .ok (.aload_n 0, 1) := by decide +kernel
theorem dX12_losesByTime_59 : decode cX12_losesByTime 59 = .ok (.getfield 193, 3) := by decide +kernel
theorem dX12_losesByTime_62 : decode cX12_losesByTime 62 = .ok (.iload_n 1, 1) := by decide +kernel
theorem dX12_losesByTime_63 : decode cX12_losesByTime 63 = .ok (.iaload, 1) := by decide +kernel
theorem dX12_losesByTime_64 : decode cX12_losesByTime 64 = .ok (.aload_n 0, 1) := by decide +kernel
theorem dX12_losesByTime_65 : decode cX12_losesByTime 65 = .ok (.getfield 157, 3) := by decide +kernel
theorem dX12_losesByTime_68 : decode cX12_losesByTime 68 = .ok (.iload_n 2, 1) := by decide +kernel
theorem dX12_losesByTime_69 : decode cX12_losesByTime 69 = .ok (.iaload, 1) := by decide +kernel
theorem dX12_losesByTime_70 : decode cX12_losesByTime 70 = .ok (.if_icmp .le 23, 3) := by decide +kernel
theorem dX12_losesByTime_73 : decode cX12_losesByTime 73 = .ok (.aload_n 0, 1) := by decide +kernel
theorem dX12_losesByTime_74 : decode cX12_losesByTime 74 = .ok (.getfield 246, 3) := by decide +kernel
theorem dX12_losesByTime_77 : decode cX12_losesByTime 77 = .ok (.aload_n 0, 1) := by decide +kernel
theorem dX12_losesByTime_78 : decode cX12_losesByTime 78 = .ok (.getfield 127, 3) := by decide +kernel
theorem dX12_losesByTime_81 : decode cX12_losesByTime 81 = .ok (.iload_n 2, 1) := by decide +kernel
theorem dX12_losesByTime_82 : decode cX12_losesByTime 82 = .ok (.iaload, 1) := by decide +kernel
theorem dX12_losesByTime_83 : decode cX12_losesByTime 83 = .ok (.isub, 1) := by decide +kernel
theorem dX12_losesByTime_84 : decode cX12_losesByTime 84 = .ok (.iload_n 3, 1) := by decide +kernel
theorem dX12_losesByTime_85 : decode cX12_losesByTime 85 = .ok (.if_icmp .lt 8, 3) := by decide +kernel
theorem dX12_losesByTime_88 : decode cX12_losesByTime 88 = .ok (.aload_n 0, 1) := by decide +kernel
theorem dX12_losesByTime_89 : decode cX12_losesByTime 89 = .ok (.iload_n 2, 1) := by decide +kernel
theorem dX12_losesByTime_90 : decode cX12_losesByTime 90 = .ok (.invokevirtual 336, 3) := by decide +kernel
theorem dX12_losesByTime_93 : decode cX12_losesByTime 93 = .ok (.iinc 2 1, 3) := by decide +kernel
theorem dX12_losesByTime_96 : decode cX12_losesByTime 96 = .ok (.goto (-94), 3) := by decide +kernel
theorem dX12_losesByTime_99 : decode cX12_losesByTime 99 = .ok (.return_, 1) := by decide +kernel
theorem dX12_hearsOf_0 : decode cX12_hearsOf 0 = .ok (.aload_n 0, 1) := by decide +kernel
theorem dX12_hearsOf_1 : decode cX12_hearsOf 1 = .ok (.getfield 124, 3) := by decide +kernel
theorem dX12_hearsOf_4 : decode cX12_hearsOf 4 = .ok (.iload_n 1, 1) := by decide +kernel
theorem dX12_hearsOf_5 : decode cX12_hearsOf 5 = .ok (.iaload, 1) := by decide +kernel
theorem dX12_hearsOf_6 : decode cX12_hearsOf 6 = .ok (.istore_n 2, 1) := by decide +kernel
theorem dX12_hearsOf_7 : decode cX12_hearsOf 7 = .ok (.aload_n 0, 1) := by decide +kernel
theorem dX12_hearsOf_8 : decode cX12_hearsOf 8 = .ok (.getfield 139, 3) := by decide +kernel
theorem dX12_hearsOf_11 : decode cX12_hearsOf 11 = .ok (.iload_n 1, 1) := by decide +kernel
theorem dX12_hearsOf_12 : decode cX12_hearsOf 12 = .ok (.iaload, 1) := by decide +kernel
theorem dX12_hearsOf_13 : decode cX12_hearsOf 13 = .ok (.ifCond .eq 14, 3) := by decide +kernel
theorem dX12_hearsOf_16 : decode cX12_hearsOf 16 = .ok (.aload_n 0, 1) := by decide +kernel
theorem dX12_hearsOf_17 : decode cX12_hearsOf 17 = .ok (.getfield 139, 3) := by decide +kernel
theorem dX12_hearsOf_20 : decode cX12_hearsOf 20 = .ok (.iload_n 1, 1) := by decide +kernel
theorem dX12_hearsOf_21 : decode cX12_hearsOf 21 = .ok (.iaload, 1) := by decide +kernel
theorem dX12_hearsOf_22 : decode cX12_hearsOf 22 = .ok (.iconst 2, 1) := by decide +kernel
theorem dX12_hearsOf_23 : decode cX12_hearsOf 23 = .ok (.if_icmp .eq 4, 3) := by decide +kernel
theorem dX12_hearsOf_26 : decode cX12_hearsOf 26 = .ok (.return_, 1) := by decide +kernel
theorem dX12_hearsOf_27 : decode cX12_hearsOf 27 = .ok (.aload_n 0, 1) := by decide +kernel
theorem dX12_hearsOf_28 : decode cX12_hearsOf 28 = .ok (.getfield 193, 3) := by decide +kernel
theorem dX12_hearsOf_31 : decode cX12_hearsOf 31 = .ok (.iload_n 2, 1) := by decide +kernel
theorem dX12_hearsOf_32 : decode cX12_hearsOf 32 = .ok (.aload_n 0, 1) := by decide +kernel
theorem dX12_hearsOf_33 : decode cX12_hearsOf 33 = .ok (.getfield 193, 3) := by decide +kernel
theorem dX12_hearsOf_36 : decode cX12_hearsOf 36 = .ok (.iload_n 2, 1) := by decide +kernel
theorem dX12_hearsOf_37 : decode cX12_hearsOf 37 = .ok (.iaload, 1) := by decide +kernel
theorem dX12_hearsOf_38 : decode cX12_hearsOf 38 = .ok (.aload_n 0, 1) := by decide +kernel
theorem dX12_hearsOf_39 : decode cX12_hearsOf 39 = .ok (.getfield 157, 3) := by decide +kernel
theorem dX12_hearsOf_42 : decode cX12_hearsOf 42 = .ok (.iload_n 1, 1) := by decide +kernel
theorem dX12_hearsOf_43 : decode cX12_hearsOf 43 = .ok (.iaload, 1) := by decide +kernel
theorem dX12_hearsOf_44 : decode cX12_hearsOf 44 = .ok (.invokestatic 288, 3) := by decide +kernel
theorem dX12_hearsOf_47 : decode cX12_hearsOf 47 = .ok (.iastore, 1) := by decide +kernel
theorem dX12_hearsOf_48 : decode cX12_hearsOf 48 = .ok (.iconst 0, 1) := by decide +kernel
theorem dX12_hearsOf_49 : decode cX12_hearsOf 49 = .ok (.istore_n 3, 1) := by decide +kernel
theorem dX12_hearsOf_50 : decode cX12_hearsOf 50 = .ok (.iload_n 3, 1) := by decide +kernel
theorem dX12_hearsOf_51 : decode cX12_hearsOf 51 = .ok (.aload_n 0, 1) := by decide +kernel
theorem dX12_hearsOf_52 : decode cX12_hearsOf 52 = .ok (.getfield 136, 3) := by decide +kernel
theorem dX12_hearsOf_55 : decode cX12_hearsOf 55 = .ok (.iload_n 1, 1) := by decide +kernel
theorem dX12_hearsOf_56 : decode cX12_hearsOf 56 = .ok (.iaload, 1) := by decide +kernel
theorem dX12_hearsOf_57 : decode cX12_hearsOf 57 = .ok (.if_icmp .ge 34, 3) := by decide +kernel
theorem dX12_hearsOf_60 : decode cX12_hearsOf 60 = .ok (.aload_n 0, 1) := by decide +kernel
theorem dX12_hearsOf_61 : decode cX12_hearsOf 61 = .ok (.getfield 118, 3) := by decide +kernel
theorem dX12_hearsOf_64 : decode cX12_hearsOf 64 = .ok (.sipush 200, 3) := by decide +kernel
theorem dX12_hearsOf_67 : decode cX12_hearsOf 67 = .ok (.aload_n 0, 1) := by decide +kernel
theorem dX12_hearsOf_68 : decode cX12_hearsOf 68 = .ok (.getfield 130, 3) := by decide +kernel
theorem dX12_hearsOf_71 : decode cX12_hearsOf 71 = .ok (.iload_n 1, 1) := by decide +kernel
theorem dX12_hearsOf_72 : decode cX12_hearsOf 72 = .ok (.iaload, 1) := by decide +kernel
theorem dX12_hearsOf_73 : decode cX12_hearsOf 73 = .ok (.imul, 1) := by decide +kernel
theorem dX12_hearsOf_74 : decode cX12_hearsOf 74 = .ok (.aload_n 0, 1) := by decide +kernel
theorem dX12_hearsOf_75 : decode cX12_hearsOf 75 = .ok (.getfield 133, 3) := by decide +kernel
theorem dX12_hearsOf_78 : decode cX12_hearsOf 78 = .ok (.iload_n 1, 1) := by decide +kernel
theorem dX12_hearsOf_79 : decode cX12_hearsOf 79 = .ok (.iaload, 1) := by decide +kernel
theorem dX12_hearsOf_80 : decode cX12_hearsOf 80 = .ok (.iadd, 1) := by decide +kernel
theorem dX12_hearsOf_81 : decode cX12_hearsOf 81 = .ok (.iload_n 3, 1) := by decide +kernel
theorem dX12_hearsOf_82 : decode cX12_hearsOf 82 = .ok (.iadd, 1) := by decide +kernel
theorem dX12_hearsOf_83 : decode cX12_hearsOf 83 = .ok (.iconst 1, 1) := by decide +kernel
theorem dX12_hearsOf_84 : decode cX12_hearsOf 84 = .ok (.bastore, 1) := by decide +kernel
theorem dX12_hearsOf_85 : decode cX12_hearsOf 85 = .ok (.iinc 3 1, 3) := by decide +kernel
theorem dX12_hearsOf_88 : decode cX12_hearsOf 88 = .ok (.goto (-38), 3) := by decide +kernel
theorem dX12_hearsOf_91 : decode cX12_hearsOf 91 = .ok (.aload_n 0, 1) := by decide +kernel
theorem dX12_hearsOf_92 : decode cX12_hearsOf 92 = .ok (.getfield 139, 3) := by decide +kernel
theorem dX12_hearsOf_95 : decode cX12_hearsOf 95 = .ok (.iload_n 1, 1) := by decide +kernel
theorem dX12_hearsOf_96 : decode cX12_hearsOf 96 = .ok (.iaload, 1) := by decide +kernel
theorem dX12_hearsOf_97 : decode cX12_hearsOf 97 = .ok (.ifCond .ne 15, 3) := by decide +kernel
theorem dX12_hearsOf_100 : decode cX12_hearsOf 100 = .ok (.aload_n 0, 1) := by decide +kernel
theorem dX12_hearsOf_101 : decode cX12_hearsOf 101 = .ok (.iload_n 1, 1) := by decide +kernel
theorem dX12_hearsOf_102 : decode cX12_hearsOf 102 = .ok (.iconst 1, 1) := by decide +kernel
theorem dX12_hearsOf_103 : decode cX12_hearsOf 103 = .ok (.invokevirtual 329, 3) := by decide +kernel
theorem dX12_hearsOf_106 : decode cX12_hearsOf 106 = .ok (.aload_n 0, 1) := by decide +kernel
theorem dX12_hearsOf_107 : decode cX12_hearsOf 107 = .ok (.iload_n 1, 1) := by decide +kernel
theorem dX12_hearsOf_108 : decode cX12_hearsOf 108 = .ok (.invokevirtual 339, 3) := by decide +kernel
theorem dX12_hearsOf_111 : decode cX12_hearsOf 111 = .ok (.return_, 1) := by decide +kernel
theorem dX12_hearsOf_112 : decode cX12_hearsOf 112 = .ok (.aload_n 0, 1) := by decide +kernel
theorem dX12_hearsOf_113 : decode cX12_hearsOf 113 = .ok (.getfield 139, 3) := by decide +kernel
theorem dX12_hearsOf_116 : decode cX12_hearsOf 116 = .ok (.iload_n 1, 1) := by decide +kernel
theorem dX12_hearsOf_117 : decode cX12_hearsOf 117 = .ok (.iconst 3, 1) := by decide +kernel
theorem dX12_hearsOf_118 : decode cX12_hearsOf 118 = .ok (.iastore, 1) := by decide +kernel
theorem dX12_hearsOf_119 : decode cX12_hearsOf 119 = .ok (.aload_n 0, 1) := by decide +kernel
theorem dX12_hearsOf_120 : decode cX12_hearsOf 120 = .ok (.getfield 229, 3) := by decide +kernel
theorem dX12_hearsOf_123 : decode cX12_hearsOf 123 = .ok (.iconst 1, 1) := by decide +kernel
theorem dX12_hearsOf_124 : decode cX12_hearsOf 124 = .ok (.dup2, 1) := by decide +kernel
theorem dX12_hearsOf_125 : decode cX12_hearsOf 125 = .ok (.iaload, 1) := by decide +kernel
theorem dX12_hearsOf_126 : decode cX12_hearsOf 126 = .ok (.iconst 1, 1) := by decide +kernel
theorem dX12_hearsOf_127 : decode cX12_hearsOf 127 = .ok (.iadd, 1) := by decide +kernel
theorem dX12_hearsOf_128 : decode cX12_hearsOf 128 = .ok (.iastore, 1) := by decide +kernel
theorem dX12_hearsOf_129 : decode cX12_hearsOf 129 = .ok (.aload_n 0, 1) := by decide +kernel
theorem dX12_hearsOf_130 : decode cX12_hearsOf 130 = .ok (.getfield 217, 3) := by decide +kernel
theorem dX12_hearsOf_133 : decode cX12_hearsOf 133 = .ok (.iload_n 2, 1) := by decide +kernel
theorem dX12_hearsOf_134 : decode cX12_hearsOf 134 = .ok (.iaload, 1) := by decide +kernel
theorem dX12_hearsOf_135 : decode cX12_hearsOf 135 = .ok (.iload_n 1, 1) := by decide +kernel
theorem dX12_hearsOf_136 : decode cX12_hearsOf 136 = .ok (.if_icmp .ne 52, 3) := by decide +kernel
theorem dX12_hearsOf_139 : decode cX12_hearsOf 139 = .ok (.aload_n 0, 1) := by decide +kernel
theorem dX12_hearsOf_140 : decode cX12_hearsOf 140 = .ok (.getfield 217, 3) := by decide +kernel
theorem dX12_hearsOf_143 : decode cX12_hearsOf 143 = .ok (.iload_n 2, 1) := by decide +kernel
theorem dX12_hearsOf_144 : decode cX12_hearsOf 144 = .ok (.iconst (-1), 1) := by decide +kernel
theorem dX12_hearsOf_145 : decode cX12_hearsOf 145 = .ok (.iastore, 1) := by decide +kernel
theorem dX12_hearsOf_146 : decode cX12_hearsOf 146 = .ok (.aload_n 0, 1) := by decide +kernel
theorem dX12_hearsOf_147 : decode cX12_hearsOf 147 = .ok (.getfield 163, 3) := by decide +kernel
theorem dX12_hearsOf_150 : decode cX12_hearsOf 150 = .ok (.iload_n 2, 1) := by decide +kernel
theorem dX12_hearsOf_151 : decode cX12_hearsOf 151 = .ok (.aload_n 0, 1) := by decide +kernel
theorem dX12_hearsOf_152 : decode cX12_hearsOf 152 = .ok (.getfield 163, 3) := by decide +kernel
theorem dX12_hearsOf_155 : decode cX12_hearsOf 155 = .ok (.iload_n 2, 1) := by decide +kernel
theorem dX12_hearsOf_156 : decode cX12_hearsOf 156 = .ok (.iaload, 1) := by decide +kernel
theorem dX12_hearsOf_157 : decode cX12_hearsOf 157 = .ok (.aload_n 0, 1) := by decide +kernel
theorem dX12_hearsOf_158 : decode cX12_hearsOf 158 = .ok (.getfield 220, 3) := by decide +kernel
theorem dX12_hearsOf_161 : decode cX12_hearsOf 161 = .ok (.iload_n 2, 1) := by decide +kernel
theorem dX12_hearsOf_162 : decode cX12_hearsOf 162 = .ok (.iaload, 1) := by decide +kernel
theorem dX12_hearsOf_163 : decode cX12_hearsOf 163 = .ok (.invokestatic 288, 3) := by decide +kernel
theorem dX12_hearsOf_166 : decode cX12_hearsOf 166 = .ok (.iastore, 1) := by decide +kernel
theorem dX12_hearsOf_167 : decode cX12_hearsOf 167 = .ok (.aload_n 0, 1) := by decide +kernel
theorem dX12_hearsOf_168 : decode cX12_hearsOf 168 = .ok (.getfield 166, 3) := by decide +kernel
theorem dX12_hearsOf_171 : decode cX12_hearsOf 171 = .ok (.iload_n 2, 1) := by decide +kernel
theorem dX12_hearsOf_172 : decode cX12_hearsOf 172 = .ok (.aload_n 0, 1) := by decide +kernel
theorem dX12_hearsOf_173 : decode cX12_hearsOf 173 = .ok (.getfield 166, 3) := by decide +kernel
theorem dX12_hearsOf_176 : decode cX12_hearsOf 176 = .ok (.iload_n 2, 1) := by decide +kernel
theorem dX12_hearsOf_177 : decode cX12_hearsOf 177 = .ok (.iaload, 1) := by decide +kernel
theorem dX12_hearsOf_178 : decode cX12_hearsOf 178 = .ok (.aload_n 0, 1) := by decide +kernel
theorem dX12_hearsOf_179 : decode cX12_hearsOf 179 = .ok (.getfield 223, 3) := by decide +kernel
theorem dX12_hearsOf_182 : decode cX12_hearsOf 182 = .ok (.iload_n 2, 1) := by decide +kernel
theorem dX12_hearsOf_183 : decode cX12_hearsOf 183 = .ok (.iaload, 1) := by decide +kernel
theorem dX12_hearsOf_184 : decode cX12_hearsOf 184 = .ok (.invokestatic 288, 3) := by decide +kernel
theorem dX12_hearsOf_187 : decode cX12_hearsOf 187 = .ok (.iastore, 1) := by decide +kernel
theorem dX12_hearsOf_188 : decode cX12_hearsOf 188 = .ok (.return_, 1) := by decide +kernel
theorem dX12_hearsAck_0 : decode cX12_hearsAck 0 = .ok (.bipush 15, 2) := by decide +kernel
theorem dX12_hearsAck_2 : decode cX12_hearsAck 2 = .ok (.iload_n 1, 1) := by decide +kernel
theorem dX12_hearsAck_3 : decode cX12_hearsAck 3 = .ok (.imul, 1) := by decide +kernel
theorem dX12_hearsAck_4 : decode cX12_hearsAck 4 = .ok (.istore_n 2, 1) := by decide +kernel
theorem dX12_hearsAck_5 : decode cX12_hearsAck 5 = .ok (.aload_n 0, 1) := by decide +kernel
theorem dX12_hearsAck_6 : decode cX12_hearsAck 6 = .ok (.getfield 72, 3) := by decide +kernel
theorem dX12_hearsAck_9 : decode cX12_hearsAck 9 = .ok (.iload_n 2, 1) := by decide +kernel
theorem dX12_hearsAck_10 : decode cX12_hearsAck 10 = .ok (.iaload, 1) := by decide +kernel
theorem dX12_hearsAck_11 : decode cX12_hearsAck 11 = .ok (.ifCond .le 14, 3) := by decide +kernel
theorem dX12_hearsAck_14 : decode cX12_hearsAck 14 = .ok (.aload_n 0, 1) := by decide +kernel
theorem dX12_hearsAck_15 : decode cX12_hearsAck 15 = .ok (.getfield 72, 3) := by decide +kernel
theorem dX12_hearsAck_18 : decode cX12_hearsAck 18 = .ok (.iload_n 2, 1) := by decide +kernel
theorem dX12_hearsAck_19 : decode cX12_hearsAck 19 = .ok (.iconst 2, 1) := by decide +kernel
theorem dX12_hearsAck_20 : decode cX12_hearsAck 20 = .ok (.iadd, 1) := by decide +kernel
theorem dX12_hearsAck_21 : decode cX12_hearsAck 21 = .ok (.iaload, 1) := by decide +kernel
theorem dX12_hearsAck_22 : decode cX12_hearsAck 22 = .ok (.goto 4, 3) := by decide +kernel
theorem dX12_hearsAck_25 : decode cX12_hearsAck 25 = .ok (.iconst (-1), 1) := by decide +kernel
theorem dX12_hearsAck_26 : decode cX12_hearsAck 26 = .ok (.istore_n 3, 1) := by decide +kernel
theorem dX12_hearsAck_27 : decode cX12_hearsAck 27 = .ok (.iload_n 3, 1) := by decide +kernel
theorem dX12_hearsAck_28 : decode cX12_hearsAck 28 = .ok (.iconst (-1), 1) := by decide +kernel
theorem dX12_hearsAck_29 : decode cX12_hearsAck 29 = .ok (.if_icmp .eq 16, 3) := by decide +kernel
theorem dX12_hearsAck_32 : decode cX12_hearsAck 32 = .ok (.aload_n 0, 1) := by decide +kernel
theorem dX12_hearsAck_33 : decode cX12_hearsAck 33 = .ok (.getfield 139, 3) := by decide +kernel
theorem dX12_hearsAck_36 : decode cX12_hearsAck 36 = .ok (.iload_n 3, 1) := by decide +kernel
theorem dX12_hearsAck_37 : decode cX12_hearsAck 37 = .ok (.iaload, 1) := by decide +kernel
theorem dX12_hearsAck_38 : decode cX12_hearsAck 38 = .ok (.ifCond .ne 7, 3) := by decide +kernel
theorem dX12_hearsAck_41 : decode cX12_hearsAck 41 = .ok (.iconst 1, 1) := by decide +kernel
theorem dX12_hearsAck_42 : decode cX12_hearsAck 42 = .ok (.goto 4, 3) := by decide +kernel
theorem dX12_hearsAck_45 : decode cX12_hearsAck 45 = .ok (.iconst 0, 1) := by decide +kernel
theorem dX12_hearsAck_46 : decode cX12_hearsAck 46 = .ok (.istore 4, 2) := by decide +kernel
theorem dX12_hearsAck_48 : decode cX12_hearsAck 48 = .ok (.aload_n 0, 1) := by decide +kernel
theorem dX12_hearsAck_49 : decode cX12_hearsAck 49 = .ok (.getfield 72, 3) := by decide +kernel
theorem dX12_hearsAck_52 : decode cX12_hearsAck 52 = .ok (.iload_n 2, 1) := by decide +kernel
theorem dX12_hearsAck_53 : decode cX12_hearsAck 53 = .ok (.iaload, 1) := by decide +kernel
theorem dX12_hearsAck_54 : decode cX12_hearsAck 54 = .ok (.iconst 1, 1) := by decide +kernel
theorem dX12_hearsAck_55 : decode cX12_hearsAck 55 = .ok (.isub, 1) := by decide +kernel
theorem dX12_hearsAck_56 : decode cX12_hearsAck 56 = .ok (.istore 5, 2) := by decide +kernel
theorem dX12_hearsAck_58 : decode cX12_hearsAck 58 = .ok (.iload 5, 2) := by decide +kernel
theorem dX12_hearsAck_60 : decode cX12_hearsAck 60 = .ok (.ifCond .lt 54, 3) := by decide +kernel
theorem dX12_hearsAck_63 : decode cX12_hearsAck 63 = .ok (.aload_n 0, 1) := by decide +kernel
theorem dX12_hearsAck_64 : decode cX12_hearsAck 64 = .ok (.getfield 72, 3) := by decide +kernel
theorem dX12_hearsAck_67 : decode cX12_hearsAck 67 = .ok (.iload_n 2, 1) := by decide +kernel
theorem dX12_hearsAck_68 : decode cX12_hearsAck 68 = .ok (.iconst 1, 1) := by decide +kernel
theorem dX12_hearsAck_69 : decode cX12_hearsAck 69 = .ok (.iadd, 1) := by decide +kernel
theorem dX12_hearsAck_70 : decode cX12_hearsAck 70 = .ok (.iconst 2, 1) := by decide +kernel
theorem dX12_hearsAck_71 : decode cX12_hearsAck 71 = .ok (.iload 5, 2) := by decide +kernel
theorem dX12_hearsAck_73 : decode cX12_hearsAck 73 = .ok (.imul, 1) := by decide +kernel
theorem dX12_hearsAck_74 : decode cX12_hearsAck 74 = .ok (.iadd, 1) := by decide +kernel
theorem dX12_hearsAck_75 : decode cX12_hearsAck 75 = .ok (.iaload, 1) := by decide +kernel
theorem dX12_hearsAck_76 : decode cX12_hearsAck 76 = .ok (.istore 6, 2) := by decide +kernel
theorem dX12_hearsAck_78 : decode cX12_hearsAck 78 = .ok (.iload 6, 2) := by decide +kernel
theorem dX12_hearsAck_80 : decode cX12_hearsAck 80 = .ok (.aload_n 0, 1) := by decide +kernel
theorem dX12_hearsAck_81 : decode cX12_hearsAck 81 = .ok (.getfield 72, 3) := by decide +kernel
theorem dX12_hearsAck_84 : decode cX12_hearsAck 84 = .ok (.iload_n 2, 1) := by decide +kernel
theorem dX12_hearsAck_85 : decode cX12_hearsAck 85 = .ok (.iconst 2, 1) := by decide +kernel
theorem dX12_hearsAck_86 : decode cX12_hearsAck 86 = .ok (.iadd, 1) := by decide +kernel
theorem dX12_hearsAck_87 : decode cX12_hearsAck 87 = .ok (.iconst 2, 1) := by decide +kernel
theorem dX12_hearsAck_88 : decode cX12_hearsAck 88 = .ok (.iload 5, 2) := by decide +kernel
theorem dX12_hearsAck_90 : decode cX12_hearsAck 90 = .ok (.imul, 1) := by decide +kernel
theorem dX12_hearsAck_91 : decode cX12_hearsAck 91 = .ok (.iadd, 1) := by decide +kernel
theorem dX12_hearsAck_92 : decode cX12_hearsAck 92 = .ok (.iaload, 1) := by decide +kernel
theorem dX12_hearsAck_93 : decode cX12_hearsAck 93 = .ok (.if_icmp .gt 15, 3) := by decide +kernel
theorem dX12_hearsAck_96 : decode cX12_hearsAck 96 = .ok (.aload_n 0, 1) := by decide +kernel
theorem dX12_hearsAck_97 : decode cX12_hearsAck 97 = .ok (.iload 6, 2) := by decide +kernel
theorem dX12_hearsAck_99 : decode cX12_hearsAck 99 = .ok (.invokevirtual 342, 3) := by decide +kernel
theorem dX12_hearsAck_102 : decode cX12_hearsAck 102 = .ok (.iinc 6 1, 3) := by decide +kernel
theorem dX12_hearsAck_105 : decode cX12_hearsAck 105 = .ok (.goto (-27), 3) := by decide +kernel
theorem dX12_hearsAck_108 : decode cX12_hearsAck 108 = .ok (.iinc 5 (-1), 3) := by decide +kernel
theorem dX12_hearsAck_111 : decode cX12_hearsAck 111 = .ok (.goto (-53), 3) := by decide +kernel
theorem dX12_hearsAck_114 : decode cX12_hearsAck 114 = .ok (.iload 4, 2) := by decide +kernel
theorem dX12_hearsAck_116 : decode cX12_hearsAck 116 = .ok (.ifCond .eq 24, 3) := by decide +kernel
theorem dX12_hearsAck_119 : decode cX12_hearsAck 119 = .ok (.aload_n 0, 1) := by decide +kernel
theorem dX12_hearsAck_120 : decode cX12_hearsAck 120 = .ok (.aload_n 0, 1) := by decide +kernel
theorem dX12_hearsAck_121 : decode cX12_hearsAck 121 = .ok (.getfield 124, 3) := by decide +kernel
theorem dX12_hearsAck_124 : decode cX12_hearsAck 124 = .ok (.iload_n 3, 1) := by decide +kernel
theorem dX12_hearsAck_125 : decode cX12_hearsAck 125 = .ok (.iaload, 1) := by decide +kernel
theorem dX12_hearsAck_126 : decode cX12_hearsAck 126 = .ok (.aload_n 0, 1) := by decide +kernel
theorem dX12_hearsAck_127 : decode cX12_hearsAck 127 = .ok (.getfield 246, 3) := by decide +kernel
theorem dX12_hearsAck_130 : decode cX12_hearsAck 130 = .ok (.aload_n 0, 1) := by decide +kernel
theorem dX12_hearsAck_131 : decode cX12_hearsAck 131 = .ok (.getfield 127, 3) := by decide +kernel
theorem dX12_hearsAck_134 : decode cX12_hearsAck 134 = .ok (.iload_n 3, 1) := by decide +kernel
theorem dX12_hearsAck_135 : decode cX12_hearsAck 135 = .ok (.iaload, 1) := by decide +kernel
theorem dX12_hearsAck_136 : decode cX12_hearsAck 136 = .ok (.isub, 1) := by decide +kernel
theorem dX12_hearsAck_137 : decode cX12_hearsAck 137 = .ok (.invokevirtual 345, 3) := by decide +kernel
theorem dX12_hearsAck_140 : decode cX12_hearsAck 140 = .ok (.aload_n 0, 1) := by decide +kernel
theorem dX12_hearsAck_141 : decode cX12_hearsAck 141 = .ok (.getfield 72, 3) := by decide +kernel
theorem dX12_hearsAck_144 : decode cX12_hearsAck 144 = .ok (.iload_n 2, 1) := by decide +kernel
theorem dX12_hearsAck_145 : decode cX12_hearsAck 145 = .ok (.bipush 9, 2) := by decide +kernel
theorem dX12_hearsAck_147 : decode cX12_hearsAck 147 = .ok (.iadd, 1) := by decide +kernel
theorem dX12_hearsAck_148 : decode cX12_hearsAck 148 = .ok (.iaload, 1) := by decide +kernel
theorem dX12_hearsAck_149 : decode cX12_hearsAck 149 = .ok (.aload_n 0, 1) := by decide +kernel
theorem dX12_hearsAck_150 : decode cX12_hearsAck 150 = .ok (.getfield 348, 3) := by decide +kernel
theorem dX12_hearsAck_153 : decode cX12_hearsAck 153 = .ok (.if_icmp .le 28, 3) := by decide +kernel
theorem dX12_hearsAck_156 : decode cX12_hearsAck 156 = .ok (.aload_n 0, 1) := by decide +kernel
theorem dX12_hearsAck_157 : decode cX12_hearsAck 157 = .ok (.aload_n 0, 1) := by decide +kernel
theorem dX12_hearsAck_158 : decode cX12_hearsAck 158 = .ok (.getfield 72, 3) := by decide +kernel
theorem dX12_hearsAck_161 : decode cX12_hearsAck 161 = .ok (.iload_n 2, 1) := by decide +kernel
theorem dX12_hearsAck_162 : decode cX12_hearsAck 162 = .ok (.bipush 9, 2) := by decide +kernel
theorem dX12_hearsAck_164 : decode cX12_hearsAck 164 = .ok (.iadd, 1) := by decide +kernel
theorem dX12_hearsAck_165 : decode cX12_hearsAck 165 = .ok (.iaload, 1) := by decide +kernel
theorem dX12_hearsAck_166 : decode cX12_hearsAck 166 = .ok (.putfield 348, 3) := by decide +kernel
theorem dX12_hearsAck_169 : decode cX12_hearsAck 169 = .ok (.aload_n 0, 1) := by decide +kernel
theorem dX12_hearsAck_170 : decode cX12_hearsAck 170 = .ok (.aload_n 0, 1) := by decide +kernel
theorem dX12_hearsAck_171 : decode cX12_hearsAck 171 = .ok (.getfield 124, 3) := by decide +kernel
theorem dX12_hearsAck_174 : decode cX12_hearsAck 174 = .ok (.iload_n 3, 1) := by decide +kernel
theorem dX12_hearsAck_175 : decode cX12_hearsAck 175 = .ok (.iaload, 1) := by decide +kernel
theorem dX12_hearsAck_176 : decode cX12_hearsAck 176 = .ok (.iload_n 3, 1) := by decide +kernel
theorem dX12_hearsAck_177 : decode cX12_hearsAck 177 = .ok (.iconst 0, 1) := by decide +kernel
theorem dX12_hearsAck_178 : decode cX12_hearsAck 178 = .ok (.invokevirtual 332, 3) := by decide +kernel
theorem dX12_hearsAck_181 : decode cX12_hearsAck 181 = .ok (.iconst 0, 1) := by decide +kernel
theorem dX12_hearsAck_182 : decode cX12_hearsAck 182 = .ok (.istore 5, 2) := by decide +kernel
theorem dX12_hearsAck_184 : decode cX12_hearsAck 184 = .ok (.iload 5, 2) := by decide +kernel
theorem dX12_hearsAck_186 : decode cX12_hearsAck 186 = .ok (.iconst 4, 1) := by decide +kernel
theorem dX12_hearsAck_187 : decode cX12_hearsAck 187 = .ok (.if_icmp .ge 38, 3) := by decide +kernel
theorem dX12_hearsAck_190 : decode cX12_hearsAck 190 = .ok (.aload_n 0, 1) := by decide +kernel
theorem dX12_hearsAck_191 : decode cX12_hearsAck 191 = .ok (.getfield 109, 3) := by decide +kernel
theorem dX12_hearsAck_194 : decode cX12_hearsAck 194 = .ok (.iload 5, 2) := by decide +kernel
theorem dX12_hearsAck_196 : decode cX12_hearsAck 196 = .ok (.aload_n 0, 1) := by decide +kernel
theorem dX12_hearsAck_197 : decode cX12_hearsAck 197 = .ok (.getfield 109, 3) := by decide +kernel
theorem dX12_hearsAck_200 : decode cX12_hearsAck 200 = .ok (.iload 5, 2) := by decide +kernel
theorem dX12_hearsAck_202 : decode cX12_hearsAck 202 = .ok (.iaload, 1) := by decide +kernel
theorem dX12_hearsAck_203 : decode cX12_hearsAck 203 = .ok (.aload_n 0, 1) := by decide +kernel
theorem dX12_hearsAck_204 : decode cX12_hearsAck 204 = .ok (.getfield 72, 3) := by decide +kernel
theorem dX12_hearsAck_207 : decode cX12_hearsAck 207 = .ok (.iload_n 2, 1) := by decide +kernel
theorem dX12_hearsAck_208 : decode cX12_hearsAck 208 = .ok (.bipush 10, 2) := by decide +kernel
theorem dX12_hearsAck_210 : decode cX12_hearsAck 210 = .ok (.iadd, 1) := by decide +kernel
theorem dX12_hearsAck_211 : decode cX12_hearsAck 211 = .ok (.iload 5, 2) := by decide +kernel
theorem dX12_hearsAck_213 : decode cX12_hearsAck 213 = .ok (.iadd, 1) := by decide +kernel
theorem dX12_hearsAck_214 : decode cX12_hearsAck 214 = .ok (.iaload, 1) := by decide +kernel
theorem dX12_hearsAck_215 : decode cX12_hearsAck 215 = .ok (.invokestatic 288, 3) := by decide +kernel
theorem dX12_hearsAck_218 : decode cX12_hearsAck 218 = .ok (.iastore, 1) := by decide +kernel
theorem dX12_hearsAck_219 : decode cX12_hearsAck 219 = .ok (.iinc 5 1, 3) := by decide +kernel
theorem dX12_hearsAck_222 : decode cX12_hearsAck 222 = .ok (.goto (-38), 3) := by decide +kernel
theorem dX12_hearsAck_225 : decode cX12_hearsAck 225 = .ok (.aload_n 0, 1) := by decide +kernel
theorem dX12_hearsAck_226 : decode cX12_hearsAck 226 = .ok (.aload_n 0, 1) := by decide +kernel
theorem dX12_hearsAck_227 : decode cX12_hearsAck 227 = .ok (.getfield 112, 3) := by decide +kernel
theorem dX12_hearsAck_230 : decode cX12_hearsAck 230 = .ok (.aload_n 0, 1) := by decide +kernel
theorem dX12_hearsAck_231 : decode cX12_hearsAck 231 = .ok (.getfield 72, 3) := by decide +kernel
theorem dX12_hearsAck_234 : decode cX12_hearsAck 234 = .ok (.iload_n 2, 1) := by decide +kernel
theorem dX12_hearsAck_235 : decode cX12_hearsAck 235 = .ok (.bipush 14, 2) := by decide +kernel
theorem dX12_hearsAck_237 : decode cX12_hearsAck 237 = .ok (.iadd, 1) := by decide +kernel
theorem dX12_hearsAck_238 : decode cX12_hearsAck 238 = .ok (.iaload, 1) := by decide +kernel
theorem dX12_hearsAck_239 : decode cX12_hearsAck 239 = .ok (.invokestatic 288, 3) := by decide +kernel
theorem dX12_hearsAck_242 : decode cX12_hearsAck 242 = .ok (.putfield 112, 3) := by decide +kernel
theorem dX12_hearsAck_245 : decode cX12_hearsAck 245 = .ok (.iconst 0, 1) := by decide +kernel
theorem dX12_hearsAck_246 : decode cX12_hearsAck 246 = .ok (.istore 5, 2) := by decide +kernel
theorem dX12_hearsAck_248 : decode cX12_hearsAck 248 = .ok (.iload 5, 2) := by decide +kernel
theorem dX12_hearsAck_250 : decode cX12_hearsAck 250 = .ok (.iconst 2, 1) := by decide +kernel
theorem dX12_hearsAck_251 : decode cX12_hearsAck 251 = .ok (.if_icmp .ge 17, 3) := by decide +kernel
theorem dX12_hearsAck_254 : decode cX12_hearsAck 254 = .ok (.aload_n 0, 1) := by decide +kernel
theorem dX12_hearsAck_255 : decode cX12_hearsAck 255 = .ok (.getfield 199, 3) := by decide +kernel
theorem dX12_hearsAck_258 : decode cX12_hearsAck 258 = .ok (.iload 5, 2) := by decide +kernel
theorem dX12_hearsAck_260 : decode cX12_hearsAck 260 = .ok (.iconst 0, 1) := by decide +kernel
theorem dX12_hearsAck_261 : decode cX12_hearsAck 261 = .ok (.iastore, 1) := by decide +kernel
theorem dX12_hearsAck_262 : decode cX12_hearsAck 262 = .ok (.iinc 5 1, 3) := by decide +kernel
theorem dX12_hearsAck_265 : decode cX12_hearsAck 265 = .ok (.goto (-17), 3) := by decide +kernel
theorem dX12_hearsAck_268 : decode cX12_hearsAck 268 = .ok (.iconst 0, 1) := by decide +kernel
theorem dX12_hearsAck_269 : decode cX12_hearsAck 269 = .ok (.istore 5, 2) := by decide +kernel
theorem dX12_hearsAck_271 : decode cX12_hearsAck 271 = .ok (.iload 5, 2) := by decide +kernel
theorem dX12_hearsAck_273 : decode cX12_hearsAck 273 = .ok (.iconst 2, 1) := by decide +kernel
theorem dX12_hearsAck_274 : decode cX12_hearsAck 274 = .ok (.if_icmp .ge 21, 3) := by decide +kernel
theorem dX12_hearsAck_277 : decode cX12_hearsAck 277 = .ok (.aload_n 0, 1) := by decide +kernel
theorem dX12_hearsAck_278 : decode cX12_hearsAck 278 = .ok (.iload 5, 2) := by decide +kernel
theorem dX12_hearsAck_280 : decode cX12_hearsAck 280 = .ok (.invokevirtual 351, 3) := by decide +kernel
theorem dX12_hearsAck_283 : decode cX12_hearsAck 283 = .ok (.aload_n 0, 1) := by decide +kernel
theorem dX12_hearsAck_284 : decode cX12_hearsAck 284 = .ok (.iload 5, 2) := by decide +kernel
theorem dX12_hearsAck_286 : decode cX12_hearsAck 286 = .ok (.invokevirtual 354, 3) := by decide +kernel
theorem dX12_hearsAck_289 : decode cX12_hearsAck 289 = .ok (.iinc 5 1, 3) := by decide +kernel
theorem dX12_hearsAck_292 : decode cX12_hearsAck 292 = .ok (.goto (-21), 3) := by decide +kernel
theorem dX12_hearsAck_295 : decode cX12_hearsAck 295 = .ok (.return_, 1) := by decide +kernel
theorem dX12_saysHello_0 : decode cX12_saysHello 0 = .ok (.aload_n 0, 1) := by decide +kernel
theorem dX12_saysHello_1 : decode cX12_saysHello 1 = .ok (.aload_n 0, 1) := by decide +kernel
theorem dX12_saysHello_2 : decode cX12_saysHello 2 = .ok (.getfield 246, 3) := by decide +kernel
theorem dX12_saysHello_5 : decode cX12_saysHello 5 = .ok (.putfield 357, 3) := by decide +kernel
theorem dX12_saysHello_8 : decode cX12_saysHello 8 = .ok (.aload_n 0, 1) := by decide +kernel
theorem dX12_saysHello_9 : decode cX12_saysHello 9 = .ok (.getfield 229, 3) := by decide +kernel
theorem dX12_saysHello_12 : decode cX12_saysHello 12 = .ok (.iconst 3, 1) := by decide +kernel
theorem dX12_saysHello_13 : decode cX12_saysHello 13 = .ok (.dup2, 1) := by decide +kernel
theorem dX12_saysHello_14 : decode cX12_saysHello 14 = .ok (.iaload, 1) := by decide +kernel
theorem dX12_saysHello_15 : decode cX12_saysHello 15 = .ok (.iconst 1, 1) := by decide +kernel
theorem dX12_saysHello_16 : decode cX12_saysHello 16 = .ok (.iadd, 1) := by decide +kernel
theorem dX12_saysHello_17 : decode cX12_saysHello 17 = .ok (.iastore, 1) := by decide +kernel
theorem dX12_saysHello_18 : decode cX12_saysHello 18 = .ok (.aload_n 0, 1) := by decide +kernel
theorem dX12_saysHello_19 : decode cX12_saysHello 19 = .ok (.iconst 0, 1) := by decide +kernel
theorem dX12_saysHello_20 : decode cX12_saysHello 20 = .ok (.iconst 1, 1) := by decide +kernel
theorem dX12_saysHello_21 : decode cX12_saysHello 21 = .ok (.iconst 2, 1) := by decide +kernel
theorem dX12_saysHello_22 : decode cX12_saysHello 22 = .ok (.aload_n 0, 1) := by decide +kernel
theorem dX12_saysHello_23 : decode cX12_saysHello 23 = .ok (.getfield 100, 3) := by decide +kernel
theorem dX12_saysHello_26 : decode cX12_saysHello 26 = .ok (.iconst 1, 1) := by decide +kernel
theorem dX12_saysHello_27 : decode cX12_saysHello 27 = .ok (.iadd, 1) := by decide +kernel
theorem dX12_saysHello_28 : decode cX12_saysHello 28 = .ok (.imul, 1) := by decide +kernel
theorem dX12_saysHello_29 : decode cX12_saysHello 29 = .ok (.aload_n 0, 1) := by decide +kernel
theorem dX12_saysHello_30 : decode cX12_saysHello 30 = .ok (.getfield 360, 3) := by decide +kernel
theorem dX12_saysHello_33 : decode cX12_saysHello 33 = .ok (.ifCond .eq 7, 3) := by decide +kernel
theorem dX12_saysHello_36 : decode cX12_saysHello 36 = .ok (.iconst 1, 1) := by decide +kernel
theorem dX12_saysHello_37 : decode cX12_saysHello 37 = .ok (.goto 4, 3) := by decide +kernel
theorem dX12_saysHello_40 : decode cX12_saysHello 40 = .ok (.iconst 0, 1) := by decide +kernel
theorem dX12_saysHello_41 : decode cX12_saysHello 41 = .ok (.iadd, 1) := by decide +kernel
theorem dX12_saysHello_42 : decode cX12_saysHello 42 = .ok (.invokevirtual 363, 3) := by decide +kernel
theorem dX12_saysHello_45 : decode cX12_saysHello 45 = .ok (.return_, 1) := by decide +kernel
theorem dX12_hearsAccept_0 : decode cX12_hearsAccept 0 = .ok (.aload_n 0, 1) := by decide +kernel
theorem dX12_hearsAccept_1 : decode cX12_hearsAccept 1 = .ok (.iconst 2, 1) := by decide +kernel
theorem dX12_hearsAccept_2 : decode cX12_hearsAccept 2 = .ok (.putfield 366, 3) := by decide +kernel
theorem dX12_hearsAccept_5 : decode cX12_hearsAccept 5 = .ok (.aload_n 0, 1) := by decide +kernel
theorem dX12_hearsAccept_6 : decode cX12_hearsAccept 6 = .ok (.iconst 0, 1) := by decide +kernel
theorem dX12_hearsAccept_7 : decode cX12_hearsAccept 7 = .ok (.aload_n 0, 1) := by decide +kernel
theorem dX12_hearsAccept_8 : decode cX12_hearsAccept 8 = .ok (.getfield 246, 3) := by decide +kernel
theorem dX12_hearsAccept_11 : decode cX12_hearsAccept 11 = .ok (.aload_n 0, 1) := by decide +kernel
theorem dX12_hearsAccept_12 : decode cX12_hearsAccept 12 = .ok (.getfield 357, 3) := by decide +kernel
theorem dX12_hearsAccept_15 : decode cX12_hearsAccept 15 = .ok (.isub, 1) := by decide +kernel
theorem dX12_hearsAccept_16 : decode cX12_hearsAccept 16 = .ok (.invokevirtual 345, 3) := by decide +kernel
theorem dX12_hearsAccept_19 : decode cX12_hearsAccept 19 = .ok (.iconst 0, 1) := by decide +kernel
theorem dX12_hearsAccept_20 : decode cX12_hearsAccept 20 = .ok (.istore_n 2, 1) := by decide +kernel
theorem dX12_hearsAccept_21 : decode cX12_hearsAccept 21 = .ok (.iload_n 2, 1) := by decide +kernel
theorem dX12_hearsAccept_22 : decode cX12_hearsAccept 22 = .ok (.aload_n 0, 1) := by decide +kernel
theorem dX12_hearsAccept_23 : decode cX12_hearsAccept 23 = .ok (.getfield 313, 3) := by decide +kernel
theorem dX12_hearsAccept_26 : decode cX12_hearsAccept 26 = .ok (.if_icmp .ge 37, 3) := by decide +kernel
theorem dX12_hearsAccept_29 : decode cX12_hearsAccept 29 = .ok (.iload_n 1, 1) := by decide +kernel
theorem dX12_hearsAccept_30 : decode cX12_hearsAccept 30 = .ok (.ifCond .ne 27, 3) := by decide +kernel
theorem dX12_hearsAccept_33 : decode cX12_hearsAccept 33 = .ok (.aload_n 0, 1) := by decide +kernel
theorem dX12_hearsAccept_34 : decode cX12_hearsAccept 34 = .ok (.getfield 151, 3) := by decide +kernel
theorem dX12_hearsAccept_37 : decode cX12_hearsAccept 37 = .ok (.iload_n 2, 1) := by decide +kernel
theorem dX12_hearsAccept_38 : decode cX12_hearsAccept 38 = .ok (.baload, 1) := by decide +kernel
theorem dX12_hearsAccept_39 : decode cX12_hearsAccept 39 = .ok (.ifCond .eq 18, 3) := by decide +kernel
theorem dX12_hearsAccept_42 : decode cX12_hearsAccept 42 = .ok (.aload_n 0, 1) := by decide +kernel
theorem dX12_hearsAccept_43 : decode cX12_hearsAccept 43 = .ok (.getfield 139, 3) := by decide +kernel
theorem dX12_hearsAccept_46 : decode cX12_hearsAccept 46 = .ok (.iload_n 2, 1) := by decide +kernel
theorem dX12_hearsAccept_47 : decode cX12_hearsAccept 47 = .ok (.iaload, 1) := by decide +kernel
theorem dX12_hearsAccept_48 : decode cX12_hearsAccept 48 = .ok (.ifCond .ne 9, 3) := by decide +kernel
theorem dX12_hearsAccept_51 : decode cX12_hearsAccept 51 = .ok (.aload_n 0, 1) := by decide +kernel
theorem dX12_hearsAccept_52 : decode cX12_hearsAccept 52 = .ok (.iload_n 2, 1) := by decide +kernel
theorem dX12_hearsAccept_53 : decode cX12_hearsAccept 53 = .ok (.iconst 4, 1) := by decide +kernel
theorem dX12_hearsAccept_54 : decode cX12_hearsAccept 54 = .ok (.invokevirtual 329, 3) := by decide +kernel
theorem dX12_hearsAccept_57 : decode cX12_hearsAccept 57 = .ok (.iinc 2 1, 3) := by decide +kernel
theorem dX12_hearsAccept_60 : decode cX12_hearsAccept 60 = .ok (.goto (-39), 3) := by decide +kernel
theorem dX12_hearsAccept_63 : decode cX12_hearsAccept 63 = .ok (.return_, 1) := by decide +kernel
theorem dX12_arrivesAtClient_0 : decode cX12_arrivesAtClient 0 = .ok (.aload_n 0, 1) := by decide +kernel
theorem dX12_arrivesAtClient_1 : decode cX12_arrivesAtClient 1 = .ok (.getfield 59, 3) := by decide +kernel
theorem dX12_arrivesAtClient_4 : decode cX12_arrivesAtClient 4 = .ok (.iload_n 1, 1) := by decide +kernel
theorem dX12_arrivesAtClient_5 : decode cX12_arrivesAtClient 5 = .ok (.iaload, 1) := by decide +kernel
theorem dX12_arrivesAtClient_6 : decode cX12_arrivesAtClient 6 = .ok (.istore_n 2, 1) := by decide +kernel
theorem dX12_arrivesAtClient_7 : decode cX12_arrivesAtClient 7 = .ok (.iload_n 2, 1) := by decide +kernel
theorem dX12_arrivesAtClient_8 : decode cX12_arrivesAtClient 8 = .ok (.iconst 5, 1) := by decide +kernel
theorem dX12_arrivesAtClient_9 : decode cX12_arrivesAtClient 9 = .ok (.if_icmp .ne 36, 3) := by decide +kernel
theorem dX12_arrivesAtClient_12 : decode cX12_arrivesAtClient 12 = .ok (.aload_n 0, 1) := by decide +kernel
theorem dX12_arrivesAtClient_13 : decode cX12_arrivesAtClient 13 = .ok (.getfield 366, 3) := by decide +kernel
theorem dX12_arrivesAtClient_16 : decode cX12_arrivesAtClient 16 = .ok (.iconst 1, 1) := by decide +kernel
theorem dX12_arrivesAtClient_17 : decode cX12_arrivesAtClient 17 = .ok (.if_icmp .ne 28, 3) := by decide +kernel
theorem dX12_arrivesAtClient_20 : decode cX12_arrivesAtClient 20 = .ok (.aload_n 0, 1) := by decide +kernel
theorem dX12_arrivesAtClient_21 : decode cX12_arrivesAtClient 21 = .ok (.getfield 360, 3) := by decide +kernel
theorem dX12_arrivesAtClient_24 : decode cX12_arrivesAtClient 24 = .ok (.ifCond .ne 21, 3) := by decide +kernel
theorem dX12_arrivesAtClient_27 : decode cX12_arrivesAtClient 27 = .ok (.aload_n 0, 1) := by decide +kernel
theorem dX12_arrivesAtClient_28 : decode cX12_arrivesAtClient 28 = .ok (.iconst 1, 1) := by decide +kernel
theorem dX12_arrivesAtClient_29 : decode cX12_arrivesAtClient 29 = .ok (.putfield 360, 3) := by decide +kernel
theorem dX12_arrivesAtClient_32 : decode cX12_arrivesAtClient 32 = .ok (.aload_n 0, 1) := by decide +kernel
theorem dX12_arrivesAtClient_33 : decode cX12_arrivesAtClient 33 = .ok (.bipush 10, 2) := by decide +kernel
theorem dX12_arrivesAtClient_35 : decode cX12_arrivesAtClient 35 = .ok (.putfield 369, 3) := by decide +kernel
theorem dX12_arrivesAtClient_38 : decode cX12_arrivesAtClient 38 = .ok (.aload_n 0, 1) := by decide +kernel
theorem dX12_arrivesAtClient_39 : decode cX12_arrivesAtClient 39 = .ok (.invokevirtual 372, 3) := by decide +kernel
theorem dX12_arrivesAtClient_42 : decode cX12_arrivesAtClient 42 = .ok (.goto 130, 3) := by decide +kernel
theorem dX12_arrivesAtClient_45 : decode cX12_arrivesAtClient 45 = .ok (.iload_n 2, 1) := by decide +kernel
theorem dX12_arrivesAtClient_46 : decode cX12_arrivesAtClient 46 = .ok (.bipush 6, 2) := by decide +kernel
theorem dX12_arrivesAtClient_48 : decode cX12_arrivesAtClient 48 = .ok (.if_icmp .ne 33, 3) := by decide +kernel
theorem dX12_arrivesAtClient_51 : decode cX12_arrivesAtClient 51 = .ok (.aload_n 0, 1) := by decide +kernel
theorem dX12_arrivesAtClient_52 : decode cX12_arrivesAtClient 52 = .ok (.getfield 366, 3) := by decide +kernel
theorem dX12_arrivesAtClient_55 : decode cX12_arrivesAtClient 55 = .ok (.iconst 1, 1) := by decide +kernel
theorem dX12_arrivesAtClient_56 : decode cX12_arrivesAtClient 56 = .ok (.if_icmp .ne 25, 3) := by decide +kernel
theorem dX12_arrivesAtClient_59 : decode cX12_arrivesAtClient 59 = .ok (.aload_n 0, 1) := by decide +kernel
theorem dX12_arrivesAtClient_60 : decode cX12_arrivesAtClient 60 = .ok (.aload_n 0, 1) := by decide +kernel
theorem dX12_arrivesAtClient_61 : decode cX12_arrivesAtClient 61 = .ok (.getfield 62, 3) := by decide +kernel
theorem dX12_arrivesAtClient_64 : decode cX12_arrivesAtClient 64 = .ok (.iload_n 1, 1) := by decide +kernel
theorem dX12_arrivesAtClient_65 : decode cX12_arrivesAtClient 65 = .ok (.iaload, 1) := by decide +kernel
theorem dX12_arrivesAtClient_66 : decode cX12_arrivesAtClient 66 = .ok (.iconst 1, 1) := by decide +kernel
theorem dX12_arrivesAtClient_67 : decode cX12_arrivesAtClient 67 = .ok (.if_icmp .ne 7, 3) := by decide +kernel
theorem dX12_arrivesAtClient_70 : decode cX12_arrivesAtClient 70 = .ok (.iconst 1, 1) := by decide +kernel
theorem dX12_arrivesAtClient_71 : decode cX12_arrivesAtClient 71 = .ok (.goto 4, 3) := by decide +kernel
theorem dX12_arrivesAtClient_74 : decode cX12_arrivesAtClient 74 = .ok (.iconst 0, 1) := by decide +kernel
theorem dX12_arrivesAtClient_75 : decode cX12_arrivesAtClient 75 = .ok (.invokevirtual 375, 3) := by decide +kernel
theorem dX12_arrivesAtClient_78 : decode cX12_arrivesAtClient 78 = .ok (.goto 94, 3) := by decide +kernel
theorem dX12_arrivesAtClient_81 : decode cX12_arrivesAtClient 81 = .ok (.iload_n 2, 1) := by decide +kernel
theorem dX12_arrivesAtClient_82 : decode cX12_arrivesAtClient 82 = .ok (.bipush 7, 2) := by decide +kernel
theorem dX12_arrivesAtClient_84 : decode cX12_arrivesAtClient 84 = .ok (.if_icmp .ne 32, 3) := by decide +kernel
theorem dX12_arrivesAtClient_87 : decode cX12_arrivesAtClient 87 = .ok (.aload_n 0, 1) := by decide +kernel
theorem dX12_arrivesAtClient_88 : decode cX12_arrivesAtClient 88 = .ok (.getfield 366, 3) := by decide +kernel
theorem dX12_arrivesAtClient_91 : decode cX12_arrivesAtClient 91 = .ok (.iconst 2, 1) := by decide +kernel
theorem dX12_arrivesAtClient_92 : decode cX12_arrivesAtClient 92 = .ok (.if_icmp .eq 11, 3) := by decide +kernel
theorem dX12_arrivesAtClient_95 : decode cX12_arrivesAtClient 95 = .ok (.aload_n 0, 1) := by decide +kernel
theorem dX12_arrivesAtClient_96 : decode cX12_arrivesAtClient 96 = .ok (.getfield 366, 3) := by decide +kernel
theorem dX12_arrivesAtClient_99 : decode cX12_arrivesAtClient 99 = .ok (.iconst 3, 1) := by decide +kernel
theorem dX12_arrivesAtClient_100 : decode cX12_arrivesAtClient 100 = .ok (.if_icmp .ne 16, 3) := by decide +kernel
theorem dX12_arrivesAtClient_103 : decode cX12_arrivesAtClient 103 = .ok (.aload_n 0, 1) := by decide +kernel
theorem dX12_arrivesAtClient_104 : decode cX12_arrivesAtClient 104 = .ok (.aload_n 0, 1) := by decide +kernel
theorem dX12_arrivesAtClient_105 : decode cX12_arrivesAtClient 105 = .ok (.getfield 62, 3) := by decide +kernel
theorem dX12_arrivesAtClient_108 : decode cX12_arrivesAtClient 108 = .ok (.iload_n 1, 1) := by decide +kernel
theorem dX12_arrivesAtClient_109 : decode cX12_arrivesAtClient 109 = .ok (.iaload, 1) := by decide +kernel
theorem dX12_arrivesAtClient_110 : decode cX12_arrivesAtClient 110 = .ok (.invokevirtual 379, 3) := by decide +kernel
theorem dX12_arrivesAtClient_113 : decode cX12_arrivesAtClient 113 = .ok (.goto 59, 3) := by decide +kernel
theorem dX12_arrivesAtClient_116 : decode cX12_arrivesAtClient 116 = .ok (.iload_n 2, 1) := by decide +kernel
theorem dX12_arrivesAtClient_117 : decode cX12_arrivesAtClient 117 = .ok (.bipush 8, 2) := by decide +kernel
theorem dX12_arrivesAtClient_119 : decode cX12_arrivesAtClient 119 = .ok (.if_icmp .ne 34, 3) := by decide +kernel
theorem dX12_arrivesAtClient_122 : decode cX12_arrivesAtClient 122 = .ok (.aload_n 0, 1) := by decide +kernel
theorem dX12_arrivesAtClient_123 : decode cX12_arrivesAtClient 123 = .ok (.getfield 366, 3) := by decide +kernel
theorem dX12_arrivesAtClient_126 : decode cX12_arrivesAtClient 126 = .ok (.iconst 4, 1) := by decide +kernel
theorem dX12_arrivesAtClient_127 : decode cX12_arrivesAtClient 127 = .ok (.if_icmp .eq 26, 3) := by decide +kernel
theorem dX12_arrivesAtClient_130 : decode cX12_arrivesAtClient 130 = .ok (.aload_n 0, 1) := by decide +kernel
theorem dX12_arrivesAtClient_131 : decode cX12_arrivesAtClient 131 = .ok (.getfield 366, 3) := by decide +kernel
theorem dX12_arrivesAtClient_134 : decode cX12_arrivesAtClient 134 = .ok (.iconst 5, 1) := by decide +kernel
theorem dX12_arrivesAtClient_135 : decode cX12_arrivesAtClient 135 = .ok (.if_icmp .eq 18, 3) := by decide +kernel
theorem dX12_arrivesAtClient_138 : decode cX12_arrivesAtClient 138 = .ok (.aload_n 0, 1) := by decide +kernel
theorem dX12_arrivesAtClient_139 : decode cX12_arrivesAtClient 139 = .ok (.getfield 187, 3) := by decide +kernel
theorem dX12_arrivesAtClient_142 : decode cX12_arrivesAtClient 142 = .ok (.aload_n 0, 1) := by decide +kernel
theorem dX12_arrivesAtClient_143 : decode cX12_arrivesAtClient 143 = .ok (.getfield 65, 3) := by decide +kernel
theorem dX12_arrivesAtClient_146 : decode cX12_arrivesAtClient 146 = .ok (.iload_n 1, 1) := by decide +kernel
theorem dX12_arrivesAtClient_147 : decode cX12_arrivesAtClient 147 = .ok (.iaload, 1) := by decide +kernel
theorem dX12_arrivesAtClient_148 : decode cX12_arrivesAtClient 148 = .ok (.iconst 1, 1) := by decide +kernel
theorem dX12_arrivesAtClient_149 : decode cX12_arrivesAtClient 149 = .ok (.bastore, 1) := by decide +kernel
theorem dX12_arrivesAtClient_150 : decode cX12_arrivesAtClient 150 = .ok (.goto 22, 3) := by decide +kernel
theorem dX12_arrivesAtClient_153 : decode cX12_arrivesAtClient 153 = .ok (.iload_n 2, 1) := by decide +kernel
theorem dX12_arrivesAtClient_154 : decode cX12_arrivesAtClient 154 = .ok (.bipush 9, 2) := by decide +kernel
theorem dX12_arrivesAtClient_156 : decode cX12_arrivesAtClient 156 = .ok (.if_icmp .ne 16, 3) := by decide +kernel
theorem dX12_arrivesAtClient_159 : decode cX12_arrivesAtClient 159 = .ok (.aload_n 0, 1) := by decide +kernel
theorem dX12_arrivesAtClient_160 : decode cX12_arrivesAtClient 160 = .ok (.getfield 366, 3) := by decide +kernel
theorem dX12_arrivesAtClient_163 : decode cX12_arrivesAtClient 163 = .ok (.iconst 4, 1) := by decide +kernel
theorem dX12_arrivesAtClient_164 : decode cX12_arrivesAtClient 164 = .ok (.if_icmp .eq 8, 3) := by decide +kernel
theorem dX12_arrivesAtClient_167 : decode cX12_arrivesAtClient 167 = .ok (.aload_n 0, 1) := by decide +kernel
theorem dX12_arrivesAtClient_168 : decode cX12_arrivesAtClient 168 = .ok (.iconst 5, 1) := by decide +kernel
theorem dX12_arrivesAtClient_169 : decode cX12_arrivesAtClient 169 = .ok (.putfield 366, 3) := by decide +kernel
theorem dX12_arrivesAtClient_172 : decode cX12_arrivesAtClient 172 = .ok (.return_, 1) := by decide +kernel
theorem dX12_sends_0 : decode cX12_sends 0 = .ok (.aload_n 0, 1) := by decide +kernel
theorem dX12_sends_1 : decode cX12_sends 1 = .ok (.getfield 313, 3) := by decide +kernel
theorem dX12_sends_4 : decode cX12_sends 4 = .ok (.istore 6, 2) := by decide +kernel
theorem dX12_sends_6 : decode cX12_sends 6 = .ok (.aload_n 0, 1) := by decide +kernel
theorem dX12_sends_7 : decode cX12_sends 7 = .ok (.getfield 124, 3) := by decide +kernel
theorem dX12_sends_10 : decode cX12_sends 10 = .ok (.iload 6, 2) := by decide +kernel
theorem dX12_sends_12 : decode cX12_sends 12 = .ok (.iload_n 1, 1) := by decide +kernel
theorem dX12_sends_13 : decode cX12_sends 13 = .ok (.iastore, 1) := by decide +kernel
theorem dX12_sends_14 : decode cX12_sends 14 = .ok (.aload_n 0, 1) := by decide +kernel
theorem dX12_sends_15 : decode cX12_sends 15 = .ok (.getfield 127, 3) := by decide +kernel
theorem dX12_sends_18 : decode cX12_sends 18 = .ok (.iload 6, 2) := by decide +kernel
theorem dX12_sends_20 : decode cX12_sends 20 = .ok (.aload_n 0, 1) := by decide +kernel
theorem dX12_sends_21 : decode cX12_sends 21 = .ok (.getfield 246, 3) := by decide +kernel
theorem dX12_sends_24 : decode cX12_sends 24 = .ok (.iastore, 1) := by decide +kernel
theorem dX12_sends_25 : decode cX12_sends 25 = .ok (.aload_n 0, 1) := by decide +kernel
theorem dX12_sends_26 : decode cX12_sends 26 = .ok (.getfield 130, 3) := by decide +kernel
theorem dX12_sends_29 : decode cX12_sends 29 = .ok (.iload 6, 2) := by decide +kernel
theorem dX12_sends_31 : decode cX12_sends 31 = .ok (.iload_n 2, 1) := by decide +kernel
theorem dX12_sends_32 : decode cX12_sends 32 = .ok (.iastore, 1) := by decide +kernel
theorem dX12_sends_33 : decode cX12_sends 33 = .ok (.aload_n 0, 1) := by decide +kernel
theorem dX12_sends_34 : decode cX12_sends 34 = .ok (.getfield 133, 3) := by decide +kernel
theorem dX12_sends_37 : decode cX12_sends 37 = .ok (.iload 6, 2) := by decide +kernel
theorem dX12_sends_39 : decode cX12_sends 39 = .ok (.iload_n 3, 1) := by decide +kernel
theorem dX12_sends_40 : decode cX12_sends 40 = .ok (.iastore, 1) := by decide +kernel
theorem dX12_sends_41 : decode cX12_sends 41 = .ok (.aload_n 0, 1) := by decide +kernel
theorem dX12_sends_42 : decode cX12_sends 42 = .ok (.getfield 136, 3) := by decide +kernel
theorem dX12_sends_45 : decode cX12_sends 45 = .ok (.iload 6, 2) := by decide +kernel
theorem dX12_sends_47 : decode cX12_sends 47 = .ok (.iload 4, 2) := by decide +kernel
theorem dX12_sends_49 : decode cX12_sends 49 = .ok (.iastore, 1) := by decide +kernel
theorem dX12_sends_50 : decode cX12_sends 50 = .ok (.aload_n 0, 1) := by decide +kernel
theorem dX12_sends_51 : decode cX12_sends 51 = .ok (.getfield 145, 3) := by decide +kernel
theorem dX12_sends_54 : decode cX12_sends 54 = .ok (.iload 6, 2) := by decide +kernel
theorem dX12_sends_56 : decode cX12_sends 56 = .ok (.aload_n 0, 1) := by decide +kernel
theorem dX12_sends_57 : decode cX12_sends 57 = .ok (.getfield 382, 3) := by decide +kernel
theorem dX12_sends_60 : decode cX12_sends 60 = .ok (.iastore, 1) := by decide +kernel
theorem dX12_sends_61 : decode cX12_sends 61 = .ok (.aload_n 0, 1) := by decide +kernel
theorem dX12_sends_62 : decode cX12_sends 62 = .ok (.getfield 148, 3) := by decide +kernel
theorem dX12_sends_65 : decode cX12_sends 65 = .ok (.iload 6, 2) := by decide +kernel
theorem dX12_sends_67 : decode cX12_sends 67 = .ok (.iload 5, 2) := by decide +kernel
theorem dX12_sends_69 : decode cX12_sends 69 = .ok (.bastore, 1) := by decide +kernel
theorem dX12_sends_70 : decode cX12_sends 70 = .ok (.aload_n 0, 1) := by decide +kernel
theorem dX12_sends_71 : decode cX12_sends 71 = .ok (.getfield 151, 3) := by decide +kernel
theorem dX12_sends_74 : decode cX12_sends 74 = .ok (.iload 6, 2) := by decide +kernel
theorem dX12_sends_76 : decode cX12_sends 76 = .ok (.aload_n 0, 1) := by decide +kernel
theorem dX12_sends_77 : decode cX12_sends 77 = .ok (.getfield 366, 3) := by decide +kernel
theorem dX12_sends_80 : decode cX12_sends 80 = .ok (.iconst 1, 1) := by decide +kernel
theorem dX12_sends_81 : decode cX12_sends 81 = .ok (.if_icmp .ne 7, 3) := by decide +kernel
theorem dX12_sends_84 : decode cX12_sends 84 = .ok (.iconst 1, 1) := by decide +kernel
theorem dX12_sends_85 : decode cX12_sends 85 = .ok (.goto 4, 3) := by decide +kernel
theorem dX12_sends_88 : decode cX12_sends 88 = .ok (.iconst 0, 1) := by decide +kernel
theorem dX12_sends_89 : decode cX12_sends 89 = .ok (.bastore, 1) := by decide +kernel
theorem dX12_sends_90 : decode cX12_sends 90 = .ok (.aload_n 0, 1) := by decide +kernel
theorem dX12_sends_91 : decode cX12_sends 91 = .ok (.getfield 157, 3) := by decide +kernel
theorem dX12_sends_94 : decode cX12_sends 94 = .ok (.iload 6, 2) := by decide +kernel
theorem dX12_sends_96 : decode cX12_sends 96 = .ok (.aload_n 0, 1) := by decide +kernel
theorem dX12_sends_97 : decode cX12_sends 97 = .ok (.getfield 190, 3) := by decide +kernel
theorem dX12_sends_100 : decode cX12_sends 100 = .ok (.iload_n 1, 1) := by decide +kernel
theorem dX12_sends_101 : decode cX12_sends 101 = .ok (.iaload, 1) := by decide +kernel
theorem dX12_sends_102 : decode cX12_sends 102 = .ok (.iastore, 1) := by decide +kernel
theorem dX12_sends_103 : decode cX12_sends 103 = .ok (.aload_n 0, 1) := by decide +kernel
theorem dX12_sends_104 : decode cX12_sends 104 = .ok (.getfield 190, 3) := by decide +kernel
theorem dX12_sends_107 : decode cX12_sends 107 = .ok (.iload_n 1, 1) := by decide +kernel
theorem dX12_sends_108 : decode cX12_sends 108 = .ok (.dup2, 1) := by decide +kernel
theorem dX12_sends_109 : decode cX12_sends 109 = .ok (.iaload, 1) := by decide +kernel
theorem dX12_sends_110 : decode cX12_sends 110 = .ok (.iconst 1, 1) := by decide +kernel
theorem dX12_sends_111 : decode cX12_sends 111 = .ok (.iadd, 1) := by decide +kernel
theorem dX12_sends_112 : decode cX12_sends 112 = .ok (.iastore, 1) := by decide +kernel
theorem dX12_sends_113 : decode cX12_sends 113 = .ok (.aload_n 0, 1) := by decide +kernel
theorem dX12_sends_114 : decode cX12_sends 114 = .ok (.getfield 160, 3) := by decide +kernel
theorem dX12_sends_117 : decode cX12_sends 117 = .ok (.iload 6, 2) := by decide +kernel
theorem dX12_sends_119 : decode cX12_sends 119 = .ok (.aload_n 0, 1) := by decide +kernel
theorem dX12_sends_120 : decode cX12_sends 120 = .ok (.getfield 202, 3) := by decide +kernel
theorem dX12_sends_123 : decode cX12_sends 123 = .ok (.iload_n 1, 1) := by decide +kernel
theorem dX12_sends_124 : decode cX12_sends 124 = .ok (.iaload, 1) := by decide +kernel
theorem dX12_sends_125 : decode cX12_sends 125 = .ok (.iastore, 1) := by decide +kernel
theorem dX12_sends_126 : decode cX12_sends 126 = .ok (.aload_n 0, 1) := by decide +kernel
theorem dX12_sends_127 : decode cX12_sends 127 = .ok (.getfield 196, 3) := by decide +kernel
theorem dX12_sends_130 : decode cX12_sends 130 = .ok (.iload_n 1, 1) := by decide +kernel
theorem dX12_sends_131 : decode cX12_sends 131 = .ok (.aload_n 0, 1) := by decide +kernel
theorem dX12_sends_132 : decode cX12_sends 132 = .ok (.getfield 246, 3) := by decide +kernel
theorem dX12_sends_135 : decode cX12_sends 135 = .ok (.iastore, 1) := by decide +kernel
theorem dX12_sends_136 : decode cX12_sends 136 = .ok (.iconst 0, 1) := by decide +kernel
theorem dX12_sends_137 : decode cX12_sends 137 = .ok (.istore 7, 2) := by decide +kernel
theorem dX12_sends_139 : decode cX12_sends 139 = .ok (.iload 7, 2) := by decide +kernel
theorem dX12_sends_141 : decode cX12_sends 141 = .ok (.iload 4, 2) := by decide +kernel
theorem dX12_sends_143 : decode cX12_sends 143 = .ok (.if_icmp .ge 28, 3) := by decide +kernel
theorem dX12_sends_146 : decode cX12_sends 146 = .ok (.aload_n 0, 1) := by decide +kernel
theorem dX12_sends_147 : decode cX12_sends 147 = .ok (.getfield 121, 3) := by decide +kernel
theorem dX12_sends_150 : decode cX12_sends 150 = .ok (.sipush 200, 3) := by decide +kernel
theorem dX12_sends_153 : decode cX12_sends 153 = .ok (.iload_n 2, 1) := by decide +kernel
theorem dX12_sends_154 : decode cX12_sends 154 = .ok (.imul, 1) := by decide +kernel
theorem dX12_sends_155 : decode cX12_sends 155 = .ok (.iload_n 3, 1) := by decide +kernel
theorem dX12_sends_156 : decode cX12_sends 156 = .ok (.iadd, 1) := by decide +kernel
theorem dX12_sends_157 : decode cX12_sends 157 = .ok (.iload 7, 2) := by decide +kernel
theorem dX12_sends_159 : decode cX12_sends 159 = .ok (.iadd, 1) := by decide +kernel
theorem dX12_sends_160 : decode cX12_sends 160 = .ok (.dup2, 1) := by decide +kernel
theorem dX12_sends_161 : decode cX12_sends 161 = .ok (.iaload, 1) := by decide +kernel
theorem dX12_sends_162 : decode cX12_sends 162 = .ok (.iconst 1, 1) := by decide +kernel
theorem dX12_sends_163 : decode cX12_sends 163 = .ok (.iadd, 1) := by decide +kernel
theorem dX12_sends_164 : decode cX12_sends 164 = .ok (.iastore, 1) := by decide +kernel
theorem dX12_sends_165 : decode cX12_sends 165 = .ok (.iinc 7 1, 3) := by decide +kernel
theorem dX12_sends_168 : decode cX12_sends 168 = .ok (.goto (-29), 3) := by decide +kernel
theorem dX12_sends_171 : decode cX12_sends 171 = .ok (.aload_n 0, 1) := by decide +kernel
theorem dX12_sends_172 : decode cX12_sends 172 = .ok (.dup, 1) := by decide +kernel
theorem dX12_sends_173 : decode cX12_sends 173 = .ok (.getfield 313, 3) := by decide +kernel
theorem dX12_sends_176 : decode cX12_sends 176 = .ok (.iconst 1, 1) := by decide +kernel
theorem dX12_sends_177 : decode cX12_sends 177 = .ok (.iadd, 1) := by decide +kernel
theorem dX12_sends_178 : decode cX12_sends 178 = .ok (.putfield 313, 3) := by decide +kernel
theorem dX12_sends_181 : decode cX12_sends 181 = .ok (.aload_n 0, 1) := by decide +kernel
theorem dX12_sends_182 : decode cX12_sends 182 = .ok (.iload_n 1, 1) := by decide +kernel
theorem dX12_sends_183 : decode cX12_sends 183 = .ok (.iconst 2, 1) := by decide +kernel
theorem dX12_sends_184 : decode cX12_sends 184 = .ok (.iload 6, 2) := by decide +kernel
theorem dX12_sends_186 : decode cX12_sends 186 = .ok (.invokevirtual 363, 3) := by decide +kernel
theorem dX12_sends_189 : decode cX12_sends 189 = .ok (.return_, 1) := by decide +kernel
theorem dX12_isLost_0 : decode cX12_isLost 0 = .ok (.iload_n 2, 1) := by decide +kernel
theorem dX12_isLost_1 : decode cX12_isLost 1 = .ok (.aload_n 0, 1) := by decide +kernel
theorem dX12_isLost_2 : decode cX12_isLost 2 = .ok (.getfield 106, 3) := by decide +kernel
theorem dX12_isLost_5 : decode cX12_isLost 5 = .ok (.iload_n 1, 1) := by decide +kernel
theorem dX12_isLost_6 : decode cX12_isLost 6 = .ok (.iaload, 1) := by decide +kernel
theorem dX12_isLost_7 : decode cX12_isLost 7 = .ok (.if_icmp .ge 37, 3) := by decide +kernel
theorem dX12_isLost_10 : decode cX12_isLost 10 = .ok (.aload_n 0, 1) := by decide +kernel
theorem dX12_isLost_11 : decode cX12_isLost 11 = .ok (.getfield 118, 3) := by decide +kernel
theorem dX12_isLost_14 : decode cX12_isLost 14 = .ok (.sipush 200, 3) := by decide +kernel
theorem dX12_isLost_17 : decode cX12_isLost 17 = .ok (.iload_n 1, 1) := by decide +kernel
theorem dX12_isLost_18 : decode cX12_isLost 18 = .ok (.imul, 1) := by decide +kernel
theorem dX12_isLost_19 : decode cX12_isLost 19 = .ok (.iload_n 2, 1) := by decide +kernel
theorem dX12_isLost_20 : decode cX12_isLost 20 = .ok (.iadd, 1) := by decide +kernel
theorem dX12_isLost_21 : decode cX12_isLost 21 = .ok (.baload, 1) := by decide +kernel
theorem dX12_isLost_22 : decode cX12_isLost 22 = .ok (.ifCond .ne 22, 3) := by decide +kernel
theorem dX12_isLost_25 : decode cX12_isLost 25 = .ok (.aload_n 0, 1) := by decide +kernel
theorem dX12_isLost_26 : decode cX12_isLost 26 = .ok (.getfield 121, 3) := by decide +kernel
theorem dX12_isLost_29 : decode cX12_isLost 29 = .ok (.sipush 200, 3) := by decide +kernel
theorem dX12_isLost_32 : decode cX12_isLost 32 = .ok (.iload_n 1, 1) := by decide +kernel
theorem dX12_isLost_33 : decode cX12_isLost 33 = .ok (.imul, 1) := by decide +kernel
theorem dX12_isLost_34 : decode cX12_isLost 34 = .ok (.iload_n 2, 1) := by decide +kernel
theorem dX12_isLost_35 : decode cX12_isLost 35 = .ok (.iadd, 1) := by decide +kernel
theorem dX12_isLost_36 : decode cX12_isLost 36 = .ok (.iaload, 1) := by decide +kernel
theorem dX12_isLost_37 : decode cX12_isLost 37 = .ok (.ifCond .ne 7, 3) := by decide +kernel
theorem dX12_isLost_40 : decode cX12_isLost 40 = .ok (.iconst 1, 1) := by decide +kernel
theorem dX12_isLost_41 : decode cX12_isLost 41 = .ok (.goto 4, 3) := by decide +kernel
theorem dX12_isLost_44 : decode cX12_isLost 44 = .ok (.iconst 0, 1) := by decide +kernel
theorem dX12_isLost_45 : decode cX12_isLost 45 = .ok (.ireturn, 1) := by decide +kernel
theorem dX12_firstLost_0 : decode cX12_firstLost 0 = .ok (.iconst 0, 1) := by decide +kernel
theorem dX12_firstLost_1 : decode cX12_firstLost 1 = .ok (.istore_n 2, 1) := by decide +kernel
theorem dX12_firstLost_2 : decode cX12_firstLost 2 = .ok (.iload_n 2, 1) := by decide +kernel
theorem dX12_firstLost_3 : decode cX12_firstLost 3 = .ok (.aload_n 0, 1) := by decide +kernel
theorem dX12_firstLost_4 : decode cX12_firstLost 4 = .ok (.getfield 106, 3) := by decide +kernel
theorem dX12_firstLost_7 : decode cX12_firstLost 7 = .ok (.iload_n 1, 1) := by decide +kernel
theorem dX12_firstLost_8 : decode cX12_firstLost 8 = .ok (.iaload, 1) := by decide +kernel
theorem dX12_firstLost_9 : decode cX12_firstLost 9 = .ok (.if_icmp .ge 20, 3) := by decide +kernel
theorem dX12_firstLost_12 : decode cX12_firstLost 12 = .ok (.aload_n 0, 1) := by decide +kernel
theorem dX12_firstLost_13 : decode cX12_firstLost 13 = .ok (.iload_n 1, 1) := by decide +kernel
theorem dX12_firstLost_14 : decode cX12_firstLost 14 = .ok (.iload_n 2, 1) := by decide +kernel
theorem dX12_firstLost_15 : decode cX12_firstLost 15 = .ok (.invokevirtual 385, 3) := by decide +kernel
theorem dX12_firstLost_18 : decode cX12_firstLost 18 = .ok (.ifCond .eq 5, 3) := by decide +kernel
theorem dX12_firstLost_21 : decode cX12_firstLost 21 = .ok (.iload_n 2, 1) := by decide +kernel
theorem dX12_firstLost_22 : decode cX12_firstLost 22 = .ok (.ireturn, 1) := by decide +kernel
theorem dX12_firstLost_23 : decode cX12_firstLost 23 = .ok (.iinc 2 1, 3) := by decide +kernel
theorem dX12_firstLost_26 : decode cX12_firstLost 26 = .ok (.goto (-24), 3) := by decide +kernel
theorem dX12_firstLost_29 : decode cX12_firstLost 29 = .ok (.iconst (-1), 1) := by decide +kernel
theorem dX12_firstLost_30 : decode cX12_firstLost 30 = .ok (.ireturn, 1) := by decide +kernel
theorem dX12_sentInAll_0 : decode cX12_sentInAll 0 = .ok (.aload_n 0, 1) := by decide +kernel
theorem dX12_sentInAll_1 : decode cX12_sentInAll 1 = .ok (.getfield 106, 3) := by decide +kernel
theorem dX12_sentInAll_4 : decode cX12_sentInAll 4 = .ok (.iconst 0, 1) := by decide +kernel
theorem dX12_sentInAll_5 : decode cX12_sentInAll 5 = .ok (.iaload, 1) := by decide +kernel
theorem dX12_sentInAll_6 : decode cX12_sentInAll 6 = .ok (.aload_n 0, 1) := by decide +kernel
theorem dX12_sentInAll_7 : decode cX12_sentInAll 7 = .ok (.getfield 106, 3) := by decide +kernel
theorem dX12_sentInAll_10 : decode cX12_sentInAll 10 = .ok (.iconst 1, 1) := by decide +kernel
theorem dX12_sentInAll_11 : decode cX12_sentInAll 11 = .ok (.iaload, 1) := by decide +kernel
theorem dX12_sentInAll_12 : decode cX12_sentInAll 12 = .ok (.iadd, 1) := by decide +kernel
theorem dX12_sentInAll_13 : decode cX12_sentInAll 13 = .ok (.aload_n 0, 1) := by decide +kernel
theorem dX12_sentInAll_14 : decode cX12_sentInAll 14 = .ok (.getfield 106, 3) := by decide +kernel
theorem dX12_sentInAll_17 : decode cX12_sentInAll 17 = .ok (.iconst 2, 1) := by decide +kernel
theorem dX12_sentInAll_18 : decode cX12_sentInAll 18 = .ok (.iaload, 1) := by decide +kernel
theorem dX12_sentInAll_19 : decode cX12_sentInAll 19 = .ok (.iadd, 1) := by decide +kernel
theorem dX12_sentInAll_20 : decode cX12_sentInAll 20 = .ok (.aload_n 0, 1) := by decide +kernel
theorem dX12_sentInAll_21 : decode cX12_sentInAll 21 = .ok (.getfield 106, 3) := by decide +kernel
theorem dX12_sentInAll_24 : decode cX12_sentInAll 24 = .ok (.iconst 3, 1) := by decide +kernel
theorem dX12_sentInAll_25 : decode cX12_sentInAll 25 = .ok (.iaload, 1) := by decide +kernel
theorem dX12_sentInAll_26 : decode cX12_sentInAll 26 = .ok (.iadd, 1) := by decide +kernel
theorem dX12_sentInAll_27 : decode cX12_sentInAll 27 = .ok (.ireturn, 1) := by decide +kernel
theorem dX12_newOf_0 : decode cX12_newOf 0 = .ok (.aload_n 0, 1) := by decide +kernel
theorem dX12_newOf_1 : decode cX12_newOf 1 = .ok (.getfield 103, 3) := by decide +kernel
theorem dX12_newOf_4 : decode cX12_newOf 4 = .ok (.iload_n 1, 1) := by decide +kernel
theorem dX12_newOf_5 : decode cX12_newOf 5 = .ok (.iaload, 1) := by decide +kernel
theorem dX12_newOf_6 : decode cX12_newOf 6 = .ok (.aload_n 0, 1) := by decide +kernel
theorem dX12_newOf_7 : decode cX12_newOf 7 = .ok (.getfield 106, 3) := by decide +kernel
theorem dX12_newOf_10 : decode cX12_newOf 10 = .ok (.iload_n 1, 1) := by decide +kernel
theorem dX12_newOf_11 : decode cX12_newOf 11 = .ok (.iaload, 1) := by decide +kernel
theorem dX12_newOf_12 : decode cX12_newOf 12 = .ok (.isub, 1) := by decide +kernel
theorem dX12_newOf_13 : decode cX12_newOf 13 = .ok (.istore_n 2, 1) := by decide +kernel
theorem dX12_newOf_14 : decode cX12_newOf 14 = .ok (.aload_n 0, 1) := by decide +kernel
theorem dX12_newOf_15 : decode cX12_newOf 15 = .ok (.getfield 109, 3) := by decide +kernel
theorem dX12_newOf_18 : decode cX12_newOf 18 = .ok (.iload_n 1, 1) := by decide +kernel
theorem dX12_newOf_19 : decode cX12_newOf 19 = .ok (.iaload, 1) := by decide +kernel
theorem dX12_newOf_20 : decode cX12_newOf 20 = .ok (.aload_n 0, 1) := by decide +kernel
theorem dX12_newOf_21 : decode cX12_newOf 21 = .ok (.getfield 106, 3) := by decide +kernel
theorem dX12_newOf_24 : decode cX12_newOf 24 = .ok (.iload_n 1, 1) := by decide +kernel
theorem dX12_newOf_25 : decode cX12_newOf 25 = .ok (.iaload, 1) := by decide +kernel
theorem dX12_newOf_26 : decode cX12_newOf 26 = .ok (.isub, 1) := by decide +kernel
theorem dX12_newOf_27 : decode cX12_newOf 27 = .ok (.istore_n 3, 1) := by decide +kernel
theorem dX12_newOf_28 : decode cX12_newOf 28 = .ok (.aload_n 0, 1) := by decide +kernel
theorem dX12_newOf_29 : decode cX12_newOf 29 = .ok (.getfield 112, 3) := by decide +kernel
theorem dX12_newOf_32 : decode cX12_newOf 32 = .ok (.aload_n 0, 1) := by decide +kernel
theorem dX12_newOf_33 : decode cX12_newOf 33 = .ok (.invokevirtual 389, 3) := by decide +kernel
theorem dX12_newOf_36 : decode cX12_newOf 36 = .ok (.isub, 1) := by decide +kernel
theorem dX12_newOf_37 : decode cX12_newOf 37 = .ok (.istore 4, 2) := by decide +kernel
theorem dX12_newOf_39 : decode cX12_newOf 39 = .ok (.iload_n 2, 1) := by decide +kernel
theorem dX12_newOf_40 : decode cX12_newOf 40 = .ok (.iload_n 3, 1) := by decide +kernel
theorem dX12_newOf_41 : decode cX12_newOf 41 = .ok (.if_icmp .ge 7, 3) := by decide +kernel
theorem dX12_newOf_44 : decode cX12_newOf 44 = .ok (.iload_n 2, 1) := by decide +kernel
theorem dX12_newOf_45 : decode cX12_newOf 45 = .ok (.goto 4, 3) := by decide +kernel
theorem dX12_newOf_48 : decode cX12_newOf 48 = .ok (.iload_n 3, 1) := by decide +kernel
theorem dX12_newOf_49 : decode cX12_newOf 49 = .ok (.istore_n 2, 1) := by decide +kernel
theorem dX12_newOf_50 : decode cX12_newOf 50 = .ok (.iload_n 2, 1) := by decide +kernel
theorem dX12_newOf_51 : decode cX12_newOf 51 = .ok (.iload 4, 2) := by decide +kernel
theorem dX12_newOf_53 : decode cX12_newOf 53 = .ok (.if_icmp .ge 7, 3) := by decide +kernel
theorem dX12_newOf_56 : decode cX12_newOf 56 = .ok (.iload_n 2, 1) := by decide +kernel
theorem dX12_newOf_57 : decode cX12_newOf 57 = .ok (.goto 5, 3) := by decide +kernel
theorem dX12_newOf_60 : decode cX12_newOf 60 = .ok (.iload 4, 2) := by decide +kernel
theorem dX12_newOf_62 : decode cX12_newOf 62 = .ok (.istore_n 2, 1) := by decide +kernel
theorem dX12_newOf_63 : decode cX12_newOf 63 = .ok (.iload_n 2, 1) := by decide +kernel
theorem dX12_newOf_64 : decode cX12_newOf 64 = .ok (.bipush 10, 2) := by decide +kernel
theorem dX12_newOf_66 : decode cX12_newOf 66 = .ok (.if_icmp .le 8, 3) := by decide +kernel
theorem dX12_newOf_69 : decode cX12_newOf 69 = .ok (.bipush 10, 2) := by decide +kernel
theorem dX12_newOf_71 : decode cX12_newOf 71 = .ok (.goto 4, 3) := by decide +kernel
theorem dX12_newOf_74 : decode cX12_newOf 74 = .ok (.iload_n 2, 1) := by decide +kernel
theorem dX12_newOf_75 : decode cX12_newOf 75 = .ok (.ireturn, 1) := by decide +kernel
theorem dX12_canTake_0 : decode cX12_canTake 0 = .ok (.iconst 1, 1) := by decide +kernel
theorem dX12_canTake_1 : decode cX12_canTake 1 = .ok (.aload_n 0, 1) := by decide +kernel
theorem dX12_canTake_2 : decode cX12_canTake 2 = .ok (.getfield 172, 3) := by decide +kernel
theorem dX12_canTake_5 : decode cX12_canTake 5 = .ok (.iload_n 1, 1) := by decide +kernel
theorem dX12_canTake_6 : decode cX12_canTake 6 = .ok (.iaload, 1) := by decide +kernel
theorem dX12_canTake_7 : decode cX12_canTake 7 = .ok (.bipush 8, 2) := by decide +kernel
theorem dX12_canTake_9 : decode cX12_canTake 9 = .ok (.idiv, 1) := by decide +kernel
theorem dX12_canTake_10 : decode cX12_canTake 10 = .ok (.invokestatic 288, 3) := by decide +kernel
theorem dX12_canTake_13 : decode cX12_canTake 13 = .ok (.istore_n 2, 1) := by decide +kernel
theorem dX12_canTake_14 : decode cX12_canTake 14 = .ok (.iconst 2, 1) := by decide +kernel
theorem dX12_canTake_15 : decode cX12_canTake 15 = .ok (.aload_n 0, 1) := by decide +kernel
theorem dX12_canTake_16 : decode cX12_canTake 16 = .ok (.getfield 163, 3) := by decide +kernel
theorem dX12_canTake_19 : decode cX12_canTake 19 = .ok (.iload_n 1, 1) := by decide +kernel
theorem dX12_canTake_20 : decode cX12_canTake 20 = .ok (.iaload, 1) := by decide +kernel
theorem dX12_canTake_21 : decode cX12_canTake 21 = .ok (.bipush 16, 2) := by decide +kernel
theorem dX12_canTake_23 : decode cX12_canTake 23 = .ok (.idiv, 1) := by decide +kernel
theorem dX12_canTake_24 : decode cX12_canTake 24 = .ok (.iconst 2, 1) := by decide +kernel
theorem dX12_canTake_25 : decode cX12_canTake 25 = .ok (.imul, 1) := by decide +kernel
theorem dX12_canTake_26 : decode cX12_canTake 26 = .ok (.iload_n 2, 1) := by decide +kernel
theorem dX12_canTake_27 : decode cX12_canTake 27 = .ok (.iadd, 1) := by decide +kernel
theorem dX12_canTake_28 : decode cX12_canTake 28 = .ok (.iconst 1, 1) := by decide +kernel
theorem dX12_canTake_29 : decode cX12_canTake 29 = .ok (.isub, 1) := by decide +kernel
theorem dX12_canTake_30 : decode cX12_canTake 30 = .ok (.iload_n 2, 1) := by decide +kernel
theorem dX12_canTake_31 : decode cX12_canTake 31 = .ok (.idiv, 1) := by decide +kernel
theorem dX12_canTake_32 : decode cX12_canTake 32 = .ok (.invokestatic 288, 3) := by decide +kernel
theorem dX12_canTake_35 : decode cX12_canTake 35 = .ok (.istore_n 3, 1) := by decide +kernel
theorem dX12_canTake_36 : decode cX12_canTake 36 = .ok (.aload_n 0, 1) := by decide +kernel
theorem dX12_canTake_37 : decode cX12_canTake 37 = .ok (.getfield 393, 3) := by decide +kernel
theorem dX12_canTake_40 : decode cX12_canTake 40 = .ok (.iconst 2, 1) := by decide +kernel
theorem dX12_canTake_41 : decode cX12_canTake 41 = .ok (.if_icmp .eq 11, 3) := by decide +kernel
theorem dX12_canTake_44 : decode cX12_canTake 44 = .ok (.aload_n 0, 1) := by decide +kernel
theorem dX12_canTake_45 : decode cX12_canTake 45 = .ok (.getfield 393, 3) := by decide +kernel
theorem dX12_canTake_48 : decode cX12_canTake 48 = .ok (.iload_n 1, 1) := by decide +kernel
theorem dX12_canTake_49 : decode cX12_canTake 49 = .ok (.if_icmp .ne 36, 3) := by decide +kernel
theorem dX12_canTake_52 : decode cX12_canTake 52 = .ok (.bipush 16, 2) := by decide +kernel
theorem dX12_canTake_54 : decode cX12_canTake 54 = .ok (.aload_n 0, 1) := by decide +kernel
theorem dX12_canTake_55 : decode cX12_canTake 55 = .ok (.iload_n 1, 1) := by decide +kernel
theorem dX12_canTake_56 : decode cX12_canTake 56 = .ok (.invokevirtual 396, 3) := by decide +kernel
theorem dX12_canTake_59 : decode cX12_canTake 59 = .ok (.iconst 1, 1) := by decide +kernel
theorem dX12_canTake_60 : decode cX12_canTake 60 = .ok (.iadd, 1) := by decide +kernel
theorem dX12_canTake_61 : decode cX12_canTake 61 = .ok (.imul, 1) := by decide +kernel
theorem dX12_canTake_62 : decode cX12_canTake 62 = .ok (.aload_n 0, 1) := by decide +kernel
theorem dX12_canTake_63 : decode cX12_canTake 63 = .ok (.getfield 163, 3) := by decide +kernel
theorem dX12_canTake_66 : decode cX12_canTake 66 = .ok (.iload_n 1, 1) := by decide +kernel
theorem dX12_canTake_67 : decode cX12_canTake 67 = .ok (.iaload, 1) := by decide +kernel
theorem dX12_canTake_68 : decode cX12_canTake 68 = .ok (.if_icmp .gt 17, 3) := by decide +kernel
theorem dX12_canTake_71 : decode cX12_canTake 71 = .ok (.aload_n 0, 1) := by decide +kernel
theorem dX12_canTake_72 : decode cX12_canTake 72 = .ok (.getfield 226, 3) := by decide +kernel
theorem dX12_canTake_75 : decode cX12_canTake 75 = .ok (.iload_n 1, 1) := by decide +kernel
theorem dX12_canTake_76 : decode cX12_canTake 76 = .ok (.iaload, 1) := by decide +kernel
theorem dX12_canTake_77 : decode cX12_canTake 77 = .ok (.iload_n 3, 1) := by decide +kernel
theorem dX12_canTake_78 : decode cX12_canTake 78 = .ok (.if_icmp .ge 7, 3) := by decide +kernel
theorem dX12_canTake_81 : decode cX12_canTake 81 = .ok (.iconst 1, 1) := by decide +kernel
theorem dX12_canTake_82 : decode cX12_canTake 82 = .ok (.goto 4, 3) := by decide +kernel
theorem dX12_canTake_85 : decode cX12_canTake 85 = .ok (.iconst 0, 1) := by decide +kernel
theorem dX12_canTake_86 : decode cX12_canTake 86 = .ok (.ireturn, 1) := by decide +kernel
theorem dX12_nextPath_0 : decode cX12_nextPath 0 = .ok (.aload_n 0, 1) := by decide +kernel
theorem dX12_nextPath_1 : decode cX12_nextPath 1 = .ok (.iconst 0, 1) := by decide +kernel
theorem dX12_nextPath_2 : decode cX12_nextPath 2 = .ok (.invokevirtual 399, 3) := by decide +kernel
theorem dX12_nextPath_5 : decode cX12_nextPath 5 = .ok (.istore_n 1, 1) := by decide +kernel
theorem dX12_nextPath_6 : decode cX12_nextPath 6 = .ok (.aload_n 0, 1) := by decide +kernel
theorem dX12_nextPath_7 : decode cX12_nextPath 7 = .ok (.iconst 1, 1) := by decide +kernel
theorem dX12_nextPath_8 : decode cX12_nextPath 8 = .ok (.invokevirtual 399, 3) := by decide +kernel
theorem dX12_nextPath_11 : decode cX12_nextPath 11 = .ok (.istore_n 2, 1) := by decide +kernel
theorem dX12_nextPath_12 : decode cX12_nextPath 12 = .ok (.iload_n 1, 1) := by decide +kernel
theorem dX12_nextPath_13 : decode cX12_nextPath 13 = .ok (.ifCond .eq 28, 3) := by decide +kernel
theorem dX12_nextPath_16 : decode cX12_nextPath 16 = .ok (.iload_n 2, 1) := by decide +kernel
theorem dX12_nextPath_17 : decode cX12_nextPath 17 = .ok (.ifCond .eq 24, 3) := by decide +kernel
theorem dX12_nextPath_20 : decode cX12_nextPath 20 = .ok (.aload_n 0, 1) := by decide +kernel
theorem dX12_nextPath_21 : decode cX12_nextPath 21 = .ok (.iconst 1, 1) := by decide +kernel
theorem dX12_nextPath_22 : decode cX12_nextPath 22 = .ok (.invokevirtual 396, 3) := by decide +kernel
theorem dX12_nextPath_25 : decode cX12_nextPath 25 = .ok (.aload_n 0, 1) := by decide +kernel
theorem dX12_nextPath_26 : decode cX12_nextPath 26 = .ok (.iconst 0, 1) := by decide +kernel
theorem dX12_nextPath_27 : decode cX12_nextPath 27 = .ok (.invokevirtual 396, 3) := by decide +kernel
theorem dX12_nextPath_30 : decode cX12_nextPath 30 = .ok (.if_icmp .ge 7, 3) := by decide +kernel
theorem dX12_nextPath_33 : decode cX12_nextPath 33 = .ok (.iconst 1, 1) := by decide +kernel
theorem dX12_nextPath_34 : decode cX12_nextPath 34 = .ok (.goto 24, 3) := by decide +kernel
theorem dX12_nextPath_37 : decode cX12_nextPath 37 = .ok (.iconst 0, 1) := by decide +kernel
theorem dX12_nextPath_38 : decode cX12_nextPath 38 = .ok (.goto 20, 3) := by decide +kernel
theorem dX12_nextPath_41 : decode cX12_nextPath 41 = .ok (.iload_n 1, 1) := by decide +kernel
theorem dX12_nextPath_42 : decode cX12_nextPath 42 = .ok (.ifCond .eq 7, 3) := by decide +kernel
theorem dX12_nextPath_45 : decode cX12_nextPath 45 = .ok (.iconst 0, 1) := by decide +kernel
theorem dX12_nextPath_46 : decode cX12_nextPath 46 = .ok (.goto 12, 3) := by decide +kernel
theorem dX12_nextPath_49 : decode cX12_nextPath 49 = .ok (.iload_n 2, 1) := by decide +kernel
theorem dX12_nextPath_50 : decode cX12_nextPath 50 = .ok (.ifCond .eq 7, 3) := by decide +kernel
theorem dX12_nextPath_53 : decode cX12_nextPath 53 = .ok (.iconst 1, 1) := by decide +kernel
theorem dX12_nextPath_54 : decode cX12_nextPath 54 = .ok (.goto 4, 3) := by decide +kernel
theorem dX12_nextPath_57 : decode cX12_nextPath 57 = .ok (.iconst (-1), 1) := by decide +kernel
theorem dX12_nextPath_58 : decode cX12_nextPath 58 = .ok (.ireturn, 1) := by decide +kernel
theorem dX12_sendsNext_0 : decode cX12_sendsNext 0 = .ok (.iconst 0, 1) := by decide +kernel
theorem dX12_sendsNext_1 : decode cX12_sendsNext 1 = .ok (.istore_n 2, 1) := by decide +kernel
theorem dX12_sendsNext_2 : decode cX12_sendsNext 2 = .ok (.iload_n 2, 1) := by decide +kernel
theorem dX12_sendsNext_3 : decode cX12_sendsNext 3 = .ok (.iconst 4, 1) := by decide +kernel
theorem dX12_sendsNext_4 : decode cX12_sendsNext 4 = .ok (.if_icmp .ge 70, 3) := by decide +kernel
theorem dX12_sendsNext_7 : decode cX12_sendsNext 7 = .ok (.aload_n 0, 1) := by decide +kernel
theorem dX12_sendsNext_8 : decode cX12_sendsNext 8 = .ok (.iload_n 2, 1) := by decide +kernel
theorem dX12_sendsNext_9 : decode cX12_sendsNext 9 = .ok (.invokevirtual 402, 3) := by decide +kernel
theorem dX12_sendsNext_12 : decode cX12_sendsNext 12 = .ok (.istore_n 3, 1) := by decide +kernel
theorem dX12_sendsNext_13 : decode cX12_sendsNext 13 = .ok (.iload_n 3, 1) := by decide +kernel
theorem dX12_sendsNext_14 : decode cX12_sendsNext 14 = .ok (.iconst (-1), 1) := by decide +kernel
theorem dX12_sendsNext_15 : decode cX12_sendsNext 15 = .ok (.if_icmp .eq 53, 3) := by decide +kernel
theorem dX12_sendsNext_18 : decode cX12_sendsNext 18 = .ok (.iconst 1, 1) := by decide +kernel
theorem dX12_sendsNext_19 : decode cX12_sendsNext 19 = .ok (.istore 4, 2) := by decide +kernel
theorem dX12_sendsNext_21 : decode cX12_sendsNext 21 = .ok (.iload 4, 2) := by decide +kernel
theorem dX12_sendsNext_23 : decode cX12_sendsNext 23 = .ok (.bipush 10, 2) := by decide +kernel
theorem dX12_sendsNext_25 : decode cX12_sendsNext 25 = .ok (.if_icmp .ge 31, 3) := by decide +kernel
theorem dX12_sendsNext_28 : decode cX12_sendsNext 28 = .ok (.iload_n 3, 1) := by decide +kernel
theorem dX12_sendsNext_29 : decode cX12_sendsNext 29 = .ok (.iload 4, 2) := by decide +kernel
theorem dX12_sendsNext_31 : decode cX12_sendsNext 31 = .ok (.iadd, 1) := by decide +kernel
theorem dX12_sendsNext_32 : decode cX12_sendsNext 32 = .ok (.sipush 200, 3) := by decide +kernel
theorem dX12_sendsNext_35 : decode cX12_sendsNext 35 = .ok (.if_icmp .ge 21, 3) := by decide +kernel
theorem dX12_sendsNext_38 : decode cX12_sendsNext 38 = .ok (.aload_n 0, 1) := by decide +kernel
theorem dX12_sendsNext_39 : decode cX12_sendsNext 39 = .ok (.iload_n 2, 1) := by decide +kernel
theorem dX12_sendsNext_40 : decode cX12_sendsNext 40 = .ok (.iload_n 3, 1) := by decide +kernel
theorem dX12_sendsNext_41 : decode cX12_sendsNext 41 = .ok (.iload 4, 2) := by decide +kernel
theorem dX12_sendsNext_43 : decode cX12_sendsNext 43 = .ok (.iadd, 1) := by decide +kernel
theorem dX12_sendsNext_44 : decode cX12_sendsNext 44 = .ok (.invokevirtual 385, 3) := by decide +kernel
theorem dX12_sendsNext_47 : decode cX12_sendsNext 47 = .ok (.ifCond .eq 9, 3) := by decide +kernel
theorem dX12_sendsNext_50 : decode cX12_sendsNext 50 = .ok (.iinc 4 1, 3) := by decide +kernel
theorem dX12_sendsNext_53 : decode cX12_sendsNext 53 = .ok (.goto (-32), 3) := by decide +kernel
theorem dX12_sendsNext_56 : decode cX12_sendsNext 56 = .ok (.aload_n 0, 1) := by decide +kernel
theorem dX12_sendsNext_57 : decode cX12_sendsNext 57 = .ok (.iload_n 1, 1) := by decide +kernel
theorem dX12_sendsNext_58 : decode cX12_sendsNext 58 = .ok (.iload_n 2, 1) := by decide +kernel
theorem dX12_sendsNext_59 : decode cX12_sendsNext 59 = .ok (.iload_n 3, 1) := by decide +kernel
theorem dX12_sendsNext_60 : decode cX12_sendsNext 60 = .ok (.iload 4, 2) := by decide +kernel
theorem dX12_sendsNext_62 : decode cX12_sendsNext 62 = .ok (.iconst 0, 1) := by decide +kernel
theorem dX12_sendsNext_63 : decode cX12_sendsNext 63 = .ok (.invokevirtual 405, 3) := by decide +kernel
theorem dX12_sendsNext_66 : decode cX12_sendsNext 66 = .ok (.iconst 1, 1) := by decide +kernel
theorem dX12_sendsNext_67 : decode cX12_sendsNext 67 = .ok (.ireturn, 1) := by decide +kernel
theorem dX12_sendsNext_68 : decode cX12_sendsNext 68 = .ok (.iinc 2 1, 3) := by decide +kernel
theorem dX12_sendsNext_71 : decode cX12_sendsNext 71 = .ok (.goto (-69), 3) := by decide +kernel
theorem dX12_sendsNext_74 : decode cX12_sendsNext 74 = .ok (.iconst 1, 1) := by decide +kernel
theorem dX12_sendsNext_75 : decode cX12_sendsNext 75 = .ok (.istore_n 2, 1) := by decide +kernel
theorem dX12_sendsNext_76 : decode cX12_sendsNext 76 = .ok (.iload_n 2, 1) := by decide +kernel
theorem dX12_sendsNext_77 : decode cX12_sendsNext 77 = .ok (.iconst 4, 1) := by decide +kernel
theorem dX12_sendsNext_78 : decode cX12_sendsNext 78 = .ok (.if_icmp .gt 66, 3) := by decide +kernel
theorem dX12_sendsNext_81 : decode cX12_sendsNext 81 = .ok (.aload_n 0, 1) := by decide +kernel
theorem dX12_sendsNext_82 : decode cX12_sendsNext 82 = .ok (.getfield 115, 3) := by decide +kernel
theorem dX12_sendsNext_85 : decode cX12_sendsNext 85 = .ok (.iload_n 2, 1) := by decide +kernel
theorem dX12_sendsNext_86 : decode cX12_sendsNext 86 = .ok (.iadd, 1) := by decide +kernel
theorem dX12_sendsNext_87 : decode cX12_sendsNext 87 = .ok (.iconst 4, 1) := by decide +kernel
theorem dX12_sendsNext_88 : decode cX12_sendsNext 88 = .ok (.irem, 1) := by decide +kernel
theorem dX12_sendsNext_89 : decode cX12_sendsNext 89 = .ok (.istore_n 3, 1) := by decide +kernel
theorem dX12_sendsNext_90 : decode cX12_sendsNext 90 = .ok (.aload_n 0, 1) := by decide +kernel
theorem dX12_sendsNext_91 : decode cX12_sendsNext 91 = .ok (.iload_n 3, 1) := by decide +kernel
theorem dX12_sendsNext_92 : decode cX12_sendsNext 92 = .ok (.invokevirtual 409, 3) := by decide +kernel
theorem dX12_sendsNext_95 : decode cX12_sendsNext 95 = .ok (.istore 4, 2) := by decide +kernel
theorem dX12_sendsNext_97 : decode cX12_sendsNext 97 = .ok (.iload 4, 2) := by decide +kernel
theorem dX12_sendsNext_99 : decode cX12_sendsNext 99 = .ok (.ifCond .le 39, 3) := by decide +kernel
theorem dX12_sendsNext_102 : decode cX12_sendsNext 102 = .ok (.aload_n 0, 1) := by decide +kernel
theorem dX12_sendsNext_103 : decode cX12_sendsNext 103 = .ok (.getfield 106, 3) := by decide +kernel
theorem dX12_sendsNext_106 : decode cX12_sendsNext 106 = .ok (.iload_n 3, 1) := by decide +kernel
theorem dX12_sendsNext_107 : decode cX12_sendsNext 107 = .ok (.dup2, 1) := by decide +kernel
theorem dX12_sendsNext_108 : decode cX12_sendsNext 108 = .ok (.iaload, 1) := by decide +kernel
theorem dX12_sendsNext_109 : decode cX12_sendsNext 109 = .ok (.iload 4, 2) := by decide +kernel
theorem dX12_sendsNext_111 : decode cX12_sendsNext 111 = .ok (.iadd, 1) := by decide +kernel
theorem dX12_sendsNext_112 : decode cX12_sendsNext 112 = .ok (.iastore, 1) := by decide +kernel
theorem dX12_sendsNext_113 : decode cX12_sendsNext 113 = .ok (.aload_n 0, 1) := by decide +kernel
theorem dX12_sendsNext_114 : decode cX12_sendsNext 114 = .ok (.iload_n 3, 1) := by decide +kernel
theorem dX12_sendsNext_115 : decode cX12_sendsNext 115 = .ok (.putfield 115, 3) := by decide +kernel
theorem dX12_sendsNext_118 : decode cX12_sendsNext 118 = .ok (.aload_n 0, 1) := by decide +kernel
theorem dX12_sendsNext_119 : decode cX12_sendsNext 119 = .ok (.iload_n 1, 1) := by decide +kernel
theorem dX12_sendsNext_120 : decode cX12_sendsNext 120 = .ok (.iload_n 3, 1) := by decide +kernel
theorem dX12_sendsNext_121 : decode cX12_sendsNext 121 = .ok (.aload_n 0, 1) := by decide +kernel
theorem dX12_sendsNext_122 : decode cX12_sendsNext 122 = .ok (.getfield 106, 3) := by decide +kernel
theorem dX12_sendsNext_125 : decode cX12_sendsNext 125 = .ok (.iload_n 3, 1) := by decide +kernel
theorem dX12_sendsNext_126 : decode cX12_sendsNext 126 = .ok (.iaload, 1) := by decide +kernel
theorem dX12_sendsNext_127 : decode cX12_sendsNext 127 = .ok (.iload 4, 2) := by decide +kernel
theorem dX12_sendsNext_129 : decode cX12_sendsNext 129 = .ok (.isub, 1) := by decide +kernel
theorem dX12_sendsNext_130 : decode cX12_sendsNext 130 = .ok (.iload 4, 2) := by decide +kernel
theorem dX12_sendsNext_132 : decode cX12_sendsNext 132 = .ok (.iconst 0, 1) := by decide +kernel
theorem dX12_sendsNext_133 : decode cX12_sendsNext 133 = .ok (.invokevirtual 405, 3) := by decide +kernel
theorem dX12_sendsNext_136 : decode cX12_sendsNext 136 = .ok (.iconst 1, 1) := by decide +kernel
theorem dX12_sendsNext_137 : decode cX12_sendsNext 137 = .ok (.ireturn, 1) := by decide +kernel
theorem dX12_sendsNext_138 : decode cX12_sendsNext 138 = .ok (.iinc 2 1, 3) := by decide +kernel
theorem dX12_sendsNext_141 : decode cX12_sendsNext 141 = .ok (.goto (-65), 3) := by decide +kernel
theorem dX12_sendsNext_144 : decode cX12_sendsNext 144 = .ok (.iconst 0, 1) := by decide +kernel
theorem dX12_sendsNext_145 : decode cX12_sendsNext 145 = .ok (.ireturn, 1) := by decide +kernel
theorem dX12_sendsAll_0 : decode cX12_sendsAll 0 = .ok (.aload_n 0, 1) := by decide +kernel
theorem dX12_sendsAll_1 : decode cX12_sendsAll 1 = .ok (.getfield 226, 3) := by decide +kernel
theorem dX12_sendsAll_4 : decode cX12_sendsAll 4 = .ok (.iconst 0, 1) := by decide +kernel
theorem dX12_sendsAll_5 : decode cX12_sendsAll 5 = .ok (.iconst 0, 1) := by decide +kernel
theorem dX12_sendsAll_6 : decode cX12_sendsAll 6 = .ok (.iastore, 1) := by decide +kernel
theorem dX12_sendsAll_7 : decode cX12_sendsAll 7 = .ok (.aload_n 0, 1) := by decide +kernel
theorem dX12_sendsAll_8 : decode cX12_sendsAll 8 = .ok (.getfield 226, 3) := by decide +kernel
theorem dX12_sendsAll_11 : decode cX12_sendsAll 11 = .ok (.iconst 1, 1) := by decide +kernel
theorem dX12_sendsAll_12 : decode cX12_sendsAll 12 = .ok (.iconst 0, 1) := by decide +kernel
theorem dX12_sendsAll_13 : decode cX12_sendsAll 13 = .ok (.iastore, 1) := by decide +kernel
theorem dX12_sendsAll_14 : decode cX12_sendsAll 14 = .ok (.aload_n 0, 1) := by decide +kernel
theorem dX12_sendsAll_15 : decode cX12_sendsAll 15 = .ok (.getfield 366, 3) := by decide +kernel
theorem dX12_sendsAll_18 : decode cX12_sendsAll 18 = .ok (.iconst 2, 1) := by decide +kernel
theorem dX12_sendsAll_19 : decode cX12_sendsAll 19 = .ok (.if_icmp .eq 19, 3) := by decide +kernel
theorem dX12_sendsAll_22 : decode cX12_sendsAll 22 = .ok (.aload_n 0, 1) := by decide +kernel
theorem dX12_sendsAll_23 : decode cX12_sendsAll 23 = .ok (.getfield 366, 3) := by decide +kernel
theorem dX12_sendsAll_26 : decode cX12_sendsAll 26 = .ok (.iconst 1, 1) := by decide +kernel
theorem dX12_sendsAll_27 : decode cX12_sendsAll 27 = .ok (.if_icmp .ne 15, 3) := by decide +kernel
theorem dX12_sendsAll_30 : decode cX12_sendsAll 30 = .ok (.aload_n 0, 1) := by decide +kernel
theorem dX12_sendsAll_31 : decode cX12_sendsAll 31 = .ok (.getfield 100, 3) := by decide +kernel
theorem dX12_sendsAll_34 : decode cX12_sendsAll 34 = .ok (.iconst (-1), 1) := by decide +kernel
theorem dX12_sendsAll_35 : decode cX12_sendsAll 35 = .ok (.if_icmp .eq 7, 3) := by decide +kernel
theorem dX12_sendsAll_38 : decode cX12_sendsAll 38 = .ok (.iconst 1, 1) := by decide +kernel
theorem dX12_sendsAll_39 : decode cX12_sendsAll 39 = .ok (.goto 4, 3) := by decide +kernel
theorem dX12_sendsAll_42 : decode cX12_sendsAll 42 = .ok (.iconst 0, 1) := by decide +kernel
theorem dX12_sendsAll_43 : decode cX12_sendsAll 43 = .ok (.istore_n 1, 1) := by decide +kernel
theorem dX12_sendsAll_44 : decode cX12_sendsAll 44 = .ok (.iload_n 1, 1) := by decide +kernel
theorem dX12_sendsAll_45 : decode cX12_sendsAll 45 = .ok (.ifCond .eq 58, 3) := by decide +kernel
theorem dX12_sendsAll_48 : decode cX12_sendsAll 48 = .ok (.aload_n 0, 1) := by decide +kernel
theorem dX12_sendsAll_49 : decode cX12_sendsAll 49 = .ok (.getfield 313, 3) := by decide +kernel
theorem dX12_sendsAll_52 : decode cX12_sendsAll 52 = .ok (.sipush 400, 3) := by decide +kernel
theorem dX12_sendsAll_55 : decode cX12_sendsAll 55 = .ok (.if_icmp .ge 10, 3) := by decide +kernel
theorem dX12_sendsAll_58 : decode cX12_sendsAll 58 = .ok (.aload_n 0, 1) := by decide +kernel
theorem dX12_sendsAll_59 : decode cX12_sendsAll 59 = .ok (.invokevirtual 412, 3) := by decide +kernel
theorem dX12_sendsAll_62 : decode cX12_sendsAll 62 = .ok (.goto 4, 3) := by decide +kernel
theorem dX12_sendsAll_65 : decode cX12_sendsAll 65 = .ok (.iconst (-1), 1) := by decide +kernel
theorem dX12_sendsAll_66 : decode cX12_sendsAll 66 = .ok (.istore_n 2, 1) := by decide +kernel
theorem dX12_sendsAll_67 : decode cX12_sendsAll 67 = .ok (.iload_n 2, 1) := by decide +kernel
theorem dX12_sendsAll_68 : decode cX12_sendsAll 68 = .ok (.iconst (-1), 1) := by decide +kernel
theorem dX12_sendsAll_69 : decode cX12_sendsAll 69 = .ok (.if_icmp .eq 15, 3) := by decide +kernel
theorem dX12_sendsAll_72 : decode cX12_sendsAll 72 = .ok (.aload_n 0, 1) := by decide +kernel
theorem dX12_sendsAll_73 : decode cX12_sendsAll 73 = .ok (.iload_n 2, 1) := by decide +kernel
theorem dX12_sendsAll_74 : decode cX12_sendsAll 74 = .ok (.invokevirtual 415, 3) := by decide +kernel
theorem dX12_sendsAll_77 : decode cX12_sendsAll 77 = .ok (.ifCond .eq 7, 3) := by decide +kernel
theorem dX12_sendsAll_80 : decode cX12_sendsAll 80 = .ok (.iconst 1, 1) := by decide +kernel
theorem dX12_sendsAll_81 : decode cX12_sendsAll 81 = .ok (.goto 4, 3) := by decide +kernel
theorem dX12_sendsAll_84 : decode cX12_sendsAll 84 = .ok (.iconst 0, 1) := by decide +kernel
theorem dX12_sendsAll_85 : decode cX12_sendsAll 85 = .ok (.istore_n 1, 1) := by decide +kernel
theorem dX12_sendsAll_86 : decode cX12_sendsAll 86 = .ok (.iload_n 1, 1) := by decide +kernel
theorem dX12_sendsAll_87 : decode cX12_sendsAll 87 = .ok (.ifCond .eq 13, 3) := by decide +kernel
theorem dX12_sendsAll_90 : decode cX12_sendsAll 90 = .ok (.aload_n 0, 1) := by decide +kernel
theorem dX12_sendsAll_91 : decode cX12_sendsAll 91 = .ok (.getfield 226, 3) := by decide +kernel
theorem dX12_sendsAll_94 : decode cX12_sendsAll 94 = .ok (.iload_n 2, 1) := by decide +kernel
theorem dX12_sendsAll_95 : decode cX12_sendsAll 95 = .ok (.dup2, 1) := by decide +kernel
theorem dX12_sendsAll_96 : decode cX12_sendsAll 96 = .ok (.iaload, 1) := by decide +kernel
theorem dX12_sendsAll_97 : decode cX12_sendsAll 97 = .ok (.iconst 1, 1) := by decide +kernel
theorem dX12_sendsAll_98 : decode cX12_sendsAll 98 = .ok (.iadd, 1) := by decide +kernel
theorem dX12_sendsAll_99 : decode cX12_sendsAll 99 = .ok (.iastore, 1) := by decide +kernel
theorem dX12_sendsAll_100 : decode cX12_sendsAll 100 = .ok (.goto (-56), 3) := by decide +kernel
theorem dX12_sendsAll_103 : decode cX12_sendsAll 103 = .ok (.return_, 1) := by decide +kernel
theorem dX12_probesOn_0 : decode cX12_probesOn 0 = .ok (.iconst (-1), 1) := by decide +kernel
theorem dX12_probesOn_1 : decode cX12_probesOn 1 = .ok (.istore_n 2, 1) := by decide +kernel
theorem dX12_probesOn_2 : decode cX12_probesOn 2 = .ok (.aload_n 0, 1) := by decide +kernel
theorem dX12_probesOn_3 : decode cX12_probesOn 3 = .ok (.getfield 313, 3) := by decide +kernel
theorem dX12_probesOn_6 : decode cX12_probesOn 6 = .ok (.iconst 1, 1) := by decide +kernel
theorem dX12_probesOn_7 : decode cX12_probesOn 7 = .ok (.isub, 1) := by decide +kernel
theorem dX12_probesOn_8 : decode cX12_probesOn 8 = .ok (.istore_n 3, 1) := by decide +kernel
theorem dX12_probesOn_9 : decode cX12_probesOn 9 = .ok (.iload_n 3, 1) := by decide +kernel
theorem dX12_probesOn_10 : decode cX12_probesOn 10 = .ok (.ifCond .lt 34, 3) := by decide +kernel
theorem dX12_probesOn_13 : decode cX12_probesOn 13 = .ok (.aload_n 0, 1) := by decide +kernel
theorem dX12_probesOn_14 : decode cX12_probesOn 14 = .ok (.getfield 124, 3) := by decide +kernel
theorem dX12_probesOn_17 : decode cX12_probesOn 17 = .ok (.iload_n 3, 1) := by decide +kernel
theorem dX12_probesOn_18 : decode cX12_probesOn 18 = .ok (.iaload, 1) := by decide +kernel
theorem dX12_probesOn_19 : decode cX12_probesOn 19 = .ok (.iload_n 1, 1) := by decide +kernel
theorem dX12_probesOn_20 : decode cX12_probesOn 20 = .ok (.if_icmp .ne 16, 3) := by decide +kernel
theorem dX12_probesOn_23 : decode cX12_probesOn 23 = .ok (.aload_n 0, 1) := by decide +kernel
theorem dX12_probesOn_24 : decode cX12_probesOn 24 = .ok (.getfield 139, 3) := by decide +kernel
theorem dX12_probesOn_27 : decode cX12_probesOn 27 = .ok (.iload_n 3, 1) := by decide +kernel
theorem dX12_probesOn_28 : decode cX12_probesOn 28 = .ok (.iaload, 1) := by decide +kernel
theorem dX12_probesOn_29 : decode cX12_probesOn 29 = .ok (.ifCond .ne 7, 3) := by decide +kernel
theorem dX12_probesOn_32 : decode cX12_probesOn 32 = .ok (.iload_n 3, 1) := by decide +kernel
theorem dX12_probesOn_33 : decode cX12_probesOn 33 = .ok (.goto 4, 3) := by decide +kernel
theorem dX12_probesOn_36 : decode cX12_probesOn 36 = .ok (.iload_n 2, 1) := by decide +kernel
theorem dX12_probesOn_37 : decode cX12_probesOn 37 = .ok (.istore_n 2, 1) := by decide +kernel
theorem dX12_probesOn_38 : decode cX12_probesOn 38 = .ok (.iinc 3 (-1), 3) := by decide +kernel
theorem dX12_probesOn_41 : decode cX12_probesOn 41 = .ok (.goto (-32), 3) := by decide +kernel
theorem dX12_probesOn_44 : decode cX12_probesOn 44 = .ok (.aload_n 0, 1) := by decide +kernel
theorem dX12_probesOn_45 : decode cX12_probesOn 45 = .ok (.getfield 172, 3) := by decide +kernel
theorem dX12_probesOn_48 : decode cX12_probesOn 48 = .ok (.iload_n 1, 1) := by decide +kernel
theorem dX12_probesOn_49 : decode cX12_probesOn 49 = .ok (.iaload, 1) := by decide +kernel
theorem dX12_probesOn_50 : decode cX12_probesOn 50 = .ok (.bipush 8, 2) := by decide +kernel
theorem dX12_probesOn_52 : decode cX12_probesOn 52 = .ok (.idiv, 1) := by decide +kernel
theorem dX12_probesOn_53 : decode cX12_probesOn 53 = .ok (.iconst 1, 1) := by decide +kernel
theorem dX12_probesOn_54 : decode cX12_probesOn 54 = .ok (.aload_n 0, 1) := by decide +kernel
theorem dX12_probesOn_55 : decode cX12_probesOn 55 = .ok (.getfield 175, 3) := by decide +kernel
theorem dX12_probesOn_58 : decode cX12_probesOn 58 = .ok (.iload_n 1, 1) := by decide +kernel
theorem dX12_probesOn_59 : decode cX12_probesOn 59 = .ok (.iaload, 1) := by decide +kernel
theorem dX12_probesOn_60 : decode cX12_probesOn 60 = .ok (.invokestatic 288, 3) := by decide +kernel
theorem dX12_probesOn_63 : decode cX12_probesOn 63 = .ok (.iadd, 1) := by decide +kernel
theorem dX12_probesOn_64 : decode cX12_probesOn 64 = .ok (.iconst 3, 1) := by decide +kernel
theorem dX12_probesOn_65 : decode cX12_probesOn 65 = .ok (.iadd, 1) := by decide +kernel
theorem dX12_probesOn_66 : decode cX12_probesOn 66 = .ok (.aload_n 0, 1) := by decide +kernel
theorem dX12_probesOn_67 : decode cX12_probesOn 67 = .ok (.getfield 199, 3) := by decide +kernel
theorem dX12_probesOn_70 : decode cX12_probesOn 70 = .ok (.iload_n 1, 1) := by decide +kernel
theorem dX12_probesOn_71 : decode cX12_probesOn 71 = .ok (.iaload, 1) := by decide +kernel
theorem dX12_probesOn_72 : decode cX12_probesOn 72 = .ok (.bipush 6, 2) := by decide +kernel
theorem dX12_probesOn_74 : decode cX12_probesOn 74 = .ok (.if_icmp .le 8, 3) := by decide +kernel
theorem dX12_probesOn_77 : decode cX12_probesOn 77 = .ok (.bipush 6, 2) := by decide +kernel
theorem dX12_probesOn_79 : decode cX12_probesOn 79 = .ok (.goto 9, 3) := by decide +kernel
theorem dX12_probesOn_82 : decode cX12_probesOn 82 = .ok (.aload_n 0, 1) := by decide +kernel
theorem dX12_probesOn_83 : decode cX12_probesOn 83 = .ok (.getfield 199, 3) := by decide +kernel
theorem dX12_probesOn_86 : decode cX12_probesOn 86 = .ok (.iload_n 1, 1) := by decide +kernel
theorem dX12_probesOn_87 : decode cX12_probesOn 87 = .ok (.iaload, 1) := by decide +kernel
theorem dX12_probesOn_88 : decode cX12_probesOn 88 = .ok (.ishl, 1) := by decide +kernel
theorem dX12_probesOn_89 : decode cX12_probesOn 89 = .ok (.istore_n 3, 1) := by decide +kernel
theorem dX12_probesOn_90 : decode cX12_probesOn 90 = .ok (.iload_n 2, 1) := by decide +kernel
theorem dX12_probesOn_91 : decode cX12_probesOn 91 = .ok (.iconst (-1), 1) := by decide +kernel
theorem dX12_probesOn_92 : decode cX12_probesOn 92 = .ok (.if_icmp .eq 72, 3) := by decide +kernel
theorem dX12_probesOn_95 : decode cX12_probesOn 95 = .ok (.aload_n 0, 1) := by decide +kernel
theorem dX12_probesOn_96 : decode cX12_probesOn 96 = .ok (.getfield 313, 3) := by decide +kernel
theorem dX12_probesOn_99 : decode cX12_probesOn 99 = .ok (.sipush 400, 3) := by decide +kernel
theorem dX12_probesOn_102 : decode cX12_probesOn 102 = .ok (.if_icmp .ge 62, 3) := by decide +kernel
theorem dX12_probesOn_105 : decode cX12_probesOn 105 = .ok (.aload_n 0, 1) := by decide +kernel
theorem dX12_probesOn_106 : decode cX12_probesOn 106 = .ok (.getfield 246, 3) := by decide +kernel
theorem dX12_probesOn_109 : decode cX12_probesOn 109 = .ok (.aload_n 0, 1) := by decide +kernel
theorem dX12_probesOn_110 : decode cX12_probesOn 110 = .ok (.getfield 196, 3) := by decide +kernel
theorem dX12_probesOn_113 : decode cX12_probesOn 113 = .ok (.iload_n 1, 1) := by decide +kernel
theorem dX12_probesOn_114 : decode cX12_probesOn 114 = .ok (.iaload, 1) := by decide +kernel
theorem dX12_probesOn_115 : decode cX12_probesOn 115 = .ok (.isub, 1) := by decide +kernel
theorem dX12_probesOn_116 : decode cX12_probesOn 116 = .ok (.iload_n 3, 1) := by decide +kernel
theorem dX12_probesOn_117 : decode cX12_probesOn 117 = .ok (.if_icmp .lt 47, 3) := by decide +kernel
theorem dX12_probesOn_120 : decode cX12_probesOn 120 = .ok (.aload_n 0, 1) := by decide +kernel
theorem dX12_probesOn_121 : decode cX12_probesOn 121 = .ok (.getfield 199, 3) := by decide +kernel
theorem dX12_probesOn_124 : decode cX12_probesOn 124 = .ok (.iload_n 1, 1) := by decide +kernel
theorem dX12_probesOn_125 : decode cX12_probesOn 125 = .ok (.dup2, 1) := by decide +kernel
theorem dX12_probesOn_126 : decode cX12_probesOn 126 = .ok (.iaload, 1) := by decide +kernel
theorem dX12_probesOn_127 : decode cX12_probesOn 127 = .ok (.iconst 1, 1) := by decide +kernel
theorem dX12_probesOn_128 : decode cX12_probesOn 128 = .ok (.iadd, 1) := by decide +kernel
theorem dX12_probesOn_129 : decode cX12_probesOn 129 = .ok (.iastore, 1) := by decide +kernel
theorem dX12_probesOn_130 : decode cX12_probesOn 130 = .ok (.aload_n 0, 1) := by decide +kernel
theorem dX12_probesOn_131 : decode cX12_probesOn 131 = .ok (.getfield 229, 3) := by decide +kernel
theorem dX12_probesOn_134 : decode cX12_probesOn 134 = .ok (.iconst 2, 1) := by decide +kernel
theorem dX12_probesOn_135 : decode cX12_probesOn 135 = .ok (.dup2, 1) := by decide +kernel
theorem dX12_probesOn_136 : decode cX12_probesOn 136 = .ok (.iaload, 1) := by decide +kernel
theorem dX12_probesOn_137 : decode cX12_probesOn 137 = .ok (.iconst 1, 1) := by decide +kernel
theorem dX12_probesOn_138 : decode cX12_probesOn 138 = .ok (.iadd, 1) := by decide +kernel
theorem dX12_probesOn_139 : decode cX12_probesOn 139 = .ok (.iastore, 1) := by decide +kernel
theorem dX12_probesOn_140 : decode cX12_probesOn 140 = .ok (.aload_n 0, 1) := by decide +kernel
theorem dX12_probesOn_141 : decode cX12_probesOn 141 = .ok (.iload_n 1, 1) := by decide +kernel
theorem dX12_probesOn_142 : decode cX12_probesOn 142 = .ok (.aload_n 0, 1) := by decide +kernel
theorem dX12_probesOn_143 : decode cX12_probesOn 143 = .ok (.getfield 130, 3) := by decide +kernel
theorem dX12_probesOn_146 : decode cX12_probesOn 146 = .ok (.iload_n 2, 1) := by decide +kernel
theorem dX12_probesOn_147 : decode cX12_probesOn 147 = .ok (.iaload, 1) := by decide +kernel
theorem dX12_probesOn_148 : decode cX12_probesOn 148 = .ok (.aload_n 0, 1) := by decide +kernel
theorem dX12_probesOn_149 : decode cX12_probesOn 149 = .ok (.getfield 133, 3) := by decide +kernel
theorem dX12_probesOn_152 : decode cX12_probesOn 152 = .ok (.iload_n 2, 1) := by decide +kernel
theorem dX12_probesOn_153 : decode cX12_probesOn 153 = .ok (.iaload, 1) := by decide +kernel
theorem dX12_probesOn_154 : decode cX12_probesOn 154 = .ok (.aload_n 0, 1) := by decide +kernel
theorem dX12_probesOn_155 : decode cX12_probesOn 155 = .ok (.getfield 136, 3) := by decide +kernel
theorem dX12_probesOn_158 : decode cX12_probesOn 158 = .ok (.iload_n 2, 1) := by decide +kernel
theorem dX12_probesOn_159 : decode cX12_probesOn 159 = .ok (.iaload, 1) := by decide +kernel
theorem dX12_probesOn_160 : decode cX12_probesOn 160 = .ok (.iconst 1, 1) := by decide +kernel
theorem dX12_probesOn_161 : decode cX12_probesOn 161 = .ok (.invokevirtual 405, 3) := by decide +kernel
theorem dX12_probesOn_164 : decode cX12_probesOn 164 = .ok (.return_, 1) := by decide +kernel
theorem dX12_connect_0 : decode cX12_connect 0 = .ok (.aload_n 0, 1) := by decide +kernel
theorem dX12_connect_1 : decode cX12_connect 1 = .ok (.iload_n 1, 1) := by decide +kernel
theorem dX12_connect_2 : decode cX12_connect 2 = .ok (.iconst (-1), 1) := by decide +kernel
theorem dX12_connect_3 : decode cX12_connect 3 = .ok (.bipush 9, 2) := by decide +kernel
theorem dX12_connect_5 : decode cX12_connect 5 = .ok (.invokestatic 236, 3) := by decide +kernel
theorem dX12_connect_8 : decode cX12_connect 8 = .ok (.aload_n 0, 1) := by decide +kernel
theorem dX12_connect_9 : decode cX12_connect 9 = .ok (.getfield 366, 3) := by decide +kernel
theorem dX12_connect_12 : decode cX12_connect 12 = .ok (.ifCond .ne 7, 3) := by decide +kernel
theorem dX12_connect_15 : decode cX12_connect 15 = .ok (.iconst 1, 1) := by decide +kernel
theorem dX12_connect_16 : decode cX12_connect 16 = .ok (.goto 4, 3) := by decide +kernel
theorem dX12_connect_19 : decode cX12_connect 19 = .ok (.iconst 0, 1) := by decide +kernel
theorem dX12_connect_20 : decode cX12_connect 20 = .ok (.iconst 1, 1) := by decide +kernel
theorem dX12_connect_21 : decode cX12_connect 21 = .ok (.invokevirtual 253, 3) := by decide +kernel
theorem dX12_connect_24 : decode cX12_connect 24 = .ok (.ifCond .eq 23, 3) := by decide +kernel
theorem dX12_connect_27 : decode cX12_connect 27 = .ok (.aload_n 0, 1) := by decide +kernel
theorem dX12_connect_28 : decode cX12_connect 28 = .ok (.iconst 1, 1) := by decide +kernel
theorem dX12_connect_29 : decode cX12_connect 29 = .ok (.putfield 366, 3) := by decide +kernel
theorem dX12_connect_32 : decode cX12_connect 32 = .ok (.aload_n 0, 1) := by decide +kernel
theorem dX12_connect_33 : decode cX12_connect 33 = .ok (.iload_n 1, 1) := by decide +kernel
theorem dX12_connect_34 : decode cX12_connect 34 = .ok (.putfield 100, 3) := by decide +kernel
theorem dX12_connect_37 : decode cX12_connect 37 = .ok (.aload_n 0, 1) := by decide +kernel
theorem dX12_connect_38 : decode cX12_connect 38 = .ok (.bipush 10, 2) := by decide +kernel
theorem dX12_connect_40 : decode cX12_connect 40 = .ok (.putfield 369, 3) := by decide +kernel
theorem dX12_connect_43 : decode cX12_connect 43 = .ok (.aload_n 0, 1) := by decide +kernel
theorem dX12_connect_44 : decode cX12_connect 44 = .ok (.invokevirtual 372, 3) := by decide +kernel
theorem dX12_connect_47 : decode cX12_connect 47 = .ok (.return_, 1) := by decide +kernel
theorem dX12_write_0 : decode cX12_write 0 = .ok (.iload_n 1, 1) := by decide +kernel
theorem dX12_write_1 : decode cX12_write 1 = .ok (.invokestatic 306, 3) := by decide +kernel
theorem dX12_write_4 : decode cX12_write 4 = .ok (.istore_n 3, 1) := by decide +kernel
theorem dX12_write_5 : decode cX12_write 5 = .ok (.aload_n 0, 1) := by decide +kernel
theorem dX12_write_6 : decode cX12_write 6 = .ok (.iload_n 3, 1) := by decide +kernel
theorem dX12_write_7 : decode cX12_write 7 = .ok (.iload_n 2, 1) := by decide +kernel
theorem dX12_write_8 : decode cX12_write 8 = .ok (.iconst 1, 1) := by decide +kernel
theorem dX12_write_9 : decode cX12_write 9 = .ok (.sipush 200, 3) := by decide +kernel
theorem dX12_write_12 : decode cX12_write 12 = .ok (.invokestatic 236, 3) := by decide +kernel
theorem dX12_write_15 : decode cX12_write 15 = .ok (.iload_n 3, 1) := by decide +kernel
theorem dX12_write_16 : decode cX12_write 16 = .ok (.ifCond .eq 32, 3) := by decide +kernel
theorem dX12_write_19 : decode cX12_write 19 = .ok (.iload_n 2, 1) := by decide +kernel
theorem dX12_write_20 : decode cX12_write 20 = .ok (.iconst 1, 1) := by decide +kernel
theorem dX12_write_21 : decode cX12_write 21 = .ok (.sipush 200, 3) := by decide +kernel
theorem dX12_write_24 : decode cX12_write 24 = .ok (.invokestatic 236, 3) := by decide +kernel
theorem dX12_write_27 : decode cX12_write 27 = .ok (.ifCond .eq 21, 3) := by decide +kernel
theorem dX12_write_30 : decode cX12_write 30 = .ok (.aload_n 0, 1) := by decide +kernel
theorem dX12_write_31 : decode cX12_write 31 = .ok (.getfield 103, 3) := by decide +kernel
theorem dX12_write_34 : decode cX12_write 34 = .ok (.iload_n 1, 1) := by decide +kernel
theorem dX12_write_35 : decode cX12_write 35 = .ok (.iaload, 1) := by decide +kernel
theorem dX12_write_36 : decode cX12_write 36 = .ok (.iload_n 2, 1) := by decide +kernel
theorem dX12_write_37 : decode cX12_write 37 = .ok (.iadd, 1) := by decide +kernel
theorem dX12_write_38 : decode cX12_write 38 = .ok (.sipush 200, 3) := by decide +kernel
theorem dX12_write_41 : decode cX12_write 41 = .ok (.if_icmp .gt 7, 3) := by decide +kernel
theorem dX12_write_44 : decode cX12_write 44 = .ok (.iconst 1, 1) := by decide +kernel
theorem dX12_write_45 : decode cX12_write 45 = .ok (.goto 4, 3) := by decide +kernel
theorem dX12_write_48 : decode cX12_write 48 = .ok (.iconst 0, 1) := by decide +kernel
theorem dX12_write_49 : decode cX12_write 49 = .ok (.invokevirtual 253, 3) := by decide +kernel
theorem dX12_write_52 : decode cX12_write 52 = .ok (.ifCond .ne 5, 3) := by decide +kernel
theorem dX12_write_55 : decode cX12_write 55 = .ok (.iconst 0, 1) := by decide +kernel
theorem dX12_write_56 : decode cX12_write 56 = .ok (.ireturn, 1) := by decide +kernel
theorem dX12_write_57 : decode cX12_write 57 = .ok (.aload_n 0, 1) := by decide +kernel
theorem dX12_write_58 : decode cX12_write 58 = .ok (.getfield 103, 3) := by decide +kernel
theorem dX12_write_61 : decode cX12_write 61 = .ok (.iload_n 1, 1) := by decide +kernel
theorem dX12_write_62 : decode cX12_write 62 = .ok (.dup2, 1) := by decide +kernel
theorem dX12_write_63 : decode cX12_write 63 = .ok (.iaload, 1) := by decide +kernel
theorem dX12_write_64 : decode cX12_write 64 = .ok (.iload_n 2, 1) := by decide +kernel
theorem dX12_write_65 : decode cX12_write 65 = .ok (.iadd, 1) := by decide +kernel
theorem dX12_write_66 : decode cX12_write 66 = .ok (.iastore, 1) := by decide +kernel
theorem dX12_write_67 : decode cX12_write 67 = .ok (.aload_n 0, 1) := by decide +kernel
theorem dX12_write_68 : decode cX12_write 68 = .ok (.getfield 103, 3) := by decide +kernel
theorem dX12_write_71 : decode cX12_write 71 = .ok (.iload_n 1, 1) := by decide +kernel
theorem dX12_write_72 : decode cX12_write 72 = .ok (.iaload, 1) := by decide +kernel
theorem dX12_write_73 : decode cX12_write 73 = .ok (.ireturn, 1) := by decide +kernel
theorem dX12_setWay_0 : decode cX12_setWay 0 = .ok (.aload_n 0, 1) := by decide +kernel
theorem dX12_setWay_1 : decode cX12_setWay 1 = .ok (.iload_n 1, 1) := by decide +kernel
theorem dX12_setWay_2 : decode cX12_setWay 2 = .ok (.invokestatic 249, 3) := by decide +kernel
theorem dX12_setWay_5 : decode cX12_setWay 5 = .ok (.iload_n 2, 1) := by decide +kernel
theorem dX12_setWay_6 : decode cX12_setWay 6 = .ok (.iconst 0, 1) := by decide +kernel
theorem dX12_setWay_7 : decode cX12_setWay 7 = .ok (.iconst 2, 1) := by decide +kernel
theorem dX12_setWay_8 : decode cX12_setWay 8 = .ok (.invokestatic 236, 3) := by decide +kernel
theorem dX12_setWay_11 : decode cX12_setWay 11 = .ok (.iconst 1, 1) := by decide +kernel
theorem dX12_setWay_12 : decode cX12_setWay 12 = .ok (.invokevirtual 253, 3) := by decide +kernel
theorem dX12_setWay_15 : decode cX12_setWay 15 = .ok (.ifCond .ne 5, 3) := by decide +kernel
theorem dX12_setWay_18 : decode cX12_setWay 18 = .ok (.iconst 0, 1) := by decide +kernel
theorem dX12_setWay_19 : decode cX12_setWay 19 = .ok (.ireturn, 1) := by decide +kernel
theorem dX12_setWay_20 : decode cX12_setWay 20 = .ok (.aload_n 0, 1) := by decide +kernel
theorem dX12_setWay_21 : decode cX12_setWay 21 = .ok (.getfield 169, 3) := by decide +kernel
theorem dX12_setWay_24 : decode cX12_setWay 24 = .ok (.iload_n 1, 1) := by decide +kernel
theorem dX12_setWay_25 : decode cX12_setWay 25 = .ok (.iaload, 1) := by decide +kernel
theorem dX12_setWay_26 : decode cX12_setWay 26 = .ok (.istore_n 3, 1) := by decide +kernel
theorem dX12_setWay_27 : decode cX12_setWay 27 = .ok (.aload_n 0, 1) := by decide +kernel
theorem dX12_setWay_28 : decode cX12_setWay 28 = .ok (.getfield 169, 3) := by decide +kernel
theorem dX12_setWay_31 : decode cX12_setWay 31 = .ok (.iload_n 1, 1) := by decide +kernel
theorem dX12_setWay_32 : decode cX12_setWay 32 = .ok (.iload_n 2, 1) := by decide +kernel
theorem dX12_setWay_33 : decode cX12_setWay 33 = .ok (.iastore, 1) := by decide +kernel
theorem dX12_setWay_34 : decode cX12_setWay 34 = .ok (.iload_n 3, 1) := by decide +kernel
theorem dX12_setWay_35 : decode cX12_setWay 35 = .ok (.ireturn, 1) := by decide +kernel
theorem dX12_check_0 : decode cX12_check 0 = .ok (.aload_n 0, 1) := by decide +kernel
theorem dX12_check_1 : decode cX12_check 1 = .ok (.iload_n 1, 1) := by decide +kernel
theorem dX12_check_2 : decode cX12_check 2 = .ok (.invokestatic 249, 3) := by decide +kernel
theorem dX12_check_5 : decode cX12_check 5 = .ok (.aload_n 0, 1) := by decide +kernel
theorem dX12_check_6 : decode cX12_check 6 = .ok (.getfield 366, 3) := by decide +kernel
theorem dX12_check_9 : decode cX12_check 9 = .ok (.iconst 2, 1) := by decide +kernel
theorem dX12_check_10 : decode cX12_check 10 = .ok (.if_icmp .ne 7, 3) := by decide +kernel
theorem dX12_check_13 : decode cX12_check 13 = .ok (.iconst 1, 1) := by decide +kernel
theorem dX12_check_14 : decode cX12_check 14 = .ok (.goto 4, 3) := by decide +kernel
theorem dX12_check_17 : decode cX12_check 17 = .ok (.iconst 0, 1) := by decide +kernel
theorem dX12_check_18 : decode cX12_check 18 = .ok (.iconst 1, 1) := by decide +kernel
theorem dX12_check_19 : decode cX12_check 19 = .ok (.invokevirtual 253, 3) := by decide +kernel
theorem dX12_check_22 : decode cX12_check 22 = .ok (.ifCond .eq 10, 3) := by decide +kernel
theorem dX12_check_25 : decode cX12_check 25 = .ok (.aload_n 0, 1) := by decide +kernel
theorem dX12_check_26 : decode cX12_check 26 = .ok (.iload_n 1, 1) := by decide +kernel
theorem dX12_check_27 : decode cX12_check 27 = .ok (.iconst 3, 1) := by decide +kernel
theorem dX12_check_28 : decode cX12_check 28 = .ok (.iconst 0, 1) := by decide +kernel
theorem dX12_check_29 : decode cX12_check 29 = .ok (.invokevirtual 363, 3) := by decide +kernel
theorem dX12_check_32 : decode cX12_check 32 = .ok (.return_, 1) := by decide +kernel
theorem dX12_use_0 : decode cX12_use 0 = .ok (.iload_n 1, 1) := by decide +kernel
theorem dX12_use_1 : decode cX12_use 1 = .ok (.iconst 0, 1) := by decide +kernel
theorem dX12_use_2 : decode cX12_use 2 = .ok (.iconst 2, 1) := by decide +kernel
theorem dX12_use_3 : decode cX12_use 3 = .ok (.invokestatic 236, 3) := by decide +kernel
theorem dX12_use_6 : decode cX12_use 6 = .ok (.istore_n 2, 1) := by decide +kernel
theorem dX12_use_7 : decode cX12_use 7 = .ok (.aload_n 0, 1) := by decide +kernel
theorem dX12_use_8 : decode cX12_use 8 = .ok (.iload_n 2, 1) := by decide +kernel
theorem dX12_use_9 : decode cX12_use 9 = .ok (.iload_n 2, 1) := by decide +kernel
theorem dX12_use_10 : decode cX12_use 10 = .ok (.ifCond .eq 34, 3) := by decide +kernel
theorem dX12_use_13 : decode cX12_use 13 = .ok (.iload_n 1, 1) := by decide +kernel
theorem dX12_use_14 : decode cX12_use 14 = .ok (.iconst 1, 1) := by decide +kernel
theorem dX12_use_15 : decode cX12_use 15 = .ok (.if_icmp .eq 12, 3) := by decide +kernel
theorem dX12_use_18 : decode cX12_use 18 = .ok (.aload_n 0, 1) := by decide +kernel
theorem dX12_use_19 : decode cX12_use 19 = .ok (.getfield 187, 3) := by decide +kernel
theorem dX12_use_22 : decode cX12_use 22 = .ok (.iconst 0, 1) := by decide +kernel
theorem dX12_use_23 : decode cX12_use 23 = .ok (.baload, 1) := by decide +kernel
theorem dX12_use_24 : decode cX12_use 24 = .ok (.ifCond .eq 20, 3) := by decide +kernel
theorem dX12_use_27 : decode cX12_use 27 = .ok (.iload_n 1, 1) := by decide +kernel
theorem dX12_use_28 : decode cX12_use 28 = .ok (.ifCond .eq 12, 3) := by decide +kernel
theorem dX12_use_31 : decode cX12_use 31 = .ok (.aload_n 0, 1) := by decide +kernel
theorem dX12_use_32 : decode cX12_use 32 = .ok (.getfield 187, 3) := by decide +kernel
theorem dX12_use_35 : decode cX12_use 35 = .ok (.iconst 1, 1) := by decide +kernel
theorem dX12_use_36 : decode cX12_use 36 = .ok (.baload, 1) := by decide +kernel
theorem dX12_use_37 : decode cX12_use 37 = .ok (.ifCond .eq 7, 3) := by decide +kernel
theorem dX12_use_40 : decode cX12_use 40 = .ok (.iconst 1, 1) := by decide +kernel
theorem dX12_use_41 : decode cX12_use 41 = .ok (.goto 4, 3) := by decide +kernel
theorem dX12_use_44 : decode cX12_use 44 = .ok (.iconst 0, 1) := by decide +kernel
theorem dX12_use_45 : decode cX12_use 45 = .ok (.iconst 1, 1) := by decide +kernel
theorem dX12_use_46 : decode cX12_use 46 = .ok (.invokevirtual 253, 3) := by decide +kernel
theorem dX12_use_49 : decode cX12_use 49 = .ok (.ifCond .ne 5, 3) := by decide +kernel
theorem dX12_use_52 : decode cX12_use 52 = .ok (.iconst 0, 1) := by decide +kernel
theorem dX12_use_53 : decode cX12_use 53 = .ok (.ireturn, 1) := by decide +kernel
theorem dX12_use_54 : decode cX12_use 54 = .ok (.aload_n 0, 1) := by decide +kernel
theorem dX12_use_55 : decode cX12_use 55 = .ok (.getfield 393, 3) := by decide +kernel
theorem dX12_use_58 : decode cX12_use 58 = .ok (.istore_n 3, 1) := by decide +kernel
theorem dX12_use_59 : decode cX12_use 59 = .ok (.aload_n 0, 1) := by decide +kernel
theorem dX12_use_60 : decode cX12_use 60 = .ok (.iload_n 1, 1) := by decide +kernel
theorem dX12_use_61 : decode cX12_use 61 = .ok (.putfield 393, 3) := by decide +kernel
theorem dX12_use_64 : decode cX12_use 64 = .ok (.iload_n 3, 1) := by decide +kernel
theorem dX12_use_65 : decode cX12_use 65 = .ok (.ireturn, 1) := by decide +kernel
theorem dX12_changeKey_0 : decode cX12_changeKey 0 = .ok (.iconst 0, 1) := by decide +kernel
theorem dX12_changeKey_1 : decode cX12_changeKey 1 = .ok (.istore_n 1, 1) := by decide +kernel
theorem dX12_changeKey_2 : decode cX12_changeKey 2 = .ok (.iconst 0, 1) := by decide +kernel
theorem dX12_changeKey_3 : decode cX12_changeKey 3 = .ok (.istore_n 2, 1) := by decide +kernel
theorem dX12_changeKey_4 : decode cX12_changeKey 4 = .ok (.iload_n 2, 1) := by decide +kernel
theorem dX12_changeKey_5 : decode cX12_changeKey 5 = .ok (.aload_n 0, 1) := by decide +kernel
theorem dX12_changeKey_6 : decode cX12_changeKey 6 = .ok (.getfield 313, 3) := by decide +kernel
theorem dX12_changeKey_9 : decode cX12_changeKey 9 = .ok (.if_icmp .ge 52, 3) := by decide +kernel
theorem dX12_changeKey_12 : decode cX12_changeKey 12 = .ok (.iload_n 1, 1) := by decide +kernel
theorem dX12_changeKey_13 : decode cX12_changeKey 13 = .ok (.ifCond .ne 36, 3) := by decide +kernel
theorem dX12_changeKey_16 : decode cX12_changeKey 16 = .ok (.aload_n 0, 1) := by decide +kernel
theorem dX12_changeKey_17 : decode cX12_changeKey 17 = .ok (.getfield 145, 3) := by decide +kernel
theorem dX12_changeKey_20 : decode cX12_changeKey 20 = .ok (.iload_n 2, 1) := by decide +kernel
theorem dX12_changeKey_21 : decode cX12_changeKey 21 = .ok (.iaload, 1) := by decide +kernel
theorem dX12_changeKey_22 : decode cX12_changeKey 22 = .ok (.aload_n 0, 1) := by decide +kernel
theorem dX12_changeKey_23 : decode cX12_changeKey 23 = .ok (.getfield 382, 3) := by decide +kernel
theorem dX12_changeKey_26 : decode cX12_changeKey 26 = .ok (.if_icmp .ne 27, 3) := by decide +kernel
theorem dX12_changeKey_29 : decode cX12_changeKey 29 = .ok (.aload_n 0, 1) := by decide +kernel
theorem dX12_changeKey_30 : decode cX12_changeKey 30 = .ok (.getfield 139, 3) := by decide +kernel
theorem dX12_changeKey_33 : decode cX12_changeKey 33 = .ok (.iload_n 2, 1) := by decide +kernel
theorem dX12_changeKey_34 : decode cX12_changeKey 34 = .ok (.iaload, 1) := by decide +kernel
theorem dX12_changeKey_35 : decode cX12_changeKey 35 = .ok (.iconst 1, 1) := by decide +kernel
theorem dX12_changeKey_36 : decode cX12_changeKey 36 = .ok (.if_icmp .eq 13, 3) := by decide +kernel
theorem dX12_changeKey_39 : decode cX12_changeKey 39 = .ok (.aload_n 0, 1) := by decide +kernel
theorem dX12_changeKey_40 : decode cX12_changeKey 40 = .ok (.getfield 139, 3) := by decide +kernel
theorem dX12_changeKey_43 : decode cX12_changeKey 43 = .ok (.iload_n 2, 1) := by decide +kernel
theorem dX12_changeKey_44 : decode cX12_changeKey 44 = .ok (.iaload, 1) := by decide +kernel
theorem dX12_changeKey_45 : decode cX12_changeKey 45 = .ok (.iconst 3, 1) := by decide +kernel
theorem dX12_changeKey_46 : decode cX12_changeKey 46 = .ok (.if_icmp .ne 7, 3) := by decide +kernel
theorem dX12_changeKey_49 : decode cX12_changeKey 49 = .ok (.iconst 1, 1) := by decide +kernel
theorem dX12_changeKey_50 : decode cX12_changeKey 50 = .ok (.goto 4, 3) := by decide +kernel
theorem dX12_changeKey_53 : decode cX12_changeKey 53 = .ok (.iconst 0, 1) := by decide +kernel
theorem dX12_changeKey_54 : decode cX12_changeKey 54 = .ok (.istore_n 1, 1) := by decide +kernel
theorem dX12_changeKey_55 : decode cX12_changeKey 55 = .ok (.iinc 2 1, 3) := by decide +kernel
theorem dX12_changeKey_58 : decode cX12_changeKey 58 = .ok (.goto (-54), 3) := by decide +kernel
theorem dX12_changeKey_61 : decode cX12_changeKey 61 = .ok (.aload_n 0, 1) := by decide +kernel
theorem dX12_changeKey_62 : decode cX12_changeKey 62 = .ok (.aload_n 0, 1) := by decide +kernel
theorem dX12_changeKey_63 : decode cX12_changeKey 63 = .ok (.getfield 366, 3) := by decide +kernel
theorem dX12_changeKey_66 : decode cX12_changeKey 66 = .ok (.iconst 2, 1) := by decide +kernel
theorem dX12_changeKey_67 : decode cX12_changeKey 67 = .ok (.if_icmp .ne 11, 3) := by decide +kernel
theorem dX12_changeKey_70 : decode cX12_changeKey 70 = .ok (.iload_n 1, 1) := by decide +kernel
theorem dX12_changeKey_71 : decode cX12_changeKey 71 = .ok (.ifCond .eq 7, 3) := by decide +kernel
theorem dX12_changeKey_74 : decode cX12_changeKey 74 = .ok (.iconst 1, 1) := by decide +kernel
theorem dX12_changeKey_75 : decode cX12_changeKey 75 = .ok (.goto 4, 3) := by decide +kernel
theorem dX12_changeKey_78 : decode cX12_changeKey 78 = .ok (.iconst 0, 1) := by decide +kernel
theorem dX12_changeKey_79 : decode cX12_changeKey 79 = .ok (.iconst 1, 1) := by decide +kernel
theorem dX12_changeKey_80 : decode cX12_changeKey 80 = .ok (.iconst 1, 1) := by decide +kernel
theorem dX12_changeKey_81 : decode cX12_changeKey 81 = .ok (.invokevirtual 253, 3) := by decide +kernel
theorem dX12_changeKey_84 : decode cX12_changeKey 84 = .ok (.ifCond .ne 5, 3) := by decide +kernel
theorem dX12_changeKey_87 : decode cX12_changeKey 87 = .ok (.iconst 0, 1) := by decide +kernel
theorem dX12_changeKey_88 : decode cX12_changeKey 88 = .ok (.ireturn, 1) := by decide +kernel
theorem dX12_changeKey_89 : decode cX12_changeKey 89 = .ok (.aload_n 0, 1) := by decide +kernel
theorem dX12_changeKey_90 : decode cX12_changeKey 90 = .ok (.dup, 1) := by decide +kernel
theorem dX12_changeKey_91 : decode cX12_changeKey 91 = .ok (.getfield 382, 3) := by decide +kernel
theorem dX12_changeKey_94 : decode cX12_changeKey 94 = .ok (.iconst 1, 1) := by decide +kernel
theorem dX12_changeKey_95 : decode cX12_changeKey 95 = .ok (.iadd, 1) := by decide +kernel
theorem dX12_changeKey_96 : decode cX12_changeKey 96 = .ok (.putfield 382, 3) := by decide +kernel
theorem dX12_changeKey_99 : decode cX12_changeKey 99 = .ok (.aload_n 0, 1) := by decide +kernel
theorem dX12_changeKey_100 : decode cX12_changeKey 100 = .ok (.getfield 382, 3) := by decide +kernel
theorem dX12_changeKey_103 : decode cX12_changeKey 103 = .ok (.ireturn, 1) := by decide +kernel
theorem dX12_close_0 : decode cX12_close 0 = .ok (.aload_n 0, 1) := by decide +kernel
theorem dX12_close_1 : decode cX12_close 1 = .ok (.aload_n 0, 1) := by decide +kernel
theorem dX12_close_2 : decode cX12_close 2 = .ok (.getfield 366, 3) := by decide +kernel
theorem dX12_close_5 : decode cX12_close 5 = .ok (.iconst 2, 1) := by decide +kernel
theorem dX12_close_6 : decode cX12_close 6 = .ok (.if_icmp .ne 7, 3) := by decide +kernel
theorem dX12_close_9 : decode cX12_close 9 = .ok (.iconst 1, 1) := by decide +kernel
theorem dX12_close_10 : decode cX12_close 10 = .ok (.goto 4, 3) := by decide +kernel
theorem dX12_close_13 : decode cX12_close 13 = .ok (.iconst 0, 1) := by decide +kernel
theorem dX12_close_14 : decode cX12_close 14 = .ok (.iconst 1, 1) := by decide +kernel
theorem dX12_close_15 : decode cX12_close 15 = .ok (.iconst 1, 1) := by decide +kernel
theorem dX12_close_16 : decode cX12_close 16 = .ok (.invokevirtual 253, 3) := by decide +kernel
theorem dX12_close_19 : decode cX12_close 19 = .ok (.ifCond .eq 35, 3) := by decide +kernel
theorem dX12_close_22 : decode cX12_close 22 = .ok (.aload_n 0, 1) := by decide +kernel
theorem dX12_close_23 : decode cX12_close 23 = .ok (.aload_n 0, 1) := by decide +kernel
theorem dX12_close_24 : decode cX12_close 24 = .ok (.getfield 393, 3) := by decide +kernel
theorem dX12_close_27 : decode cX12_close 27 = .ok (.iconst 1, 1) := by decide +kernel
theorem dX12_close_28 : decode cX12_close 28 = .ok (.if_icmp .ne 7, 3) := by decide +kernel
theorem dX12_close_31 : decode cX12_close 31 = .ok (.iconst 1, 1) := by decide +kernel
theorem dX12_close_32 : decode cX12_close 32 = .ok (.goto 4, 3) := by decide +kernel
theorem dX12_close_35 : decode cX12_close 35 = .ok (.iconst 0, 1) := by decide +kernel
theorem dX12_close_36 : decode cX12_close 36 = .ok (.iconst 4, 1) := by decide +kernel
theorem dX12_close_37 : decode cX12_close 37 = .ok (.iconst 0, 1) := by decide +kernel
theorem dX12_close_38 : decode cX12_close 38 = .ok (.invokevirtual 363, 3) := by decide +kernel
theorem dX12_close_41 : decode cX12_close 41 = .ok (.aload_n 0, 1) := by decide +kernel
theorem dX12_close_42 : decode cX12_close 42 = .ok (.iconst 3, 1) := by decide +kernel
theorem dX12_close_43 : decode cX12_close 43 = .ok (.putfield 366, 3) := by decide +kernel
theorem dX12_close_46 : decode cX12_close 46 = .ok (.aload_n 0, 1) := by decide +kernel
theorem dX12_close_47 : decode cX12_close 47 = .ok (.aload_n 0, 1) := by decide +kernel
theorem dX12_close_48 : decode cX12_close 48 = .ok (.getfield 246, 3) := by decide +kernel
theorem dX12_close_51 : decode cX12_close 51 = .ok (.putfield 418, 3) := by decide +kernel
theorem dX12_close_54 : decode cX12_close 54 = .ok (.return_, 1) := by decide +kernel
theorem dX12_passes_0 : decode cX12_passes 0 = .ok (.aload_n 0, 1) := by decide +kernel
theorem dX12_passes_1 : decode cX12_passes 1 = .ok (.dup, 1) := by decide +kernel
theorem dX12_passes_2 : decode cX12_passes 2 = .ok (.getfield 246, 3) := by decide +kernel
theorem dX12_passes_5 : decode cX12_passes 5 = .ok (.iconst 1, 1) := by decide +kernel
theorem dX12_passes_6 : decode cX12_passes 6 = .ok (.iadd, 1) := by decide +kernel
theorem dX12_passes_7 : decode cX12_passes 7 = .ok (.putfield 246, 3) := by decide +kernel
theorem dX12_passes_10 : decode cX12_passes 10 = .ok (.iconst 0, 1) := by decide +kernel
theorem dX12_passes_11 : decode cX12_passes 11 = .ok (.istore_n 1, 1) := by decide +kernel
theorem dX12_passes_12 : decode cX12_passes 12 = .ok (.iload_n 1, 1) := by decide +kernel
theorem dX12_passes_13 : decode cX12_passes 13 = .ok (.aload_n 0, 1) := by decide +kernel
theorem dX12_passes_14 : decode cX12_passes 14 = .ok (.getfield 257, 3) := by decide +kernel
theorem dX12_passes_17 : decode cX12_passes 17 = .ok (.if_icmp .ge 32, 3) := by decide +kernel
theorem dX12_passes_20 : decode cX12_passes 20 = .ok (.aload_n 0, 1) := by decide +kernel
theorem dX12_passes_21 : decode cX12_passes 21 = .ok (.getfield 56, 3) := by decide +kernel
theorem dX12_passes_24 : decode cX12_passes 24 = .ok (.iload_n 1, 1) := by decide +kernel
theorem dX12_passes_25 : decode cX12_passes 25 = .ok (.iaload, 1) := by decide +kernel
theorem dX12_passes_26 : decode cX12_passes 26 = .ok (.aload_n 0, 1) := by decide +kernel
theorem dX12_passes_27 : decode cX12_passes 27 = .ok (.getfield 246, 3) := by decide +kernel
theorem dX12_passes_30 : decode cX12_passes 30 = .ok (.if_icmp .ne 13, 3) := by decide +kernel
theorem dX12_passes_33 : decode cX12_passes 33 = .ok (.aload_n 0, 1) := by decide +kernel
theorem dX12_passes_34 : decode cX12_passes 34 = .ok (.aload_n 0, 1) := by decide +kernel
theorem dX12_passes_35 : decode cX12_passes 35 = .ok (.getfield 53, 3) := by decide +kernel
theorem dX12_passes_38 : decode cX12_passes 38 = .ok (.iload_n 1, 1) := by decide +kernel
theorem dX12_passes_39 : decode cX12_passes 39 = .ok (.iaload, 1) := by decide +kernel
theorem dX12_passes_40 : decode cX12_passes 40 = .ok (.invokevirtual 421, 3) := by decide +kernel
theorem dX12_passes_43 : decode cX12_passes 43 = .ok (.iinc 1 1, 3) := by decide +kernel
theorem dX12_passes_46 : decode cX12_passes 46 = .ok (.goto (-34), 3) := by decide +kernel
theorem dX12_passes_49 : decode cX12_passes 49 = .ok (.aload_n 0, 1) := by decide +kernel
theorem dX12_passes_50 : decode cX12_passes 50 = .ok (.getfield 243, 3) := by decide +kernel
theorem dX12_passes_53 : decode cX12_passes 53 = .ok (.istore_n 1, 1) := by decide +kernel
theorem dX12_passes_54 : decode cX12_passes 54 = .ok (.iconst 0, 1) := by decide +kernel
theorem dX12_passes_55 : decode cX12_passes 55 = .ok (.istore_n 2, 1) := by decide +kernel
theorem dX12_passes_56 : decode cX12_passes 56 = .ok (.iload_n 2, 1) := by decide +kernel
theorem dX12_passes_57 : decode cX12_passes 57 = .ok (.iload_n 1, 1) := by decide +kernel
theorem dX12_passes_58 : decode cX12_passes 58 = .ok (.if_icmp .ge 27, 3) := by decide +kernel
theorem dX12_passes_61 : decode cX12_passes 61 = .ok (.aload_n 0, 1) := by decide +kernel
theorem dX12_passes_62 : decode cX12_passes 62 = .ok (.getfield 68, 3) := by decide +kernel
theorem dX12_passes_65 : decode cX12_passes 65 = .ok (.iload_n 2, 1) := by decide +kernel
theorem dX12_passes_66 : decode cX12_passes 66 = .ok (.iaload, 1) := by decide +kernel
theorem dX12_passes_67 : decode cX12_passes 67 = .ok (.aload_n 0, 1) := by decide +kernel
theorem dX12_passes_68 : decode cX12_passes 68 = .ok (.getfield 246, 3) := by decide +kernel
theorem dX12_passes_71 : decode cX12_passes 71 = .ok (.if_icmp .ne 8, 3) := by decide +kernel
theorem dX12_passes_74 : decode cX12_passes 74 = .ok (.aload_n 0, 1) := by decide +kernel
theorem dX12_passes_75 : decode cX12_passes 75 = .ok (.iload_n 2, 1) := by decide +kernel
theorem dX12_passes_76 : decode cX12_passes 76 = .ok (.invokevirtual 424, 3) := by decide +kernel
theorem dX12_passes_79 : decode cX12_passes 79 = .ok (.iinc 2 1, 3) := by decide +kernel
theorem dX12_passes_82 : decode cX12_passes 82 = .ok (.goto (-26), 3) := by decide +kernel
theorem dX12_passes_85 : decode cX12_passes 85 = .ok (.aload_n 0, 1) := by decide +kernel
theorem dX12_passes_86 : decode cX12_passes 86 = .ok (.getfield 278, 3) := by decide +kernel
theorem dX12_passes_89 : decode cX12_passes 89 = .ok (.iconst 1, 1) := by decide +kernel
theorem dX12_passes_90 : decode cX12_passes 90 = .ok (.if_icmp .ne 44, 3) := by decide +kernel
theorem dX12_passes_93 : decode cX12_passes 93 = .ok (.aload_n 0, 1) := by decide +kernel
theorem dX12_passes_94 : decode cX12_passes 94 = .ok (.getfield 97, 3) := by decide +kernel
theorem dX12_passes_97 : decode cX12_passes 97 = .ok (.iconst (-1), 1) := by decide +kernel
theorem dX12_passes_98 : decode cX12_passes 98 = .ok (.if_icmp .eq 36, 3) := by decide +kernel
theorem dX12_passes_101 : decode cX12_passes 101 = .ok (.aload_n 0, 1) := by decide +kernel
theorem dX12_passes_102 : decode cX12_passes 102 = .ok (.getfield 94, 3) := by decide +kernel
theorem dX12_passes_105 : decode cX12_passes 105 = .ok (.iconst (-1), 1) := by decide +kernel
theorem dX12_passes_106 : decode cX12_passes 106 = .ok (.if_icmp .eq 14, 3) := by decide +kernel
theorem dX12_passes_109 : decode cX12_passes 109 = .ok (.aload_n 0, 1) := by decide +kernel
theorem dX12_passes_110 : decode cX12_passes 110 = .ok (.getfield 246, 3) := by decide +kernel
theorem dX12_passes_113 : decode cX12_passes 113 = .ok (.aload_n 0, 1) := by decide +kernel
theorem dX12_passes_114 : decode cX12_passes 114 = .ok (.getfield 94, 3) := by decide +kernel
theorem dX12_passes_117 : decode cX12_passes 117 = .ok (.if_icmp .ge 13, 3) := by decide +kernel
theorem dX12_passes_120 : decode cX12_passes 120 = .ok (.aload_n 0, 1) := by decide +kernel
theorem dX12_passes_121 : decode cX12_passes 121 = .ok (.getfield 246, 3) := by decide +kernel
theorem dX12_passes_124 : decode cX12_passes 124 = .ok (.bipush 20, 2) := by decide +kernel
theorem dX12_passes_126 : decode cX12_passes 126 = .ok (.irem, 1) := by decide +kernel
theorem dX12_passes_127 : decode cX12_passes 127 = .ok (.ifCond .ne 7, 3) := by decide +kernel
theorem dX12_passes_130 : decode cX12_passes 130 = .ok (.aload_n 0, 1) := by decide +kernel
theorem dX12_passes_131 : decode cX12_passes 131 = .ok (.invokevirtual 292, 3) := by decide +kernel
theorem dX12_passes_134 : decode cX12_passes 134 = .ok (.aload_n 0, 1) := by decide +kernel
theorem dX12_passes_135 : decode cX12_passes 135 = .ok (.getfield 366, 3) := by decide +kernel
theorem dX12_passes_138 : decode cX12_passes 138 = .ok (.iconst 1, 1) := by decide +kernel
theorem dX12_passes_139 : decode cX12_passes 139 = .ok (.if_icmp .eq 11, 3) := by decide +kernel
theorem dX12_passes_142 : decode cX12_passes 142 = .ok (.aload_n 0, 1) := by decide +kernel
theorem dX12_passes_143 : decode cX12_passes 143 = .ok (.getfield 366, 3) := by decide +kernel
theorem dX12_passes_146 : decode cX12_passes 146 = .ok (.iconst 2, 1) := by decide +kernel
theorem dX12_passes_147 : decode cX12_passes 147 = .ok (.if_icmp .ne 23, 3) := by decide +kernel
theorem dX12_passes_150 : decode cX12_passes 150 = .ok (.aload_n 0, 1) := by decide +kernel
theorem dX12_passes_151 : decode cX12_passes 151 = .ok (.iconst 0, 1) := by decide +kernel
theorem dX12_passes_152 : decode cX12_passes 152 = .ok (.invokevirtual 354, 3) := by decide +kernel
theorem dX12_passes_155 : decode cX12_passes 155 = .ok (.aload_n 0, 1) := by decide +kernel
theorem dX12_passes_156 : decode cX12_passes 156 = .ok (.iconst 1, 1) := by decide +kernel
theorem dX12_passes_157 : decode cX12_passes 157 = .ok (.invokevirtual 354, 3) := by decide +kernel
theorem dX12_passes_160 : decode cX12_passes 160 = .ok (.aload_n 0, 1) := by decide +kernel
theorem dX12_passes_161 : decode cX12_passes 161 = .ok (.iconst 0, 1) := by decide +kernel
theorem dX12_passes_162 : decode cX12_passes 162 = .ok (.invokevirtual 427, 3) := by decide +kernel
theorem dX12_passes_165 : decode cX12_passes 165 = .ok (.aload_n 0, 1) := by decide +kernel
theorem dX12_passes_166 : decode cX12_passes 166 = .ok (.iconst 1, 1) := by decide +kernel
theorem dX12_passes_167 : decode cX12_passes 167 = .ok (.invokevirtual 427, 3) := by decide +kernel
theorem dX12_passes_170 : decode cX12_passes 170 = .ok (.aload_n 0, 1) := by decide +kernel
theorem dX12_passes_171 : decode cX12_passes 171 = .ok (.getfield 366, 3) := by decide +kernel
theorem dX12_passes_174 : decode cX12_passes 174 = .ok (.iconst 1, 1) := by decide +kernel
theorem dX12_passes_175 : decode cX12_passes 175 = .ok (.if_icmp .ne 33, 3) := by decide +kernel
theorem dX12_passes_178 : decode cX12_passes 178 = .ok (.aload_n 0, 1) := by decide +kernel
theorem dX12_passes_179 : decode cX12_passes 179 = .ok (.getfield 246, 3) := by decide +kernel
theorem dX12_passes_182 : decode cX12_passes 182 = .ok (.aload_n 0, 1) := by decide +kernel
theorem dX12_passes_183 : decode cX12_passes 183 = .ok (.getfield 357, 3) := by decide +kernel
theorem dX12_passes_186 : decode cX12_passes 186 = .ok (.isub, 1) := by decide +kernel
theorem dX12_passes_187 : decode cX12_passes 187 = .ok (.aload_n 0, 1) := by decide +kernel
theorem dX12_passes_188 : decode cX12_passes 188 = .ok (.getfield 369, 3) := by decide +kernel
theorem dX12_passes_191 : decode cX12_passes 191 = .ok (.if_icmp .lt 17, 3) := by decide +kernel
theorem dX12_passes_194 : decode cX12_passes 194 = .ok (.aload_n 0, 1) := by decide +kernel
theorem dX12_passes_195 : decode cX12_passes 195 = .ok (.dup, 1) := by decide +kernel
theorem dX12_passes_196 : decode cX12_passes 196 = .ok (.getfield 369, 3) := by decide +kernel
theorem dX12_passes_199 : decode cX12_passes 199 = .ok (.iconst 2, 1) := by decide +kernel
theorem dX12_passes_200 : decode cX12_passes 200 = .ok (.imul, 1) := by decide +kernel
theorem dX12_passes_201 : decode cX12_passes 201 = .ok (.putfield 369, 3) := by decide +kernel
theorem dX12_passes_204 : decode cX12_passes 204 = .ok (.aload_n 0, 1) := by decide +kernel
theorem dX12_passes_205 : decode cX12_passes 205 = .ok (.invokevirtual 372, 3) := by decide +kernel
theorem dX12_passes_208 : decode cX12_passes 208 = .ok (.aload_n 0, 1) := by decide +kernel
theorem dX12_passes_209 : decode cX12_passes 209 = .ok (.aload_n 0, 1) := by decide +kernel
theorem dX12_passes_210 : decode cX12_passes 210 = .ok (.getfield 366, 3) := by decide +kernel
theorem dX12_passes_213 : decode cX12_passes 213 = .ok (.iconst 3, 1) := by decide +kernel
theorem dX12_passes_214 : decode cX12_passes 214 = .ok (.if_icmp .ne 21, 3) := by decide +kernel
theorem dX12_passes_217 : decode cX12_passes 217 = .ok (.aload_n 0, 1) := by decide +kernel
theorem dX12_passes_218 : decode cX12_passes 218 = .ok (.getfield 246, 3) := by decide +kernel
theorem dX12_passes_221 : decode cX12_passes 221 = .ok (.aload_n 0, 1) := by decide +kernel
theorem dX12_passes_222 : decode cX12_passes 222 = .ok (.getfield 418, 3) := by decide +kernel
theorem dX12_passes_225 : decode cX12_passes 225 = .ok (.isub, 1) := by decide +kernel
theorem dX12_passes_226 : decode cX12_passes 226 = .ok (.bipush 30, 2) := by decide +kernel
theorem dX12_passes_228 : decode cX12_passes 228 = .ok (.if_icmp .lt 7, 3) := by decide +kernel
theorem dX12_passes_231 : decode cX12_passes 231 = .ok (.iconst 4, 1) := by decide +kernel
theorem dX12_passes_232 : decode cX12_passes 232 = .ok (.goto 7, 3) := by decide +kernel
theorem dX12_passes_235 : decode cX12_passes 235 = .ok (.aload_n 0, 1) := by decide +kernel
theorem dX12_passes_236 : decode cX12_passes 236 = .ok (.getfield 366, 3) := by decide +kernel
theorem dX12_passes_239 : decode cX12_passes 239 = .ok (.putfield 366, 3) := by decide +kernel
theorem dX12_passes_242 : decode cX12_passes 242 = .ok (.aload_n 0, 1) := by decide +kernel
theorem dX12_passes_243 : decode cX12_passes 243 = .ok (.invokevirtual 430, 3) := by decide +kernel
theorem dX12_passes_246 : decode cX12_passes 246 = .ok (.aload_n 0, 1) := by decide +kernel
theorem dX12_passes_247 : decode cX12_passes 247 = .ok (.iconst 0, 1) := by decide +kernel
theorem dX12_passes_248 : decode cX12_passes 248 = .ok (.invokevirtual 433, 3) := by decide +kernel
theorem dX12_passes_251 : decode cX12_passes 251 = .ok (.aload_n 0, 1) := by decide +kernel
theorem dX12_passes_252 : decode cX12_passes 252 = .ok (.iconst 1, 1) := by decide +kernel
theorem dX12_passes_253 : decode cX12_passes 253 = .ok (.invokevirtual 433, 3) := by decide +kernel
theorem dX12_passes_256 : decode cX12_passes 256 = .ok (.return_, 1) := by decide +kernel
theorem dX12_tick_0 : decode cX12_tick 0 = .ok (.aload_n 0, 1) := by decide +kernel
theorem dX12_tick_1 : decode cX12_tick 1 = .ok (.iload_n 1, 1) := by decide +kernel
theorem dX12_tick_2 : decode cX12_tick 2 = .ok (.iconst 1, 1) := by decide +kernel
theorem dX12_tick_3 : decode cX12_tick 3 = .ok (.bipush 50, 2) := by decide +kernel
theorem dX12_tick_5 : decode cX12_tick 5 = .ok (.invokestatic 236, 3) := by decide +kernel
theorem dX12_tick_8 : decode cX12_tick 8 = .ok (.aload_n 0, 1) := by decide +kernel
theorem dX12_tick_9 : decode cX12_tick 9 = .ok (.getfield 246, 3) := by decide +kernel
theorem dX12_tick_12 : decode cX12_tick 12 = .ok (.iload_n 1, 1) := by decide +kernel
theorem dX12_tick_13 : decode cX12_tick 13 = .ok (.iadd, 1) := by decide +kernel
theorem dX12_tick_14 : decode cX12_tick 14 = .ok (.sipush 2000, 3) := by decide +kernel
theorem dX12_tick_17 : decode cX12_tick 17 = .ok (.if_icmp .gt 7, 3) := by decide +kernel
theorem dX12_tick_20 : decode cX12_tick 20 = .ok (.iconst 1, 1) := by decide +kernel
theorem dX12_tick_21 : decode cX12_tick 21 = .ok (.goto 4, 3) := by decide +kernel
theorem dX12_tick_24 : decode cX12_tick 24 = .ok (.iconst 0, 1) := by decide +kernel
theorem dX12_tick_25 : decode cX12_tick 25 = .ok (.iconst 1, 1) := by decide +kernel
theorem dX12_tick_26 : decode cX12_tick 26 = .ok (.invokevirtual 253, 3) := by decide +kernel
theorem dX12_tick_29 : decode cX12_tick 29 = .ok (.ifCond .ne 5, 3) := by decide +kernel
theorem dX12_tick_32 : decode cX12_tick 32 = .ok (.iconst 0, 1) := by decide +kernel
theorem dX12_tick_33 : decode cX12_tick 33 = .ok (.ireturn, 1) := by decide +kernel
theorem dX12_tick_34 : decode cX12_tick 34 = .ok (.iconst 0, 1) := by decide +kernel
theorem dX12_tick_35 : decode cX12_tick 35 = .ok (.istore_n 2, 1) := by decide +kernel
theorem dX12_tick_36 : decode cX12_tick 36 = .ok (.iload_n 2, 1) := by decide +kernel
theorem dX12_tick_37 : decode cX12_tick 37 = .ok (.iload_n 1, 1) := by decide +kernel
theorem dX12_tick_38 : decode cX12_tick 38 = .ok (.if_icmp .ge 13, 3) := by decide +kernel
theorem dX12_tick_41 : decode cX12_tick 41 = .ok (.aload_n 0, 1) := by decide +kernel
theorem dX12_tick_42 : decode cX12_tick 42 = .ok (.invokevirtual 436, 3) := by decide +kernel
theorem dX12_tick_45 : decode cX12_tick 45 = .ok (.iinc 2 1, 3) := by decide +kernel
theorem dX12_tick_48 : decode cX12_tick 48 = .ok (.goto (-12), 3) := by decide +kernel
theorem dX12_tick_51 : decode cX12_tick 51 = .ok (.aload_n 0, 1) := by decide +kernel
theorem dX12_tick_52 : decode cX12_tick 52 = .ok (.getfield 246, 3) := by decide +kernel
theorem dX12_tick_55 : decode cX12_tick 55 = .ok (.ireturn, 1) := by decide +kernel
theorem dX12_now_0 : decode cX12_now 0 = .ok (.aload_n 0, 1) := by decide +kernel
theorem dX12_now_1 : decode cX12_now 1 = .ok (.iconst 0, 1) := by decide +kernel
theorem dX12_now_2 : decode cX12_now 2 = .ok (.putfield 233, 3) := by decide +kernel
theorem dX12_now_5 : decode cX12_now 5 = .ok (.aload_n 0, 1) := by decide +kernel
theorem dX12_now_6 : decode cX12_now 6 = .ok (.getfield 246, 3) := by decide +kernel
theorem dX12_now_9 : decode cX12_now 9 = .ok (.ireturn, 1) := by decide +kernel
theorem dX12_state_0 : decode cX12_state 0 = .ok (.aload_n 0, 1) := by decide +kernel
theorem dX12_state_1 : decode cX12_state 1 = .ok (.iload_n 1, 1) := by decide +kernel
theorem dX12_state_2 : decode cX12_state 2 = .ok (.iconst 0, 1) := by decide +kernel
theorem dX12_state_3 : decode cX12_state 3 = .ok (.iconst 4, 1) := by decide +kernel
theorem dX12_state_4 : decode cX12_state 4 = .ok (.invokestatic 236, 3) := by decide +kernel
theorem dX12_state_7 : decode cX12_state 7 = .ok (.iconst 1, 1) := by decide +kernel
theorem dX12_state_8 : decode cX12_state 8 = .ok (.iconst 1, 1) := by decide +kernel
theorem dX12_state_9 : decode cX12_state 9 = .ok (.invokevirtual 253, 3) := by decide +kernel
theorem dX12_state_12 : decode cX12_state 12 = .ok (.ifCond .ne 5, 3) := by decide +kernel
theorem dX12_state_15 : decode cX12_state 15 = .ok (.iconst 0, 1) := by decide +kernel
theorem dX12_state_16 : decode cX12_state 16 = .ok (.ireturn, 1) := by decide +kernel
theorem dX12_state_17 : decode cX12_state 17 = .ok (.iload_n 1, 1) := by decide +kernel
theorem dX12_state_18 : decode cX12_state 18 = .ok (.ifCond .ne 10, 3) := by decide +kernel
theorem dX12_state_21 : decode cX12_state 21 = .ok (.aload_n 0, 1) := by decide +kernel
theorem dX12_state_22 : decode cX12_state 22 = .ok (.getfield 366, 3) := by decide +kernel
theorem dX12_state_25 : decode cX12_state 25 = .ok (.goto 43, 3) := by decide +kernel
theorem dX12_state_28 : decode cX12_state 28 = .ok (.iload_n 1, 1) := by decide +kernel
theorem dX12_state_29 : decode cX12_state 29 = .ok (.iconst 1, 1) := by decide +kernel
theorem dX12_state_30 : decode cX12_state 30 = .ok (.if_icmp .ne 10, 3) := by decide +kernel
theorem dX12_state_33 : decode cX12_state 33 = .ok (.aload_n 0, 1) := by decide +kernel
theorem dX12_state_34 : decode cX12_state 34 = .ok (.getfield 278, 3) := by decide +kernel
theorem dX12_state_37 : decode cX12_state 37 = .ok (.goto 31, 3) := by decide +kernel
theorem dX12_state_40 : decode cX12_state 40 = .ok (.iload_n 1, 1) := by decide +kernel
theorem dX12_state_41 : decode cX12_state 41 = .ok (.iconst 2, 1) := by decide +kernel
theorem dX12_state_42 : decode cX12_state 42 = .ok (.if_icmp .ne 10, 3) := by decide +kernel
theorem dX12_state_45 : decode cX12_state 45 = .ok (.aload_n 0, 1) := by decide +kernel
theorem dX12_state_46 : decode cX12_state 46 = .ok (.getfield 382, 3) := by decide +kernel
theorem dX12_state_49 : decode cX12_state 49 = .ok (.goto 19, 3) := by decide +kernel
theorem dX12_state_52 : decode cX12_state 52 = .ok (.iload_n 1, 1) := by decide +kernel
theorem dX12_state_53 : decode cX12_state 53 = .ok (.iconst 3, 1) := by decide +kernel
theorem dX12_state_54 : decode cX12_state 54 = .ok (.if_icmp .ne 10, 3) := by decide +kernel
theorem dX12_state_57 : decode cX12_state 57 = .ok (.aload_n 0, 1) := by decide +kernel
theorem dX12_state_58 : decode cX12_state 58 = .ok (.getfield 272, 3) := by decide +kernel
theorem dX12_state_61 : decode cX12_state 61 = .ok (.goto 7, 3) := by decide +kernel
theorem dX12_state_64 : decode cX12_state 64 = .ok (.aload_n 0, 1) := by decide +kernel
theorem dX12_state_65 : decode cX12_state 65 = .ok (.getfield 393, 3) := by decide +kernel
theorem dX12_state_68 : decode cX12_state 68 = .ok (.ireturn, 1) := by decide +kernel
theorem dX12_path_0 : decode cX12_path 0 = .ok (.aload_n 0, 1) := by decide +kernel
theorem dX12_path_1 : decode cX12_path 1 = .ok (.iload_n 1, 1) := by decide +kernel
theorem dX12_path_2 : decode cX12_path 2 = .ok (.invokestatic 249, 3) := by decide +kernel
theorem dX12_path_5 : decode cX12_path 5 = .ok (.iload_n 2, 1) := by decide +kernel
theorem dX12_path_6 : decode cX12_path 6 = .ok (.iconst 0, 1) := by decide +kernel
theorem dX12_path_7 : decode cX12_path 7 = .ok (.bipush 8, 2) := by decide +kernel
theorem dX12_path_9 : decode cX12_path 9 = .ok (.invokestatic 236, 3) := by decide +kernel
theorem dX12_path_12 : decode cX12_path 12 = .ok (.iconst 1, 1) := by decide +kernel
theorem dX12_path_13 : decode cX12_path 13 = .ok (.invokevirtual 253, 3) := by decide +kernel
theorem dX12_path_16 : decode cX12_path 16 = .ok (.ifCond .ne 5, 3) := by decide +kernel
theorem dX12_path_19 : decode cX12_path 19 = .ok (.iconst 0, 1) := by decide +kernel
theorem dX12_path_20 : decode cX12_path 20 = .ok (.ireturn, 1) := by decide +kernel
theorem dX12_path_21 : decode cX12_path 21 = .ok (.iload_n 2, 1) := by decide +kernel
theorem dX12_path_22 : decode cX12_path 22 = .ok (.tableswitch 109 0 7 #[46, 53, 60, 66, 73, 80, 87, 94], 46) := by decide +kernel
theorem dX12_path_68 : decode cX12_path 68 = .ok (.aload_n 0, 1) := by decide +kernel
theorem dX12_path_69 : decode cX12_path 69 = .ok (.getfield 163, 3) := by decide +kernel
theorem dX12_path_72 : decode cX12_path 72 = .ok (.iload_n 1, 1) := by decide +kernel
theorem dX12_path_73 : decode cX12_path 73 = .ok (.iaload, 1) := by decide +kernel
theorem dX12_path_74 : decode cX12_path 74 = .ok (.ireturn, 1) := by decide +kernel
theorem dX12_path_75 : decode cX12_path 75 = .ok (.aload_n 0, 1) := by decide +kernel
theorem dX12_path_76 : decode cX12_path 76 = .ok (.getfield 166, 3) := by decide +kernel
theorem dX12_path_79 : decode cX12_path 79 = .ok (.iload_n 1, 1) := by decide +kernel
theorem dX12_path_80 : decode cX12_path 80 = .ok (.iaload, 1) := by decide +kernel
theorem dX12_path_81 : decode cX12_path 81 = .ok (.ireturn, 1) := by decide +kernel
theorem dX12_path_82 : decode cX12_path 82 = .ok (.aload_n 0, 1) := by decide +kernel
theorem dX12_path_83 : decode cX12_path 83 = .ok (.iload_n 1, 1) := by decide +kernel
theorem dX12_path_84 : decode cX12_path 84 = .ok (.invokevirtual 396, 3) := by decide +kernel
theorem dX12_path_87 : decode cX12_path 87 = .ok (.ireturn, 1) := by decide +kernel
theorem dX12_path_88 : decode cX12_path 88 = .ok (.aload_n 0, 1) := by decide +kernel
theorem dX12_path_89 : decode cX12_path 89 = .ok (.getfield 172, 3) := by decide +kernel
theorem dX12_path_92 : decode cX12_path 92 = .ok (.iload_n 1, 1) := by decide +kernel
theorem dX12_path_93 : decode cX12_path 93 = .ok (.iaload, 1) := by decide +kernel
theorem dX12_path_94 : decode cX12_path 94 = .ok (.ireturn, 1) := by decide +kernel
theorem dX12_path_95 : decode cX12_path 95 = .ok (.aload_n 0, 1) := by decide +kernel
theorem dX12_path_96 : decode cX12_path 96 = .ok (.getfield 175, 3) := by decide +kernel
theorem dX12_path_99 : decode cX12_path 99 = .ok (.iload_n 1, 1) := by decide +kernel
theorem dX12_path_100 : decode cX12_path 100 = .ok (.iaload, 1) := by decide +kernel
theorem dX12_path_101 : decode cX12_path 101 = .ok (.ireturn, 1) := by decide +kernel
theorem dX12_path_102 : decode cX12_path 102 = .ok (.aload_n 0, 1) := by decide +kernel
theorem dX12_path_103 : decode cX12_path 103 = .ok (.getfield 178, 3) := by decide +kernel
theorem dX12_path_106 : decode cX12_path 106 = .ok (.iload_n 1, 1) := by decide +kernel
theorem dX12_path_107 : decode cX12_path 107 = .ok (.iaload, 1) := by decide +kernel
theorem dX12_path_108 : decode cX12_path 108 = .ok (.ireturn, 1) := by decide +kernel
theorem dX12_path_109 : decode cX12_path 109 = .ok (.aload_n 0, 1) := by decide +kernel
theorem dX12_path_110 : decode cX12_path 110 = .ok (.getfield 181, 3) := by decide +kernel
theorem dX12_path_113 : decode cX12_path 113 = .ok (.iload_n 1, 1) := by decide +kernel
theorem dX12_path_114 : decode cX12_path 114 = .ok (.iaload, 1) := by decide +kernel
theorem dX12_path_115 : decode cX12_path 115 = .ok (.ireturn, 1) := by decide +kernel
theorem dX12_path_116 : decode cX12_path 116 = .ok (.aload_n 0, 1) := by decide +kernel
theorem dX12_path_117 : decode cX12_path 117 = .ok (.getfield 187, 3) := by decide +kernel
theorem dX12_path_120 : decode cX12_path 120 = .ok (.iload_n 1, 1) := by decide +kernel
theorem dX12_path_121 : decode cX12_path 121 = .ok (.baload, 1) := by decide +kernel
theorem dX12_path_122 : decode cX12_path 122 = .ok (.ifCond .eq 7, 3) := by decide +kernel
theorem dX12_path_125 : decode cX12_path 125 = .ok (.iconst 1, 1) := by decide +kernel
theorem dX12_path_126 : decode cX12_path 126 = .ok (.goto 4, 3) := by decide +kernel
theorem dX12_path_129 : decode cX12_path 129 = .ok (.iconst 0, 1) := by decide +kernel
theorem dX12_path_130 : decode cX12_path 130 = .ok (.ireturn, 1) := by decide +kernel
theorem dX12_path_131 : decode cX12_path 131 = .ok (.aload_n 0, 1) := by decide +kernel
theorem dX12_path_132 : decode cX12_path 132 = .ok (.getfield 41, 3) := by decide +kernel
theorem dX12_path_135 : decode cX12_path 135 = .ok (.iload_n 1, 1) := by decide +kernel
theorem dX12_path_136 : decode cX12_path 136 = .ok (.iaload, 1) := by decide +kernel
theorem dX12_path_137 : decode cX12_path 137 = .ok (.ireturn, 1) := by decide +kernel
theorem dX12_stream_0 : decode cX12_stream 0 = .ok (.aload_n 0, 1) := by decide +kernel
theorem dX12_stream_1 : decode cX12_stream 1 = .ok (.iload_n 1, 1) := by decide +kernel
theorem dX12_stream_2 : decode cX12_stream 2 = .ok (.invokestatic 306, 3) := by decide +kernel
theorem dX12_stream_5 : decode cX12_stream 5 = .ok (.iload_n 2, 1) := by decide +kernel
theorem dX12_stream_6 : decode cX12_stream 6 = .ok (.iconst 0, 1) := by decide +kernel
theorem dX12_stream_7 : decode cX12_stream 7 = .ok (.bipush 6, 2) := by decide +kernel
theorem dX12_stream_9 : decode cX12_stream 9 = .ok (.invokestatic 236, 3) := by decide +kernel
theorem dX12_stream_12 : decode cX12_stream 12 = .ok (.iconst 1, 1) := by decide +kernel
theorem dX12_stream_13 : decode cX12_stream 13 = .ok (.invokevirtual 253, 3) := by decide +kernel
theorem dX12_stream_16 : decode cX12_stream 16 = .ok (.ifCond .ne 5, 3) := by decide +kernel
theorem dX12_stream_19 : decode cX12_stream 19 = .ok (.iconst 0, 1) := by decide +kernel
theorem dX12_stream_20 : decode cX12_stream 20 = .ok (.ireturn, 1) := by decide +kernel
theorem dX12_stream_21 : decode cX12_stream 21 = .ok (.iconst 0, 1) := by decide +kernel
theorem dX12_stream_22 : decode cX12_stream 22 = .ok (.istore_n 3, 1) := by decide +kernel
theorem dX12_stream_23 : decode cX12_stream 23 = .ok (.iconst 0, 1) := by decide +kernel
theorem dX12_stream_24 : decode cX12_stream 24 = .ok (.istore 4, 2) := by decide +kernel
theorem dX12_stream_26 : decode cX12_stream 26 = .ok (.iload 4, 2) := by decide +kernel
theorem dX12_stream_28 : decode cX12_stream 28 = .ok (.aload_n 0, 1) := by decide +kernel
theorem dX12_stream_29 : decode cX12_stream 29 = .ok (.getfield 106, 3) := by decide +kernel
theorem dX12_stream_32 : decode cX12_stream 32 = .ok (.iload_n 1, 1) := by decide +kernel
theorem dX12_stream_33 : decode cX12_stream 33 = .ok (.iaload, 1) := by decide +kernel
theorem dX12_stream_34 : decode cX12_stream 34 = .ok (.if_icmp .ge 53, 3) := by decide +kernel
theorem dX12_stream_37 : decode cX12_stream 37 = .ok (.iload_n 3, 1) := by decide +kernel
theorem dX12_stream_38 : decode cX12_stream 38 = .ok (.iload_n 2, 1) := by decide +kernel
theorem dX12_stream_39 : decode cX12_stream 39 = .ok (.iconst 2, 1) := by decide +kernel
theorem dX12_stream_40 : decode cX12_stream 40 = .ok (.if_icmp .ne 19, 3) := by decide +kernel
theorem dX12_stream_43 : decode cX12_stream 43 = .ok (.aload_n 0, 1) := by decide +kernel
theorem dX12_stream_44 : decode cX12_stream 44 = .ok (.getfield 118, 3) := by decide +kernel
theorem dX12_stream_47 : decode cX12_stream 47 = .ok (.sipush 200, 3) := by decide +kernel
theorem dX12_stream_50 : decode cX12_stream 50 = .ok (.iload_n 1, 1) := by decide +kernel
theorem dX12_stream_51 : decode cX12_stream 51 = .ok (.imul, 1) := by decide +kernel
theorem dX12_stream_52 : decode cX12_stream 52 = .ok (.iload 4, 2) := by decide +kernel
theorem dX12_stream_54 : decode cX12_stream 54 = .ok (.iadd, 1) := by decide +kernel
theorem dX12_stream_55 : decode cX12_stream 55 = .ok (.baload, 1) := by decide +kernel
theorem dX12_stream_56 : decode cX12_stream 56 = .ok (.ifCond .ne 18, 3) := by decide +kernel
theorem dX12_stream_59 : decode cX12_stream 59 = .ok (.iload_n 2, 1) := by decide +kernel
theorem dX12_stream_60 : decode cX12_stream 60 = .ok (.iconst 3, 1) := by decide +kernel
theorem dX12_stream_61 : decode cX12_stream 61 = .ok (.if_icmp .ne 17, 3) := by decide +kernel
theorem dX12_stream_64 : decode cX12_stream 64 = .ok (.aload_n 0, 1) := by decide +kernel
theorem dX12_stream_65 : decode cX12_stream 65 = .ok (.iload_n 1, 1) := by decide +kernel
theorem dX12_stream_66 : decode cX12_stream 66 = .ok (.iload 4, 2) := by decide +kernel
theorem dX12_stream_68 : decode cX12_stream 68 = .ok (.invokevirtual 385, 3) := by decide +kernel
theorem dX12_stream_71 : decode cX12_stream 71 = .ok (.ifCond .eq 7, 3) := by decide +kernel
theorem dX12_stream_74 : decode cX12_stream 74 = .ok (.iconst 1, 1) := by decide +kernel
theorem dX12_stream_75 : decode cX12_stream 75 = .ok (.goto 4, 3) := by decide +kernel
theorem dX12_stream_78 : decode cX12_stream 78 = .ok (.iconst 0, 1) := by decide +kernel
theorem dX12_stream_79 : decode cX12_stream 79 = .ok (.iadd, 1) := by decide +kernel
theorem dX12_stream_80 : decode cX12_stream 80 = .ok (.istore_n 3, 1) := by decide +kernel
theorem dX12_stream_81 : decode cX12_stream 81 = .ok (.iinc 4 1, 3) := by decide +kernel
theorem dX12_stream_84 : decode cX12_stream 84 = .ok (.goto (-58), 3) := by decide +kernel
theorem dX12_stream_87 : decode cX12_stream 87 = .ok (.iload_n 2, 1) := by decide +kernel
theorem dX12_stream_88 : decode cX12_stream 88 = .ok (.ifCond .ne 12, 3) := by decide +kernel
theorem dX12_stream_91 : decode cX12_stream 91 = .ok (.aload_n 0, 1) := by decide +kernel
theorem dX12_stream_92 : decode cX12_stream 92 = .ok (.getfield 103, 3) := by decide +kernel
theorem dX12_stream_95 : decode cX12_stream 95 = .ok (.iload_n 1, 1) := by decide +kernel
theorem dX12_stream_96 : decode cX12_stream 96 = .ok (.iaload, 1) := by decide +kernel
theorem dX12_stream_97 : decode cX12_stream 97 = .ok (.goto 59, 3) := by decide +kernel
theorem dX12_stream_100 : decode cX12_stream 100 = .ok (.iload_n 2, 1) := by decide +kernel
theorem dX12_stream_101 : decode cX12_stream 101 = .ok (.iconst 1, 1) := by decide +kernel
theorem dX12_stream_102 : decode cX12_stream 102 = .ok (.if_icmp .ne 12, 3) := by decide +kernel
theorem dX12_stream_105 : decode cX12_stream 105 = .ok (.aload_n 0, 1) := by decide +kernel
theorem dX12_stream_106 : decode cX12_stream 106 = .ok (.getfield 106, 3) := by decide +kernel
theorem dX12_stream_109 : decode cX12_stream 109 = .ok (.iload_n 1, 1) := by decide +kernel
theorem dX12_stream_110 : decode cX12_stream 110 = .ok (.iaload, 1) := by decide +kernel
theorem dX12_stream_111 : decode cX12_stream 111 = .ok (.goto 45, 3) := by decide +kernel
theorem dX12_stream_114 : decode cX12_stream 114 = .ok (.iload_n 2, 1) := by decide +kernel
theorem dX12_stream_115 : decode cX12_stream 115 = .ok (.iconst 4, 1) := by decide +kernel
theorem dX12_stream_116 : decode cX12_stream 116 = .ok (.if_icmp .ge 7, 3) := by decide +kernel
theorem dX12_stream_119 : decode cX12_stream 119 = .ok (.iload_n 3, 1) := by decide +kernel
theorem dX12_stream_120 : decode cX12_stream 120 = .ok (.goto 36, 3) := by decide +kernel
theorem dX12_stream_123 : decode cX12_stream 123 = .ok (.iload_n 2, 1) := by decide +kernel
theorem dX12_stream_124 : decode cX12_stream 124 = .ok (.iconst 4, 1) := by decide +kernel
theorem dX12_stream_125 : decode cX12_stream 125 = .ok (.if_icmp .ne 12, 3) := by decide +kernel
theorem dX12_stream_128 : decode cX12_stream 128 = .ok (.aload_n 0, 1) := by decide +kernel
theorem dX12_stream_129 : decode cX12_stream 129 = .ok (.getfield 109, 3) := by decide +kernel
theorem dX12_stream_132 : decode cX12_stream 132 = .ok (.iload_n 1, 1) := by decide +kernel
theorem dX12_stream_133 : decode cX12_stream 133 = .ok (.iaload, 1) := by decide +kernel
theorem dX12_stream_134 : decode cX12_stream 134 = .ok (.goto 22, 3) := by decide +kernel
theorem dX12_stream_137 : decode cX12_stream 137 = .ok (.iload_n 2, 1) := by decide +kernel
theorem dX12_stream_138 : decode cX12_stream 138 = .ok (.iconst 5, 1) := by decide +kernel
theorem dX12_stream_139 : decode cX12_stream 139 = .ok (.if_icmp .ne 11, 3) := by decide +kernel
theorem dX12_stream_142 : decode cX12_stream 142 = .ok (.aload_n 0, 1) := by decide +kernel
theorem dX12_stream_143 : decode cX12_stream 143 = .ok (.iload_n 1, 1) := by decide +kernel
theorem dX12_stream_144 : decode cX12_stream 144 = .ok (.invokevirtual 309, 3) := by decide +kernel
theorem dX12_stream_147 : decode cX12_stream 147 = .ok (.goto 9, 3) := by decide +kernel
theorem dX12_stream_150 : decode cX12_stream 150 = .ok (.aload_n 0, 1) := by decide +kernel
theorem dX12_stream_151 : decode cX12_stream 151 = .ok (.getfield 88, 3) := by decide +kernel
theorem dX12_stream_154 : decode cX12_stream 154 = .ok (.iload_n 1, 1) := by decide +kernel
theorem dX12_stream_155 : decode cX12_stream 155 = .ok (.iaload, 1) := by decide +kernel
theorem dX12_stream_156 : decode cX12_stream 156 = .ok (.ireturn, 1) := by decide +kernel
theorem dX12_credit_0 : decode cX12_credit 0 = .ok (.aload_n 0, 1) := by decide +kernel
theorem dX12_credit_1 : decode cX12_credit 1 = .ok (.iconst 0, 1) := by decide +kernel
theorem dX12_credit_2 : decode cX12_credit 2 = .ok (.putfield 233, 3) := by decide +kernel
theorem dX12_credit_5 : decode cX12_credit 5 = .ok (.aload_n 0, 1) := by decide +kernel
theorem dX12_credit_6 : decode cX12_credit 6 = .ok (.getfield 112, 3) := by decide +kernel
theorem dX12_credit_9 : decode cX12_credit 9 = .ok (.ireturn, 1) := by decide +kernel
theorem dX12_packets_0 : decode cX12_packets 0 = .ok (.aload_n 0, 1) := by decide +kernel
theorem dX12_packets_1 : decode cX12_packets 1 = .ok (.iconst 0, 1) := by decide +kernel
theorem dX12_packets_2 : decode cX12_packets 2 = .ok (.putfield 233, 3) := by decide +kernel
theorem dX12_packets_5 : decode cX12_packets 5 = .ok (.aload_n 0, 1) := by decide +kernel
theorem dX12_packets_6 : decode cX12_packets 6 = .ok (.getfield 313, 3) := by decide +kernel
theorem dX12_packets_9 : decode cX12_packets 9 = .ok (.ireturn, 1) := by decide +kernel
theorem dX12_packet_0 : decode cX12_packet 0 = .ok (.aload_n 0, 1) := by decide +kernel
theorem dX12_packet_1 : decode cX12_packet 1 = .ok (.iload_n 1, 1) := by decide +kernel
theorem dX12_packet_2 : decode cX12_packet 2 = .ok (.iconst 0, 1) := by decide +kernel
theorem dX12_packet_3 : decode cX12_packet 3 = .ok (.aload_n 0, 1) := by decide +kernel
theorem dX12_packet_4 : decode cX12_packet 4 = .ok (.getfield 313, 3) := by decide +kernel
theorem dX12_packet_7 : decode cX12_packet 7 = .ok (.iconst 1, 1) := by decide +kernel
theorem dX12_packet_8 : decode cX12_packet 8 = .ok (.isub, 1) := by decide +kernel
theorem dX12_packet_9 : decode cX12_packet 9 = .ok (.invokestatic 236, 3) := by decide +kernel
theorem dX12_packet_12 : decode cX12_packet 12 = .ok (.iload_n 2, 1) := by decide +kernel
theorem dX12_packet_13 : decode cX12_packet 13 = .ok (.iconst 0, 1) := by decide +kernel
theorem dX12_packet_14 : decode cX12_packet 14 = .ok (.bipush 10, 2) := by decide +kernel
theorem dX12_packet_16 : decode cX12_packet 16 = .ok (.invokestatic 236, 3) := by decide +kernel
theorem dX12_packet_19 : decode cX12_packet 19 = .ok (.iconst 1, 1) := by decide +kernel
theorem dX12_packet_20 : decode cX12_packet 20 = .ok (.invokevirtual 253, 3) := by decide +kernel
theorem dX12_packet_23 : decode cX12_packet 23 = .ok (.ifCond .ne 5, 3) := by decide +kernel
theorem dX12_packet_26 : decode cX12_packet 26 = .ok (.iconst 0, 1) := by decide +kernel
theorem dX12_packet_27 : decode cX12_packet 27 = .ok (.ireturn, 1) := by decide +kernel
theorem dX12_packet_28 : decode cX12_packet 28 = .ok (.iload_n 2, 1) := by decide +kernel
theorem dX12_packet_29 : decode cX12_packet 29 = .ok (.tableswitch 141 0 9 #[55, 62, 69, 76, 83, 90, 97, 104, 111, 126], 55) := by decide +kernel
theorem dX12_packet_84 : decode cX12_packet 84 = .ok (.aload_n 0, 1) := by decide +kernel
theorem dX12_packet_85 : decode cX12_packet 85 = .ok (.getfield 124, 3) := by decide +kernel
theorem dX12_packet_88 : decode cX12_packet 88 = .ok (.iload_n 1, 1) := by decide +kernel
theorem dX12_packet_89 : decode cX12_packet 89 = .ok (.iaload, 1) := by decide +kernel
theorem dX12_packet_90 : decode cX12_packet 90 = .ok (.ireturn, 1) := by decide +kernel
theorem dX12_packet_91 : decode cX12_packet 91 = .ok (.aload_n 0, 1) := by decide +kernel
theorem dX12_packet_92 : decode cX12_packet 92 = .ok (.getfield 127, 3) := by decide +kernel
theorem dX12_packet_95 : decode cX12_packet 95 = .ok (.iload_n 1, 1) := by decide +kernel
theorem dX12_packet_96 : decode cX12_packet 96 = .ok (.iaload, 1) := by decide +kernel
theorem dX12_packet_97 : decode cX12_packet 97 = .ok (.ireturn, 1) := by decide +kernel
theorem dX12_packet_98 : decode cX12_packet 98 = .ok (.aload_n 0, 1) := by decide +kernel
theorem dX12_packet_99 : decode cX12_packet 99 = .ok (.getfield 130, 3) := by decide +kernel
theorem dX12_packet_102 : decode cX12_packet 102 = .ok (.iload_n 1, 1) := by decide +kernel
theorem dX12_packet_103 : decode cX12_packet 103 = .ok (.iaload, 1) := by decide +kernel
theorem dX12_packet_104 : decode cX12_packet 104 = .ok (.ireturn, 1) := by decide +kernel
theorem dX12_packet_105 : decode cX12_packet 105 = .ok (.aload_n 0, 1) := by decide +kernel
theorem dX12_packet_106 : decode cX12_packet 106 = .ok (.getfield 133, 3) := by decide +kernel
theorem dX12_packet_109 : decode cX12_packet 109 = .ok (.iload_n 1, 1) := by decide +kernel
theorem dX12_packet_110 : decode cX12_packet 110 = .ok (.iaload, 1) := by decide +kernel
theorem dX12_packet_111 : decode cX12_packet 111 = .ok (.ireturn, 1) := by decide +kernel
theorem dX12_packet_112 : decode cX12_packet 112 = .ok (.aload_n 0, 1) := by decide +kernel
theorem dX12_packet_113 : decode cX12_packet 113 = .ok (.getfield 136, 3) := by decide +kernel
theorem dX12_packet_116 : decode cX12_packet 116 = .ok (.iload_n 1, 1) := by decide +kernel
theorem dX12_packet_117 : decode cX12_packet 117 = .ok (.iaload, 1) := by decide +kernel
theorem dX12_packet_118 : decode cX12_packet 118 = .ok (.ireturn, 1) := by decide +kernel
theorem dX12_packet_119 : decode cX12_packet 119 = .ok (.aload_n 0, 1) := by decide +kernel
theorem dX12_packet_120 : decode cX12_packet 120 = .ok (.getfield 139, 3) := by decide +kernel
theorem dX12_packet_123 : decode cX12_packet 123 = .ok (.iload_n 1, 1) := by decide +kernel
theorem dX12_packet_124 : decode cX12_packet 124 = .ok (.iaload, 1) := by decide +kernel
theorem dX12_packet_125 : decode cX12_packet 125 = .ok (.ireturn, 1) := by decide +kernel
theorem dX12_packet_126 : decode cX12_packet 126 = .ok (.aload_n 0, 1) := by decide +kernel
theorem dX12_packet_127 : decode cX12_packet 127 = .ok (.getfield 142, 3) := by decide +kernel
theorem dX12_packet_130 : decode cX12_packet 130 = .ok (.iload_n 1, 1) := by decide +kernel
theorem dX12_packet_131 : decode cX12_packet 131 = .ok (.iaload, 1) := by decide +kernel
theorem dX12_packet_132 : decode cX12_packet 132 = .ok (.ireturn, 1) := by decide +kernel
theorem dX12_packet_133 : decode cX12_packet 133 = .ok (.aload_n 0, 1) := by decide +kernel
theorem dX12_packet_134 : decode cX12_packet 134 = .ok (.getfield 145, 3) := by decide +kernel
theorem dX12_packet_137 : decode cX12_packet 137 = .ok (.iload_n 1, 1) := by decide +kernel
theorem dX12_packet_138 : decode cX12_packet 138 = .ok (.iaload, 1) := by decide +kernel
theorem dX12_packet_139 : decode cX12_packet 139 = .ok (.ireturn, 1) := by decide +kernel
theorem dX12_packet_140 : decode cX12_packet 140 = .ok (.aload_n 0, 1) := by decide +kernel
theorem dX12_packet_141 : decode cX12_packet 141 = .ok (.getfield 148, 3) := by decide +kernel
theorem dX12_packet_144 : decode cX12_packet 144 = .ok (.iload_n 1, 1) := by decide +kernel
theorem dX12_packet_145 : decode cX12_packet 145 = .ok (.baload, 1) := by decide +kernel
theorem dX12_packet_146 : decode cX12_packet 146 = .ok (.ifCond .eq 7, 3) := by decide +kernel
theorem dX12_packet_149 : decode cX12_packet 149 = .ok (.iconst 1, 1) := by decide +kernel
theorem dX12_packet_150 : decode cX12_packet 150 = .ok (.goto 4, 3) := by decide +kernel
theorem dX12_packet_153 : decode cX12_packet 153 = .ok (.iconst 0, 1) := by decide +kernel
theorem dX12_packet_154 : decode cX12_packet 154 = .ok (.ireturn, 1) := by decide +kernel
theorem dX12_packet_155 : decode cX12_packet 155 = .ok (.aload_n 0, 1) := by decide +kernel
theorem dX12_packet_156 : decode cX12_packet 156 = .ok (.getfield 151, 3) := by decide +kernel
theorem dX12_packet_159 : decode cX12_packet 159 = .ok (.iload_n 1, 1) := by decide +kernel
theorem dX12_packet_160 : decode cX12_packet 160 = .ok (.baload, 1) := by decide +kernel
theorem dX12_packet_161 : decode cX12_packet 161 = .ok (.ifCond .eq 7, 3) := by decide +kernel
theorem dX12_packet_164 : decode cX12_packet 164 = .ok (.iconst 1, 1) := by decide +kernel
theorem dX12_packet_165 : decode cX12_packet 165 = .ok (.goto 4, 3) := by decide +kernel
theorem dX12_packet_168 : decode cX12_packet 168 = .ok (.iconst 0, 1) := by decide +kernel
theorem dX12_packet_169 : decode cX12_packet 169 = .ok (.ireturn, 1) := by decide +kernel
theorem dX12_packet_170 : decode cX12_packet 170 = .ok (.aload_n 0, 1) := by decide +kernel
theorem dX12_packet_171 : decode cX12_packet 171 = .ok (.getfield 154, 3) := by decide +kernel
theorem dX12_packet_174 : decode cX12_packet 174 = .ok (.iload_n 1, 1) := by decide +kernel
theorem dX12_packet_175 : decode cX12_packet 175 = .ok (.baload, 1) := by decide +kernel
theorem dX12_packet_176 : decode cX12_packet 176 = .ok (.ifCond .eq 7, 3) := by decide +kernel
theorem dX12_packet_179 : decode cX12_packet 179 = .ok (.iconst 1, 1) := by decide +kernel
theorem dX12_packet_180 : decode cX12_packet 180 = .ok (.goto 4, 3) := by decide +kernel
theorem dX12_packet_183 : decode cX12_packet 183 = .ok (.iconst 0, 1) := by decide +kernel
theorem dX12_packet_184 : decode cX12_packet 184 = .ok (.ireturn, 1) := by decide +kernel
theorem dX12_count_0 : decode cX12_count 0 = .ok (.aload_n 0, 1) := by decide +kernel
theorem dX12_count_1 : decode cX12_count 1 = .ok (.iload_n 1, 1) := by decide +kernel
theorem dX12_count_2 : decode cX12_count 2 = .ok (.iconst 0, 1) := by decide +kernel
theorem dX12_count_3 : decode cX12_count 3 = .ok (.iconst 5, 1) := by decide +kernel
theorem dX12_count_4 : decode cX12_count 4 = .ok (.invokestatic 236, 3) := by decide +kernel
theorem dX12_count_7 : decode cX12_count 7 = .ok (.iconst 1, 1) := by decide +kernel
theorem dX12_count_8 : decode cX12_count 8 = .ok (.iconst 1, 1) := by decide +kernel
theorem dX12_count_9 : decode cX12_count 9 = .ok (.invokevirtual 253, 3) := by decide +kernel
theorem dX12_count_12 : decode cX12_count 12 = .ok (.ifCond .eq 12, 3) := by decide +kernel
theorem dX12_count_15 : decode cX12_count 15 = .ok (.aload_n 0, 1) := by decide +kernel
theorem dX12_count_16 : decode cX12_count 16 = .ok (.getfield 229, 3) := by decide +kernel
theorem dX12_count_19 : decode cX12_count 19 = .ok (.iload_n 1, 1) := by decide +kernel
theorem dX12_count_20 : decode cX12_count 20 = .ok (.iaload, 1) := by decide +kernel
theorem dX12_count_21 : decode cX12_count 21 = .ok (.goto 4, 3) := by decide +kernel
theorem dX12_count_24 : decode cX12_count 24 = .ok (.iconst 0, 1) := by decide +kernel
theorem dX12_count_25 : decode cX12_count 25 = .ok (.ireturn, 1) := by decide +kernel
theorem dX12_inFlightAnew_0 : decode cX12_inFlightAnew 0 = .ok (.aload_n 0, 1) := by decide +kernel
theorem dX12_inFlightAnew_1 : decode cX12_inFlightAnew 1 = .ok (.iload_n 1, 1) := by decide +kernel
theorem dX12_inFlightAnew_2 : decode cX12_inFlightAnew 2 = .ok (.invokestatic 249, 3) := by decide +kernel
theorem dX12_inFlightAnew_5 : decode cX12_inFlightAnew 5 = .ok (.iconst 1, 1) := by decide +kernel
theorem dX12_inFlightAnew_6 : decode cX12_inFlightAnew 6 = .ok (.iconst 1, 1) := by decide +kernel
theorem dX12_inFlightAnew_7 : decode cX12_inFlightAnew 7 = .ok (.invokevirtual 253, 3) := by decide +kernel
theorem dX12_inFlightAnew_10 : decode cX12_inFlightAnew 10 = .ok (.ifCond .eq 11, 3) := by decide +kernel
theorem dX12_inFlightAnew_13 : decode cX12_inFlightAnew 13 = .ok (.aload_n 0, 1) := by decide +kernel
theorem dX12_inFlightAnew_14 : decode cX12_inFlightAnew 14 = .ok (.iload_n 1, 1) := by decide +kernel
theorem dX12_inFlightAnew_15 : decode cX12_inFlightAnew 15 = .ok (.invokevirtual 396, 3) := by decide +kernel
theorem dX12_inFlightAnew_18 : decode cX12_inFlightAnew 18 = .ok (.goto 4, 3) := by decide +kernel
theorem dX12_inFlightAnew_21 : decode cX12_inFlightAnew 21 = .ok (.iconst 0, 1) := by decide +kernel
theorem dX12_inFlightAnew_22 : decode cX12_inFlightAnew 22 = .ok (.ireturn, 1) := by decide +kernel
theorem dX12_gotAnew_0 : decode cX12_gotAnew 0 = .ok (.aload_n 0, 1) := by decide +kernel
theorem dX12_gotAnew_1 : decode cX12_gotAnew 1 = .ok (.iload_n 1, 1) := by decide +kernel
theorem dX12_gotAnew_2 : decode cX12_gotAnew 2 = .ok (.invokestatic 306, 3) := by decide +kernel
theorem dX12_gotAnew_5 : decode cX12_gotAnew 5 = .ok (.iconst 1, 1) := by decide +kernel
theorem dX12_gotAnew_6 : decode cX12_gotAnew 6 = .ok (.iconst 1, 1) := by decide +kernel
theorem dX12_gotAnew_7 : decode cX12_gotAnew 7 = .ok (.invokevirtual 253, 3) := by decide +kernel
theorem dX12_gotAnew_10 : decode cX12_gotAnew 10 = .ok (.ifCond .ne 5, 3) := by decide +kernel
theorem dX12_gotAnew_13 : decode cX12_gotAnew 13 = .ok (.iconst 0, 1) := by decide +kernel
theorem dX12_gotAnew_14 : decode cX12_gotAnew 14 = .ok (.ireturn, 1) := by decide +kernel
theorem dX12_gotAnew_15 : decode cX12_gotAnew 15 = .ok (.iconst 0, 1) := by decide +kernel
theorem dX12_gotAnew_16 : decode cX12_gotAnew 16 = .ok (.istore_n 2, 1) := by decide +kernel
theorem dX12_gotAnew_17 : decode cX12_gotAnew 17 = .ok (.iconst 1, 1) := by decide +kernel
theorem dX12_gotAnew_18 : decode cX12_gotAnew 18 = .ok (.istore_n 3, 1) := by decide +kernel
theorem dX12_gotAnew_19 : decode cX12_gotAnew 19 = .ok (.iload_n 3, 1) := by decide +kernel
theorem dX12_gotAnew_20 : decode cX12_gotAnew 20 = .ok (.ifCond .eq 108, 3) := by decide +kernel
theorem dX12_gotAnew_23 : decode cX12_gotAnew 23 = .ok (.iload_n 2, 1) := by decide +kernel
theorem dX12_gotAnew_24 : decode cX12_gotAnew 24 = .ok (.sipush 200, 3) := by decide +kernel
theorem dX12_gotAnew_27 : decode cX12_gotAnew 27 = .ok (.if_icmp .ge 101, 3) := by decide +kernel
theorem dX12_gotAnew_30 : decode cX12_gotAnew 30 = .ok (.iconst 0, 1) := by decide +kernel
theorem dX12_gotAnew_31 : decode cX12_gotAnew 31 = .ok (.istore_n 3, 1) := by decide +kernel
theorem dX12_gotAnew_32 : decode cX12_gotAnew 32 = .ok (.iconst 0, 1) := by decide +kernel
theorem dX12_gotAnew_33 : decode cX12_gotAnew 33 = .ok (.istore 4, 2) := by decide +kernel
theorem dX12_gotAnew_35 : decode cX12_gotAnew 35 = .ok (.iload 4, 2) := by decide +kernel
theorem dX12_gotAnew_37 : decode cX12_gotAnew 37 = .ok (.aload_n 0, 1) := by decide +kernel
theorem dX12_gotAnew_38 : decode cX12_gotAnew 38 = .ok (.getfield 313, 3) := by decide +kernel
theorem dX12_gotAnew_41 : decode cX12_gotAnew 41 = .ok (.if_icmp .ge 72, 3) := by decide +kernel
theorem dX12_gotAnew_44 : decode cX12_gotAnew 44 = .ok (.iload_n 3, 1) := by decide +kernel
theorem dX12_gotAnew_45 : decode cX12_gotAnew 45 = .ok (.ifCond .ne 56, 3) := by decide +kernel
theorem dX12_gotAnew_48 : decode cX12_gotAnew 48 = .ok (.aload_n 0, 1) := by decide +kernel
theorem dX12_gotAnew_49 : decode cX12_gotAnew 49 = .ok (.getfield 142, 3) := by decide +kernel
theorem dX12_gotAnew_52 : decode cX12_gotAnew 52 = .ok (.iload 4, 2) := by decide +kernel
theorem dX12_gotAnew_54 : decode cX12_gotAnew 54 = .ok (.iaload, 1) := by decide +kernel
theorem dX12_gotAnew_55 : decode cX12_gotAnew 55 = .ok (.iconst 1, 1) := by decide +kernel
theorem dX12_gotAnew_56 : decode cX12_gotAnew 56 = .ok (.if_icmp .ne 49, 3) := by decide +kernel
theorem dX12_gotAnew_59 : decode cX12_gotAnew 59 = .ok (.aload_n 0, 1) := by decide +kernel
theorem dX12_gotAnew_60 : decode cX12_gotAnew 60 = .ok (.getfield 130, 3) := by decide +kernel
theorem dX12_gotAnew_63 : decode cX12_gotAnew 63 = .ok (.iload 4, 2) := by decide +kernel
theorem dX12_gotAnew_65 : decode cX12_gotAnew 65 = .ok (.iaload, 1) := by decide +kernel
theorem dX12_gotAnew_66 : decode cX12_gotAnew 66 = .ok (.iload_n 1, 1) := by decide +kernel
theorem dX12_gotAnew_67 : decode cX12_gotAnew 67 = .ok (.if_icmp .ne 38, 3) := by decide +kernel
theorem dX12_gotAnew_70 : decode cX12_gotAnew 70 = .ok (.iload_n 2, 1) := by decide +kernel
theorem dX12_gotAnew_71 : decode cX12_gotAnew 71 = .ok (.aload_n 0, 1) := by decide +kernel
theorem dX12_gotAnew_72 : decode cX12_gotAnew 72 = .ok (.getfield 133, 3) := by decide +kernel
theorem dX12_gotAnew_75 : decode cX12_gotAnew 75 = .ok (.iload 4, 2) := by decide +kernel
theorem dX12_gotAnew_77 : decode cX12_gotAnew 77 = .ok (.iaload, 1) := by decide +kernel
theorem dX12_gotAnew_78 : decode cX12_gotAnew 78 = .ok (.aload_n 0, 1) := by decide +kernel
theorem dX12_gotAnew_79 : decode cX12_gotAnew 79 = .ok (.getfield 133, 3) := by decide +kernel
theorem dX12_gotAnew_82 : decode cX12_gotAnew 82 = .ok (.iload 4, 2) := by decide +kernel
theorem dX12_gotAnew_84 : decode cX12_gotAnew 84 = .ok (.iaload, 1) := by decide +kernel
theorem dX12_gotAnew_85 : decode cX12_gotAnew 85 = .ok (.aload_n 0, 1) := by decide +kernel
theorem dX12_gotAnew_86 : decode cX12_gotAnew 86 = .ok (.getfield 136, 3) := by decide +kernel
theorem dX12_gotAnew_89 : decode cX12_gotAnew 89 = .ok (.iload 4, 2) := by decide +kernel
theorem dX12_gotAnew_91 : decode cX12_gotAnew 91 = .ok (.iaload, 1) := by decide +kernel
theorem dX12_gotAnew_92 : decode cX12_gotAnew 92 = .ok (.iadd, 1) := by decide +kernel
theorem dX12_gotAnew_93 : decode cX12_gotAnew 93 = .ok (.iconst 1, 1) := by decide +kernel
theorem dX12_gotAnew_94 : decode cX12_gotAnew 94 = .ok (.isub, 1) := by decide +kernel
theorem dX12_gotAnew_95 : decode cX12_gotAnew 95 = .ok (.invokestatic 236, 3) := by decide +kernel
theorem dX12_gotAnew_98 : decode cX12_gotAnew 98 = .ok (.ifCond .eq 7, 3) := by decide +kernel
theorem dX12_gotAnew_101 : decode cX12_gotAnew 101 = .ok (.iconst 1, 1) := by decide +kernel
theorem dX12_gotAnew_102 : decode cX12_gotAnew 102 = .ok (.goto 4, 3) := by decide +kernel
theorem dX12_gotAnew_105 : decode cX12_gotAnew 105 = .ok (.iconst 0, 1) := by decide +kernel
theorem dX12_gotAnew_106 : decode cX12_gotAnew 106 = .ok (.istore_n 3, 1) := by decide +kernel
theorem dX12_gotAnew_107 : decode cX12_gotAnew 107 = .ok (.iinc 4 1, 3) := by decide +kernel
theorem dX12_gotAnew_110 : decode cX12_gotAnew 110 = .ok (.goto (-75), 3) := by decide +kernel
theorem dX12_gotAnew_113 : decode cX12_gotAnew 113 = .ok (.iload_n 2, 1) := by decide +kernel
theorem dX12_gotAnew_114 : decode cX12_gotAnew 114 = .ok (.iload_n 3, 1) := by decide +kernel
theorem dX12_gotAnew_115 : decode cX12_gotAnew 115 = .ok (.ifCond .eq 7, 3) := by decide +kernel
theorem dX12_gotAnew_118 : decode cX12_gotAnew 118 = .ok (.iconst 1, 1) := by decide +kernel
theorem dX12_gotAnew_119 : decode cX12_gotAnew 119 = .ok (.goto 4, 3) := by decide +kernel
theorem dX12_gotAnew_122 : decode cX12_gotAnew 122 = .ok (.iconst 0, 1) := by decide +kernel
theorem dX12_gotAnew_123 : decode cX12_gotAnew 123 = .ok (.iadd, 1) := by decide +kernel
theorem dX12_gotAnew_124 : decode cX12_gotAnew 124 = .ok (.istore_n 2, 1) := by decide +kernel
theorem dX12_gotAnew_125 : decode cX12_gotAnew 125 = .ok (.goto (-106), 3) := by decide +kernel
theorem dX12_gotAnew_128 : decode cX12_gotAnew 128 = .ok (.iload_n 2, 1) := by decide +kernel
theorem dX12_gotAnew_129 : decode cX12_gotAnew 129 = .ok (.ireturn, 1) := by decide +kernel
theorem dL_setPath_0 : decode cL_setPath 0 = .ok (.aload_n 0, 1) := by decide +kernel
theorem dL_setPath_1 : decode cL_setPath 1 = .ok (.iload_n 1, 1) := by decide +kernel
theorem dL_setPath_2 : decode cL_setPath 2 = .ok (.iload_n 2, 1) := by decide +kernel
theorem dL_setPath_3 : decode cL_setPath 3 = .ok (.iload_n 3, 1) := by decide +kernel
theorem dL_setPath_4 : decode cL_setPath 4 = .ok (.iload 4, 2) := by decide +kernel
theorem dL_setPath_6 : decode cL_setPath 6 = .ok (.iload 5, 2) := by decide +kernel
theorem dL_setPath_8 : decode cL_setPath 8 = .ok (.invokevirtual 7, 3) := by decide +kernel
theorem dL_setPath_11 : decode cL_setPath 11 = .ok (.goto 11, 3) := by decide +kernel
theorem dL_setPath_14 : decode cL_setPath 14 = .ok (.astore 6, 2) := by decide +kernel
theorem dL_setPath_16 : decode cL_setPath 16 = .ok (.iconst 1, 1) := by decide +kernel
theorem dL_setPath_17 : decode cL_setPath 17 = .ok (.ireturn, 1) := by decide +kernel
theorem dL_setPath_18 : decode cL_setPath 18 = .ok (.astore 6, 2) := by decide +kernel
theorem dL_setPath_20 : decode cL_setPath 20 = .ok (.iconst 2, 1) := by decide +kernel
theorem dL_setPath_21 : decode cL_setPath 21 = .ok (.ireturn, 1) := by decide +kernel
theorem dL_setPath_22 : decode cL_setPath 22 = .ok (.iconst 0, 1) := by decide +kernel
theorem dL_setPath_23 : decode cL_setPath 23 = .ok (.ireturn, 1) := by decide +kernel
theorem dL_setUp_0 : decode cL_setUp 0 = .ok (.aload_n 3, 1) := by decide +kernel
theorem dL_setUp_1 : decode cL_setUp 1 = .ok (.iconst 0, 1) := by decide +kernel
theorem dL_setUp_2 : decode cL_setUp 2 = .ok (.aload_n 0, 1) := by decide +kernel
theorem dL_setUp_3 : decode cL_setUp 3 = .ok (.iload_n 1, 1) := by decide +kernel
theorem dL_setUp_4 : decode cL_setUp 4 = .ok (.iload_n 2, 1) := by decide +kernel
theorem dL_setUp_5 : decode cL_setUp 5 = .ok (.invokevirtual 17, 3) := by decide +kernel
theorem dL_setUp_8 : decode cL_setUp 8 = .ok (.ifCond .eq 7, 3) := by decide +kernel
theorem dL_setUp_11 : decode cL_setUp 11 = .ok (.lconst 1, 1) := by decide +kernel
theorem dL_setUp_12 : decode cL_setUp 12 = .ok (.goto 4, 3) := by decide +kernel
theorem dL_setUp_15 : decode cL_setUp 15 = .ok (.lconst 0, 1) := by decide +kernel
theorem dL_setUp_16 : decode cL_setUp 16 = .ok (.lastore, 1) := by decide +kernel
theorem dL_setUp_17 : decode cL_setUp 17 = .ok (.goto 7, 3) := by decide +kernel
theorem dL_setUp_20 : decode cL_setUp 20 = .ok (.astore 4, 2) := by decide +kernel
theorem dL_setUp_22 : decode cL_setUp 22 = .ok (.iconst 1, 1) := by decide +kernel
theorem dL_setUp_23 : decode cL_setUp 23 = .ok (.ireturn, 1) := by decide +kernel
theorem dL_setUp_24 : decode cL_setUp 24 = .ok (.iconst 0, 1) := by decide +kernel
theorem dL_setUp_25 : decode cL_setUp 25 = .ok (.ireturn, 1) := by decide +kernel
theorem dL_lose_0 : decode cL_lose 0 = .ok (.aload_n 0, 1) := by decide +kernel
theorem dL_lose_1 : decode cL_lose 1 = .ok (.iload_n 1, 1) := by decide +kernel
theorem dL_lose_2 : decode cL_lose 2 = .ok (.iload_n 2, 1) := by decide +kernel
theorem dL_lose_3 : decode cL_lose 3 = .ok (.iload_n 3, 1) := by decide +kernel
theorem dL_lose_4 : decode cL_lose 4 = .ok (.invokevirtual 21, 3) := by decide +kernel
theorem dL_lose_7 : decode cL_lose 7 = .ok (.goto 11, 3) := by decide +kernel
theorem dL_lose_10 : decode cL_lose 10 = .ok (.astore 4, 2) := by decide +kernel
theorem dL_lose_12 : decode cL_lose 12 = .ok (.iconst 1, 1) := by decide +kernel
theorem dL_lose_13 : decode cL_lose 13 = .ok (.ireturn, 1) := by decide +kernel
theorem dL_lose_14 : decode cL_lose 14 = .ok (.astore 4, 2) := by decide +kernel
theorem dL_lose_16 : decode cL_lose 16 = .ok (.iconst 2, 1) := by decide +kernel
theorem dL_lose_17 : decode cL_lose 17 = .ok (.ireturn, 1) := by decide +kernel
theorem dL_lose_18 : decode cL_lose 18 = .ok (.iconst 0, 1) := by decide +kernel
theorem dL_lose_19 : decode cL_lose 19 = .ok (.ireturn, 1) := by decide +kernel
theorem dL_late_0 : decode cL_late 0 = .ok (.aload_n 0, 1) := by decide +kernel
theorem dL_late_1 : decode cL_late 1 = .ok (.iload_n 1, 1) := by decide +kernel
theorem dL_late_2 : decode cL_late 2 = .ok (.iload_n 2, 1) := by decide +kernel
theorem dL_late_3 : decode cL_late 3 = .ok (.iload_n 3, 1) := by decide +kernel
theorem dL_late_4 : decode cL_late 4 = .ok (.invokevirtual 25, 3) := by decide +kernel
theorem dL_late_7 : decode cL_late 7 = .ok (.goto 11, 3) := by decide +kernel
theorem dL_late_10 : decode cL_late 10 = .ok (.astore 4, 2) := by decide +kernel
theorem dL_late_12 : decode cL_late 12 = .ok (.iconst 1, 1) := by decide +kernel
theorem dL_late_13 : decode cL_late 13 = .ok (.ireturn, 1) := by decide +kernel
theorem dL_late_14 : decode cL_late 14 = .ok (.astore 4, 2) := by decide +kernel
theorem dL_late_16 : decode cL_late 16 = .ok (.iconst 2, 1) := by decide +kernel
theorem dL_late_17 : decode cL_late 17 = .ok (.ireturn, 1) := by decide +kernel
theorem dL_late_18 : decode cL_late 18 = .ok (.iconst 0, 1) := by decide +kernel
theorem dL_late_19 : decode cL_late 19 = .ok (.ireturn, 1) := by decide +kernel
theorem dL_foreign_0 : decode cL_foreign 0 = .ok (.aload_n 3, 1) := by decide +kernel
theorem dL_foreign_1 : decode cL_foreign 1 = .ok (.iconst 0, 1) := by decide +kernel
theorem dL_foreign_2 : decode cL_foreign 2 = .ok (.aload_n 0, 1) := by decide +kernel
theorem dL_foreign_3 : decode cL_foreign 3 = .ok (.iload_n 1, 1) := by decide +kernel
theorem dL_foreign_4 : decode cL_foreign 4 = .ok (.iload_n 2, 1) := by decide +kernel
theorem dL_foreign_5 : decode cL_foreign 5 = .ok (.invokevirtual 29, 3) := by decide +kernel
theorem dL_foreign_8 : decode cL_foreign 8 = .ok (.i2l, 1) := by decide +kernel
theorem dL_foreign_9 : decode cL_foreign 9 = .ok (.lastore, 1) := by decide +kernel
theorem dL_foreign_10 : decode cL_foreign 10 = .ok (.goto 11, 3) := by decide +kernel
theorem dL_foreign_13 : decode cL_foreign 13 = .ok (.astore 4, 2) := by decide +kernel
theorem dL_foreign_15 : decode cL_foreign 15 = .ok (.iconst 1, 1) := by decide +kernel
theorem dL_foreign_16 : decode cL_foreign 16 = .ok (.ireturn, 1) := by decide +kernel
theorem dL_foreign_17 : decode cL_foreign 17 = .ok (.astore 4, 2) := by decide +kernel
theorem dL_foreign_19 : decode cL_foreign 19 = .ok (.iconst 2, 1) := by decide +kernel
theorem dL_foreign_20 : decode cL_foreign 20 = .ok (.ireturn, 1) := by decide +kernel
theorem dL_foreign_21 : decode cL_foreign 21 = .ok (.iconst 0, 1) := by decide +kernel
theorem dL_foreign_22 : decode cL_foreign 22 = .ok (.ireturn, 1) := by decide +kernel
theorem dL_read_0 : decode cL_read 0 = .ok (.aload_n 3, 1) := by decide +kernel
theorem dL_read_1 : decode cL_read 1 = .ok (.iconst 0, 1) := by decide +kernel
theorem dL_read_2 : decode cL_read 2 = .ok (.aload_n 0, 1) := by decide +kernel
theorem dL_read_3 : decode cL_read 3 = .ok (.iload_n 1, 1) := by decide +kernel
theorem dL_read_4 : decode cL_read 4 = .ok (.iload_n 2, 1) := by decide +kernel
theorem dL_read_5 : decode cL_read 5 = .ok (.invokevirtual 33, 3) := by decide +kernel
theorem dL_read_8 : decode cL_read 8 = .ok (.i2l, 1) := by decide +kernel
theorem dL_read_9 : decode cL_read 9 = .ok (.lastore, 1) := by decide +kernel
theorem dL_read_10 : decode cL_read 10 = .ok (.goto 11, 3) := by decide +kernel
theorem dL_read_13 : decode cL_read 13 = .ok (.astore 4, 2) := by decide +kernel
theorem dL_read_15 : decode cL_read 15 = .ok (.iconst 1, 1) := by decide +kernel
theorem dL_read_16 : decode cL_read 16 = .ok (.ireturn, 1) := by decide +kernel
theorem dL_read_17 : decode cL_read 17 = .ok (.astore 4, 2) := by decide +kernel
theorem dL_read_19 : decode cL_read 19 = .ok (.iconst 2, 1) := by decide +kernel
theorem dL_read_20 : decode cL_read 20 = .ok (.ireturn, 1) := by decide +kernel
theorem dL_read_21 : decode cL_read 21 = .ok (.iconst 0, 1) := by decide +kernel
theorem dL_read_22 : decode cL_read 22 = .ok (.ireturn, 1) := by decide +kernel
theorem dL_connect_0 : decode cL_connect 0 = .ok (.aload_n 0, 1) := by decide +kernel
theorem dL_connect_1 : decode cL_connect 1 = .ok (.iload_n 1, 1) := by decide +kernel
theorem dL_connect_2 : decode cL_connect 2 = .ok (.invokevirtual 36, 3) := by decide +kernel
theorem dL_connect_5 : decode cL_connect 5 = .ok (.goto 9, 3) := by decide +kernel
theorem dL_connect_8 : decode cL_connect 8 = .ok (.astore_n 2, 1) := by decide +kernel
theorem dL_connect_9 : decode cL_connect 9 = .ok (.iconst 1, 1) := by decide +kernel
theorem dL_connect_10 : decode cL_connect 10 = .ok (.ireturn, 1) := by decide +kernel
theorem dL_connect_11 : decode cL_connect 11 = .ok (.astore_n 2, 1) := by decide +kernel
theorem dL_connect_12 : decode cL_connect 12 = .ok (.iconst 2, 1) := by decide +kernel
theorem dL_connect_13 : decode cL_connect 13 = .ok (.ireturn, 1) := by decide +kernel
theorem dL_connect_14 : decode cL_connect 14 = .ok (.iconst 0, 1) := by decide +kernel
theorem dL_connect_15 : decode cL_connect 15 = .ok (.ireturn, 1) := by decide +kernel
theorem dL_write_0 : decode cL_write 0 = .ok (.aload_n 3, 1) := by decide +kernel
theorem dL_write_1 : decode cL_write 1 = .ok (.iconst 0, 1) := by decide +kernel
theorem dL_write_2 : decode cL_write 2 = .ok (.aload_n 0, 1) := by decide +kernel
theorem dL_write_3 : decode cL_write 3 = .ok (.iload_n 1, 1) := by decide +kernel
theorem dL_write_4 : decode cL_write 4 = .ok (.iload_n 2, 1) := by decide +kernel
theorem dL_write_5 : decode cL_write 5 = .ok (.invokevirtual 42, 3) := by decide +kernel
theorem dL_write_8 : decode cL_write 8 = .ok (.i2l, 1) := by decide +kernel
theorem dL_write_9 : decode cL_write 9 = .ok (.lastore, 1) := by decide +kernel
theorem dL_write_10 : decode cL_write 10 = .ok (.goto 15, 3) := by decide +kernel
theorem dL_write_13 : decode cL_write 13 = .ok (.astore 4, 2) := by decide +kernel
theorem dL_write_15 : decode cL_write 15 = .ok (.iconst 1, 1) := by decide +kernel
theorem dL_write_16 : decode cL_write 16 = .ok (.ireturn, 1) := by decide +kernel
theorem dL_write_17 : decode cL_write 17 = .ok (.astore 4, 2) := by decide +kernel
theorem dL_write_19 : decode cL_write 19 = .ok (.iconst 2, 1) := by decide +kernel
theorem dL_write_20 : decode cL_write 20 = .ok (.ireturn, 1) := by decide +kernel
theorem dL_write_21 : decode cL_write 21 = .ok (.astore 4, 2) := by decide +kernel
theorem dL_write_23 : decode cL_write 23 = .ok (.iconst 3, 1) := by decide +kernel
theorem dL_write_24 : decode cL_write 24 = .ok (.ireturn, 1) := by decide +kernel
theorem dL_write_25 : decode cL_write 25 = .ok (.iconst 0, 1) := by decide +kernel
theorem dL_write_26 : decode cL_write 26 = .ok (.ireturn, 1) := by decide +kernel
theorem dL_setWay_0 : decode cL_setWay 0 = .ok (.aload_n 3, 1) := by decide +kernel
theorem dL_setWay_1 : decode cL_setWay 1 = .ok (.iconst 0, 1) := by decide +kernel
theorem dL_setWay_2 : decode cL_setWay 2 = .ok (.aload_n 0, 1) := by decide +kernel
theorem dL_setWay_3 : decode cL_setWay 3 = .ok (.iload_n 1, 1) := by decide +kernel
theorem dL_setWay_4 : decode cL_setWay 4 = .ok (.iload_n 2, 1) := by decide +kernel
theorem dL_setWay_5 : decode cL_setWay 5 = .ok (.invokevirtual 45, 3) := by decide +kernel
theorem dL_setWay_8 : decode cL_setWay 8 = .ok (.i2l, 1) := by decide +kernel
theorem dL_setWay_9 : decode cL_setWay 9 = .ok (.lastore, 1) := by decide +kernel
theorem dL_setWay_10 : decode cL_setWay 10 = .ok (.goto 11, 3) := by decide +kernel
theorem dL_setWay_13 : decode cL_setWay 13 = .ok (.astore 4, 2) := by decide +kernel
theorem dL_setWay_15 : decode cL_setWay 15 = .ok (.iconst 1, 1) := by decide +kernel
theorem dL_setWay_16 : decode cL_setWay 16 = .ok (.ireturn, 1) := by decide +kernel
theorem dL_setWay_17 : decode cL_setWay 17 = .ok (.astore 4, 2) := by decide +kernel
theorem dL_setWay_19 : decode cL_setWay 19 = .ok (.iconst 2, 1) := by decide +kernel
theorem dL_setWay_20 : decode cL_setWay 20 = .ok (.ireturn, 1) := by decide +kernel
theorem dL_setWay_21 : decode cL_setWay 21 = .ok (.iconst 0, 1) := by decide +kernel
theorem dL_setWay_22 : decode cL_setWay 22 = .ok (.ireturn, 1) := by decide +kernel
theorem dL_check_0 : decode cL_check 0 = .ok (.aload_n 0, 1) := by decide +kernel
theorem dL_check_1 : decode cL_check 1 = .ok (.iload_n 1, 1) := by decide +kernel
theorem dL_check_2 : decode cL_check 2 = .ok (.invokevirtual 48, 3) := by decide +kernel
theorem dL_check_5 : decode cL_check 5 = .ok (.goto 9, 3) := by decide +kernel
theorem dL_check_8 : decode cL_check 8 = .ok (.astore_n 2, 1) := by decide +kernel
theorem dL_check_9 : decode cL_check 9 = .ok (.iconst 1, 1) := by decide +kernel
theorem dL_check_10 : decode cL_check 10 = .ok (.ireturn, 1) := by decide +kernel
theorem dL_check_11 : decode cL_check 11 = .ok (.astore_n 2, 1) := by decide +kernel
theorem dL_check_12 : decode cL_check 12 = .ok (.iconst 2, 1) := by decide +kernel
theorem dL_check_13 : decode cL_check 13 = .ok (.ireturn, 1) := by decide +kernel
theorem dL_check_14 : decode cL_check 14 = .ok (.iconst 0, 1) := by decide +kernel
theorem dL_check_15 : decode cL_check 15 = .ok (.ireturn, 1) := by decide +kernel
theorem dL_use_0 : decode cL_use 0 = .ok (.aload_n 2, 1) := by decide +kernel
theorem dL_use_1 : decode cL_use 1 = .ok (.iconst 0, 1) := by decide +kernel
theorem dL_use_2 : decode cL_use 2 = .ok (.aload_n 0, 1) := by decide +kernel
theorem dL_use_3 : decode cL_use 3 = .ok (.iload_n 1, 1) := by decide +kernel
theorem dL_use_4 : decode cL_use 4 = .ok (.invokevirtual 51, 3) := by decide +kernel
theorem dL_use_7 : decode cL_use 7 = .ok (.i2l, 1) := by decide +kernel
theorem dL_use_8 : decode cL_use 8 = .ok (.lastore, 1) := by decide +kernel
theorem dL_use_9 : decode cL_use 9 = .ok (.goto 9, 3) := by decide +kernel
theorem dL_use_12 : decode cL_use 12 = .ok (.astore_n 3, 1) := by decide +kernel
theorem dL_use_13 : decode cL_use 13 = .ok (.iconst 1, 1) := by decide +kernel
theorem dL_use_14 : decode cL_use 14 = .ok (.ireturn, 1) := by decide +kernel
theorem dL_use_15 : decode cL_use 15 = .ok (.astore_n 3, 1) := by decide +kernel
theorem dL_use_16 : decode cL_use 16 = .ok (.iconst 2, 1) := by decide +kernel
theorem dL_use_17 : decode cL_use 17 = .ok (.ireturn, 1) := by decide +kernel
theorem dL_use_18 : decode cL_use 18 = .ok (.iconst 0, 1) := by decide +kernel
theorem dL_use_19 : decode cL_use 19 = .ok (.ireturn, 1) := by decide +kernel
theorem dL_changeKey_0 : decode cL_changeKey 0 = .ok (.aload_n 1, 1) := by decide +kernel
theorem dL_changeKey_1 : decode cL_changeKey 1 = .ok (.iconst 0, 1) := by decide +kernel
theorem dL_changeKey_2 : decode cL_changeKey 2 = .ok (.aload_n 0, 1) := by decide +kernel
theorem dL_changeKey_3 : decode cL_changeKey 3 = .ok (.invokevirtual 55, 3) := by decide +kernel
theorem dL_changeKey_6 : decode cL_changeKey 6 = .ok (.i2l, 1) := by decide +kernel
theorem dL_changeKey_7 : decode cL_changeKey 7 = .ok (.lastore, 1) := by decide +kernel
theorem dL_changeKey_8 : decode cL_changeKey 8 = .ok (.goto 6, 3) := by decide +kernel
theorem dL_changeKey_11 : decode cL_changeKey 11 = .ok (.astore_n 2, 1) := by decide +kernel
theorem dL_changeKey_12 : decode cL_changeKey 12 = .ok (.iconst 1, 1) := by decide +kernel
theorem dL_changeKey_13 : decode cL_changeKey 13 = .ok (.ireturn, 1) := by decide +kernel
theorem dL_changeKey_14 : decode cL_changeKey 14 = .ok (.iconst 0, 1) := by decide +kernel
theorem dL_changeKey_15 : decode cL_changeKey 15 = .ok (.ireturn, 1) := by decide +kernel
theorem dL_close_0 : decode cL_close 0 = .ok (.aload_n 0, 1) := by decide +kernel
theorem dL_close_1 : decode cL_close 1 = .ok (.invokevirtual 59, 3) := by decide +kernel
theorem dL_close_4 : decode cL_close 4 = .ok (.goto 6, 3) := by decide +kernel
theorem dL_close_7 : decode cL_close 7 = .ok (.astore_n 1, 1) := by decide +kernel
theorem dL_close_8 : decode cL_close 8 = .ok (.iconst 1, 1) := by decide +kernel
theorem dL_close_9 : decode cL_close 9 = .ok (.ireturn, 1) := by decide +kernel
theorem dL_close_10 : decode cL_close 10 = .ok (.iconst 0, 1) := by decide +kernel
theorem dL_close_11 : decode cL_close 11 = .ok (.ireturn, 1) := by decide +kernel
theorem dL_tick_0 : decode cL_tick 0 = .ok (.aload_n 2, 1) := by decide +kernel
theorem dL_tick_1 : decode cL_tick 1 = .ok (.iconst 0, 1) := by decide +kernel
theorem dL_tick_2 : decode cL_tick 2 = .ok (.aload_n 0, 1) := by decide +kernel
theorem dL_tick_3 : decode cL_tick 3 = .ok (.iload_n 1, 1) := by decide +kernel
theorem dL_tick_4 : decode cL_tick 4 = .ok (.invokevirtual 62, 3) := by decide +kernel
theorem dL_tick_7 : decode cL_tick 7 = .ok (.i2l, 1) := by decide +kernel
theorem dL_tick_8 : decode cL_tick 8 = .ok (.lastore, 1) := by decide +kernel
theorem dL_tick_9 : decode cL_tick 9 = .ok (.goto 9, 3) := by decide +kernel
theorem dL_tick_12 : decode cL_tick 12 = .ok (.astore_n 3, 1) := by decide +kernel
theorem dL_tick_13 : decode cL_tick 13 = .ok (.iconst 1, 1) := by decide +kernel
theorem dL_tick_14 : decode cL_tick 14 = .ok (.ireturn, 1) := by decide +kernel
theorem dL_tick_15 : decode cL_tick 15 = .ok (.astore_n 3, 1) := by decide +kernel
theorem dL_tick_16 : decode cL_tick 16 = .ok (.iconst 2, 1) := by decide +kernel
theorem dL_tick_17 : decode cL_tick 17 = .ok (.ireturn, 1) := by decide +kernel
theorem dL_tick_18 : decode cL_tick 18 = .ok (.iconst 0, 1) := by decide +kernel
theorem dL_tick_19 : decode cL_tick 19 = .ok (.ireturn, 1) := by decide +kernel
theorem dL_state_0 : decode cL_state 0 = .ok (.aload_n 2, 1) := by decide +kernel
theorem dL_state_1 : decode cL_state 1 = .ok (.iconst 0, 1) := by decide +kernel
theorem dL_state_2 : decode cL_state 2 = .ok (.aload_n 0, 1) := by decide +kernel
theorem dL_state_3 : decode cL_state 3 = .ok (.iload_n 1, 1) := by decide +kernel
theorem dL_state_4 : decode cL_state 4 = .ok (.invokevirtual 65, 3) := by decide +kernel
theorem dL_state_7 : decode cL_state 7 = .ok (.i2l, 1) := by decide +kernel
theorem dL_state_8 : decode cL_state 8 = .ok (.lastore, 1) := by decide +kernel
theorem dL_state_9 : decode cL_state 9 = .ok (.goto 6, 3) := by decide +kernel
theorem dL_state_12 : decode cL_state 12 = .ok (.astore_n 3, 1) := by decide +kernel
theorem dL_state_13 : decode cL_state 13 = .ok (.iconst 1, 1) := by decide +kernel
theorem dL_state_14 : decode cL_state 14 = .ok (.ireturn, 1) := by decide +kernel
theorem dL_state_15 : decode cL_state 15 = .ok (.iconst 0, 1) := by decide +kernel
theorem dL_state_16 : decode cL_state 16 = .ok (.ireturn, 1) := by decide +kernel
theorem dL_path_0 : decode cL_path 0 = .ok (.aload_n 3, 1) := by decide +kernel
theorem dL_path_1 : decode cL_path 1 = .ok (.iconst 0, 1) := by decide +kernel
theorem dL_path_2 : decode cL_path 2 = .ok (.aload_n 0, 1) := by decide +kernel
theorem dL_path_3 : decode cL_path 3 = .ok (.iload_n 1, 1) := by decide +kernel
theorem dL_path_4 : decode cL_path 4 = .ok (.iload_n 2, 1) := by decide +kernel
theorem dL_path_5 : decode cL_path 5 = .ok (.invokevirtual 68, 3) := by decide +kernel
theorem dL_path_8 : decode cL_path 8 = .ok (.i2l, 1) := by decide +kernel
theorem dL_path_9 : decode cL_path 9 = .ok (.lastore, 1) := by decide +kernel
theorem dL_path_10 : decode cL_path 10 = .ok (.goto 11, 3) := by decide +kernel
theorem dL_path_13 : decode cL_path 13 = .ok (.astore 4, 2) := by decide +kernel
theorem dL_path_15 : decode cL_path 15 = .ok (.iconst 1, 1) := by decide +kernel
theorem dL_path_16 : decode cL_path 16 = .ok (.ireturn, 1) := by decide +kernel
theorem dL_path_17 : decode cL_path 17 = .ok (.astore 4, 2) := by decide +kernel
theorem dL_path_19 : decode cL_path 19 = .ok (.iconst 2, 1) := by decide +kernel
theorem dL_path_20 : decode cL_path 20 = .ok (.ireturn, 1) := by decide +kernel
theorem dL_path_21 : decode cL_path 21 = .ok (.iconst 0, 1) := by decide +kernel
theorem dL_path_22 : decode cL_path 22 = .ok (.ireturn, 1) := by decide +kernel
theorem dL_stream_0 : decode cL_stream 0 = .ok (.aload_n 3, 1) := by decide +kernel
theorem dL_stream_1 : decode cL_stream 1 = .ok (.iconst 0, 1) := by decide +kernel
theorem dL_stream_2 : decode cL_stream 2 = .ok (.aload_n 0, 1) := by decide +kernel
theorem dL_stream_3 : decode cL_stream 3 = .ok (.iload_n 1, 1) := by decide +kernel
theorem dL_stream_4 : decode cL_stream 4 = .ok (.iload_n 2, 1) := by decide +kernel
theorem dL_stream_5 : decode cL_stream 5 = .ok (.invokevirtual 71, 3) := by decide +kernel
theorem dL_stream_8 : decode cL_stream 8 = .ok (.i2l, 1) := by decide +kernel
theorem dL_stream_9 : decode cL_stream 9 = .ok (.lastore, 1) := by decide +kernel
theorem dL_stream_10 : decode cL_stream 10 = .ok (.goto 11, 3) := by decide +kernel
theorem dL_stream_13 : decode cL_stream 13 = .ok (.astore 4, 2) := by decide +kernel
theorem dL_stream_15 : decode cL_stream 15 = .ok (.iconst 1, 1) := by decide +kernel
theorem dL_stream_16 : decode cL_stream 16 = .ok (.ireturn, 1) := by decide +kernel
theorem dL_stream_17 : decode cL_stream 17 = .ok (.astore 4, 2) := by decide +kernel
theorem dL_stream_19 : decode cL_stream 19 = .ok (.iconst 2, 1) := by decide +kernel
theorem dL_stream_20 : decode cL_stream 20 = .ok (.ireturn, 1) := by decide +kernel
theorem dL_stream_21 : decode cL_stream 21 = .ok (.iconst 0, 1) := by decide +kernel
theorem dL_stream_22 : decode cL_stream 22 = .ok (.ireturn, 1) := by decide +kernel
theorem dL_packet_0 : decode cL_packet 0 = .ok (.aload_n 3, 1) := by decide +kernel
theorem dL_packet_1 : decode cL_packet 1 = .ok (.iconst 0, 1) := by decide +kernel
theorem dL_packet_2 : decode cL_packet 2 = .ok (.aload_n 0, 1) := by decide +kernel
theorem dL_packet_3 : decode cL_packet 3 = .ok (.iload_n 1, 1) := by decide +kernel
theorem dL_packet_4 : decode cL_packet 4 = .ok (.iload_n 2, 1) := by decide +kernel
theorem dL_packet_5 : decode cL_packet 5 = .ok (.invokevirtual 74, 3) := by decide +kernel
theorem dL_packet_8 : decode cL_packet 8 = .ok (.i2l, 1) := by decide +kernel
theorem dL_packet_9 : decode cL_packet 9 = .ok (.lastore, 1) := by decide +kernel
theorem dL_packet_10 : decode cL_packet 10 = .ok (.goto 11, 3) := by decide +kernel
theorem dL_packet_13 : decode cL_packet 13 = .ok (.astore 4, 2) := by decide +kernel
theorem dL_packet_15 : decode cL_packet 15 = .ok (.iconst 1, 1) := by decide +kernel
theorem dL_packet_16 : decode cL_packet 16 = .ok (.ireturn, 1) := by decide +kernel
theorem dL_packet_17 : decode cL_packet 17 = .ok (.astore 4, 2) := by decide +kernel
theorem dL_packet_19 : decode cL_packet 19 = .ok (.iconst 2, 1) := by decide +kernel
theorem dL_packet_20 : decode cL_packet 20 = .ok (.ireturn, 1) := by decide +kernel
theorem dL_packet_21 : decode cL_packet 21 = .ok (.iconst 0, 1) := by decide +kernel
theorem dL_packet_22 : decode cL_packet 22 = .ok (.ireturn, 1) := by decide +kernel
theorem dL_count_0 : decode cL_count 0 = .ok (.aload_n 2, 1) := by decide +kernel
theorem dL_count_1 : decode cL_count 1 = .ok (.iconst 0, 1) := by decide +kernel
theorem dL_count_2 : decode cL_count 2 = .ok (.aload_n 0, 1) := by decide +kernel
theorem dL_count_3 : decode cL_count 3 = .ok (.iload_n 1, 1) := by decide +kernel
theorem dL_count_4 : decode cL_count 4 = .ok (.invokevirtual 77, 3) := by decide +kernel
theorem dL_count_7 : decode cL_count 7 = .ok (.i2l, 1) := by decide +kernel
theorem dL_count_8 : decode cL_count 8 = .ok (.lastore, 1) := by decide +kernel
theorem dL_count_9 : decode cL_count 9 = .ok (.goto 6, 3) := by decide +kernel
theorem dL_count_12 : decode cL_count 12 = .ok (.astore_n 3, 1) := by decide +kernel
theorem dL_count_13 : decode cL_count 13 = .ok (.iconst 1, 1) := by decide +kernel
theorem dL_count_14 : decode cL_count 14 = .ok (.ireturn, 1) := by decide +kernel
theorem dL_count_15 : decode cL_count 15 = .ok (.iconst 0, 1) := by decide +kernel
theorem dL_count_16 : decode cL_count 16 = .ok (.ireturn, 1) := by decide +kernel
theorem dL_inFlightAnew_0 : decode cL_inFlightAnew 0 = .ok (.aload_n 2, 1) := by decide +kernel
theorem dL_inFlightAnew_1 : decode cL_inFlightAnew 1 = .ok (.iconst 0, 1) := by decide +kernel
theorem dL_inFlightAnew_2 : decode cL_inFlightAnew 2 = .ok (.aload_n 0, 1) := by decide +kernel
theorem dL_inFlightAnew_3 : decode cL_inFlightAnew 3 = .ok (.iload_n 1, 1) := by decide +kernel
theorem dL_inFlightAnew_4 : decode cL_inFlightAnew 4 = .ok (.invokevirtual 80, 3) := by decide +kernel
theorem dL_inFlightAnew_7 : decode cL_inFlightAnew 7 = .ok (.i2l, 1) := by decide +kernel
theorem dL_inFlightAnew_8 : decode cL_inFlightAnew 8 = .ok (.lastore, 1) := by decide +kernel
theorem dL_inFlightAnew_9 : decode cL_inFlightAnew 9 = .ok (.goto 6, 3) := by decide +kernel
theorem dL_inFlightAnew_12 : decode cL_inFlightAnew 12 = .ok (.astore_n 3, 1) := by decide +kernel
theorem dL_inFlightAnew_13 : decode cL_inFlightAnew 13 = .ok (.iconst 1, 1) := by decide +kernel
theorem dL_inFlightAnew_14 : decode cL_inFlightAnew 14 = .ok (.ireturn, 1) := by decide +kernel
theorem dL_inFlightAnew_15 : decode cL_inFlightAnew 15 = .ok (.iconst 0, 1) := by decide +kernel
theorem dL_inFlightAnew_16 : decode cL_inFlightAnew 16 = .ok (.ireturn, 1) := by decide +kernel
theorem dL_gotAnew_0 : decode cL_gotAnew 0 = .ok (.aload_n 2, 1) := by decide +kernel
theorem dL_gotAnew_1 : decode cL_gotAnew 1 = .ok (.iconst 0, 1) := by decide +kernel
theorem dL_gotAnew_2 : decode cL_gotAnew 2 = .ok (.aload_n 0, 1) := by decide +kernel
theorem dL_gotAnew_3 : decode cL_gotAnew 3 = .ok (.iload_n 1, 1) := by decide +kernel
theorem dL_gotAnew_4 : decode cL_gotAnew 4 = .ok (.invokevirtual 83, 3) := by decide +kernel
theorem dL_gotAnew_7 : decode cL_gotAnew 7 = .ok (.i2l, 1) := by decide +kernel
theorem dL_gotAnew_8 : decode cL_gotAnew 8 = .ok (.lastore, 1) := by decide +kernel
theorem dL_gotAnew_9 : decode cL_gotAnew 9 = .ok (.goto 6, 3) := by decide +kernel
theorem dL_gotAnew_12 : decode cL_gotAnew 12 = .ok (.astore_n 3, 1) := by decide +kernel
theorem dL_gotAnew_13 : decode cL_gotAnew 13 = .ok (.iconst 1, 1) := by decide +kernel
theorem dL_gotAnew_14 : decode cL_gotAnew 14 = .ok (.ireturn, 1) := by decide +kernel
theorem dL_gotAnew_15 : decode cL_gotAnew 15 = .ok (.iconst 0, 1) := by decide +kernel
theorem dL_gotAnew_16 : decode cL_gotAnew 16 = .ok (.ireturn, 1) := by decide +kernel
end
section
theorem dL_law_0 : decode cL_law 0 = .ok (.new 8, 3) := by decide +kernel
theorem dL_law_3 : decode cL_law 3 = .ok (.dup, 1) := by decide +kernel
theorem dL_law_4 : decode cL_law 4 = .ok (.invokespecial 86, 3) := by decide +kernel
theorem dL_law_7 : decode cL_law 7 = .ok (.astore_n 1, 1) := by decide +kernel
theorem dL_law_8 : decode cL_law 8 = .ok (.new 87, 3) := by decide +kernel
theorem dL_law_11 : decode cL_law 11 = .ok (.dup, 1) := by decide +kernel
theorem dL_law_12 : decode cL_law 12 = .ok (.invokespecial 89, 3) := by decide +kernel
theorem dL_law_15 : decode cL_law 15 = .ok (.astore_n 2, 1) := by decide +kernel
theorem dL_law_16 : decode cL_law 16 = .ok (.iconst 1, 1) := by decide +kernel
theorem dL_law_17 : decode cL_law 17 = .ok (.newarray .long, 2) := by decide +kernel
theorem dL_law_19 : decode cL_law 19 = .ok (.astore_n 3, 1) := by decide +kernel
theorem dL_law_20 : decode cL_law 20 = .ok (.iconst 0, 1) := by decide +kernel
theorem dL_law_21 : decode cL_law 21 = .ok (.istore 4, 2) := by decide +kernel
theorem dL_law_23 : decode cL_law 23 = .ok (.iload 4, 2) := by decide +kernel
theorem dL_law_25 : decode cL_law 25 = .ok (.aload_n 0, 1) := by decide +kernel
theorem dL_law_26 : decode cL_law 26 = .ok (.arraylength, 1) := by decide +kernel
theorem dL_law_27 : decode cL_law 27 = .ok (.bipush 6, 2) := by decide +kernel
theorem dL_law_29 : decode cL_law 29 = .ok (.isub, 1) := by decide +kernel
theorem dL_law_30 : decode cL_law 30 = .ok (.if_icmp .gt 1490, 3) := by decide +kernel
theorem dL_law_33 : decode cL_law 33 = .ok (.aload_n 0, 1) := by decide +kernel
theorem dL_law_34 : decode cL_law 34 = .ok (.iload 4, 2) := by decide +kernel
theorem dL_law_36 : decode cL_law 36 = .ok (.iaload, 1) := by decide +kernel
theorem dL_law_37 : decode cL_law 37 = .ok (.bipush 31, 2) := by decide +kernel
theorem dL_law_39 : decode cL_law 39 = .ok (.iand, 1) := by decide +kernel
theorem dL_law_40 : decode cL_law 40 = .ok (.tableswitch 1474 0 25 #[120, 204, 295, 371, 431, 499, 540, 608, 619, 655, 723, 791, 827, 883, 927, 951, 1007, 1020, 1076, 1144, 1212, 1225, 1238, 1306, 1362, 1418], 120) := by decide +kernel
theorem dL_law_160 : decode cL_law 160 = .ok (.aload_n 1, 1) := by decide +kernel
theorem dL_law_161 : decode cL_law 161 = .ok (.aload_n 0, 1) := by decide +kernel
theorem dL_law_162 : decode cL_law 162 = .ok (.iload 4, 2) := by decide +kernel
theorem dL_law_164 : decode cL_law 164 = .ok (.iconst 1, 1) := by decide +kernel
theorem dL_law_165 : decode cL_law 165 = .ok (.iadd, 1) := by decide +kernel
theorem dL_law_166 : decode cL_law 166 = .ok (.iaload, 1) := by decide +kernel
theorem dL_law_167 : decode cL_law 167 = .ok (.aload_n 0, 1) := by decide +kernel
theorem dL_law_168 : decode cL_law 168 = .ok (.iload 4, 2) := by decide +kernel
theorem dL_law_170 : decode cL_law 170 = .ok (.iconst 2, 1) := by decide +kernel
theorem dL_law_171 : decode cL_law 171 = .ok (.iadd, 1) := by decide +kernel
theorem dL_law_172 : decode cL_law 172 = .ok (.iaload, 1) := by decide +kernel
theorem dL_law_173 : decode cL_law 173 = .ok (.aload_n 0, 1) := by decide +kernel
theorem dL_law_174 : decode cL_law 174 = .ok (.iload 4, 2) := by decide +kernel
theorem dL_law_176 : decode cL_law 176 = .ok (.iconst 3, 1) := by decide +kernel
theorem dL_law_177 : decode cL_law 177 = .ok (.iadd, 1) := by decide +kernel
theorem dL_law_178 : decode cL_law 178 = .ok (.iaload, 1) := by decide +kernel
theorem dL_law_179 : decode cL_law 179 = .ok (.aload_n 0, 1) := by decide +kernel
theorem dL_law_180 : decode cL_law 180 = .ok (.iload 4, 2) := by decide +kernel
theorem dL_law_182 : decode cL_law 182 = .ok (.iconst 4, 1) := by decide +kernel
theorem dL_law_183 : decode cL_law 183 = .ok (.iadd, 1) := by decide +kernel
theorem dL_law_184 : decode cL_law 184 = .ok (.iaload, 1) := by decide +kernel
theorem dL_law_185 : decode cL_law 185 = .ok (.aload_n 0, 1) := by decide +kernel
theorem dL_law_186 : decode cL_law 186 = .ok (.iload 4, 2) := by decide +kernel
theorem dL_law_188 : decode cL_law 188 = .ok (.iconst 5, 1) := by decide +kernel
theorem dL_law_189 : decode cL_law 189 = .ok (.iadd, 1) := by decide +kernel
theorem dL_law_190 : decode cL_law 190 = .ok (.iaload, 1) := by decide +kernel
theorem dL_law_191 : decode cL_law 191 = .ok (.invokestatic 90, 3) := by decide +kernel
theorem dL_law_194 : decode cL_law 194 = .ok (.istore 5, 2) := by decide +kernel
theorem dL_law_196 : decode cL_law 196 = .ok (.aload_n 2, 1) := by decide +kernel
theorem dL_law_197 : decode cL_law 197 = .ok (.aload_n 0, 1) := by decide +kernel
theorem dL_law_198 : decode cL_law 198 = .ok (.iload 4, 2) := by decide +kernel
theorem dL_law_200 : decode cL_law 200 = .ok (.iconst 1, 1) := by decide +kernel
theorem dL_law_201 : decode cL_law 201 = .ok (.iadd, 1) := by decide +kernel
theorem dL_law_202 : decode cL_law 202 = .ok (.iaload, 1) := by decide +kernel
theorem dL_law_203 : decode cL_law 203 = .ok (.aload_n 0, 1) := by decide +kernel
theorem dL_law_204 : decode cL_law 204 = .ok (.iload 4, 2) := by decide +kernel
theorem dL_law_206 : decode cL_law 206 = .ok (.iconst 2, 1) := by decide +kernel
theorem dL_law_207 : decode cL_law 207 = .ok (.iadd, 1) := by decide +kernel
theorem dL_law_208 : decode cL_law 208 = .ok (.iaload, 1) := by decide +kernel
theorem dL_law_209 : decode cL_law 209 = .ok (.aload_n 0, 1) := by decide +kernel
theorem dL_law_210 : decode cL_law 210 = .ok (.iload 4, 2) := by decide +kernel
theorem dL_law_212 : decode cL_law 212 = .ok (.iconst 3, 1) := by decide +kernel
theorem dL_law_213 : decode cL_law 213 = .ok (.iadd, 1) := by decide +kernel
theorem dL_law_214 : decode cL_law 214 = .ok (.iaload, 1) := by decide +kernel
theorem dL_law_215 : decode cL_law 215 = .ok (.aload_n 0, 1) := by decide +kernel
theorem dL_law_216 : decode cL_law 216 = .ok (.iload 4, 2) := by decide +kernel
theorem dL_law_218 : decode cL_law 218 = .ok (.iconst 4, 1) := by decide +kernel
theorem dL_law_219 : decode cL_law 219 = .ok (.iadd, 1) := by decide +kernel
theorem dL_law_220 : decode cL_law 220 = .ok (.iaload, 1) := by decide +kernel
theorem dL_law_221 : decode cL_law 221 = .ok (.aload_n 0, 1) := by decide +kernel
theorem dL_law_222 : decode cL_law 222 = .ok (.iload 4, 2) := by decide +kernel
theorem dL_law_224 : decode cL_law 224 = .ok (.iconst 5, 1) := by decide +kernel
theorem dL_law_225 : decode cL_law 225 = .ok (.iadd, 1) := by decide +kernel
theorem dL_law_226 : decode cL_law 226 = .ok (.iaload, 1) := by decide +kernel
theorem dL_law_227 : decode cL_law 227 = .ok (.invokevirtual 95, 3) := by decide +kernel
theorem dL_law_230 : decode cL_law 230 = .ok (.aload_n 2, 1) := by decide +kernel
theorem dL_law_231 : decode cL_law 231 = .ok (.invokevirtual 96, 3) := by decide +kernel
theorem dL_law_234 : decode cL_law 234 = .ok (.iload 5, 2) := by decide +kernel
theorem dL_law_236 : decode cL_law 236 = .ok (.if_icmp .eq 5, 3) := by decide +kernel
theorem dL_law_239 : decode cL_law 239 = .ok (.iconst 0, 1) := by decide +kernel
theorem dL_law_240 : decode cL_law 240 = .ok (.ireturn, 1) := by decide +kernel
theorem dL_law_241 : decode cL_law 241 = .ok (.goto 1273, 3) := by decide +kernel
theorem dL_law_244 : decode cL_law 244 = .ok (.aload_n 1, 1) := by decide +kernel
theorem dL_law_245 : decode cL_law 245 = .ok (.aload_n 0, 1) := by decide +kernel
theorem dL_law_246 : decode cL_law 246 = .ok (.iload 4, 2) := by decide +kernel
theorem dL_law_248 : decode cL_law 248 = .ok (.iconst 1, 1) := by decide +kernel
theorem dL_law_249 : decode cL_law 249 = .ok (.iadd, 1) := by decide +kernel
theorem dL_law_250 : decode cL_law 250 = .ok (.iaload, 1) := by decide +kernel
theorem dL_law_251 : decode cL_law 251 = .ok (.aload_n 0, 1) := by decide +kernel
theorem dL_law_252 : decode cL_law 252 = .ok (.iload 4, 2) := by decide +kernel
theorem dL_law_254 : decode cL_law 254 = .ok (.iconst 2, 1) := by decide +kernel
theorem dL_law_255 : decode cL_law 255 = .ok (.iadd, 1) := by decide +kernel
theorem dL_law_256 : decode cL_law 256 = .ok (.iaload, 1) := by decide +kernel
theorem dL_law_257 : decode cL_law 257 = .ok (.ifCond .eq 7, 3) := by decide +kernel
theorem dL_law_260 : decode cL_law 260 = .ok (.iconst 1, 1) := by decide +kernel
theorem dL_law_261 : decode cL_law 261 = .ok (.goto 4, 3) := by decide +kernel
theorem dL_law_264 : decode cL_law 264 = .ok (.iconst 0, 1) := by decide +kernel
theorem dL_law_265 : decode cL_law 265 = .ok (.aload_n 3, 1) := by decide +kernel
theorem dL_law_266 : decode cL_law 266 = .ok (.invokestatic 99, 3) := by decide +kernel
theorem dL_law_269 : decode cL_law 269 = .ok (.istore 5, 2) := by decide +kernel
theorem dL_law_271 : decode cL_law 271 = .ok (.aload_n 2, 1) := by decide +kernel
theorem dL_law_272 : decode cL_law 272 = .ok (.aload_n 0, 1) := by decide +kernel
theorem dL_law_273 : decode cL_law 273 = .ok (.iload 4, 2) := by decide +kernel
theorem dL_law_275 : decode cL_law 275 = .ok (.iconst 1, 1) := by decide +kernel
theorem dL_law_276 : decode cL_law 276 = .ok (.iadd, 1) := by decide +kernel
theorem dL_law_277 : decode cL_law 277 = .ok (.iaload, 1) := by decide +kernel
theorem dL_law_278 : decode cL_law 278 = .ok (.aload_n 0, 1) := by decide +kernel
theorem dL_law_279 : decode cL_law 279 = .ok (.iload 4, 2) := by decide +kernel
theorem dL_law_281 : decode cL_law 281 = .ok (.iconst 2, 1) := by decide +kernel
theorem dL_law_282 : decode cL_law 282 = .ok (.iadd, 1) := by decide +kernel
theorem dL_law_283 : decode cL_law 283 = .ok (.iaload, 1) := by decide +kernel
theorem dL_law_284 : decode cL_law 284 = .ok (.ifCond .eq 7, 3) := by decide +kernel
theorem dL_law_287 : decode cL_law 287 = .ok (.iconst 1, 1) := by decide +kernel
theorem dL_law_288 : decode cL_law 288 = .ok (.goto 4, 3) := by decide +kernel
theorem dL_law_291 : decode cL_law 291 = .ok (.iconst 0, 1) := by decide +kernel
theorem dL_law_292 : decode cL_law 292 = .ok (.invokevirtual 102, 3) := by decide +kernel
theorem dL_law_295 : decode cL_law 295 = .ok (.istore 6, 2) := by decide +kernel
theorem dL_law_297 : decode cL_law 297 = .ok (.aload_n 2, 1) := by decide +kernel
theorem dL_law_298 : decode cL_law 298 = .ok (.invokevirtual 96, 3) := by decide +kernel
theorem dL_law_301 : decode cL_law 301 = .ok (.iload 5, 2) := by decide +kernel
theorem dL_law_303 : decode cL_law 303 = .ok (.if_icmp .eq 5, 3) := by decide +kernel
theorem dL_law_306 : decode cL_law 306 = .ok (.iconst 0, 1) := by decide +kernel
theorem dL_law_307 : decode cL_law 307 = .ok (.ireturn, 1) := by decide +kernel
theorem dL_law_308 : decode cL_law 308 = .ok (.iload 5, 2) := by decide +kernel
theorem dL_law_310 : decode cL_law 310 = .ok (.ifCond .ne 22, 3) := by decide +kernel
theorem dL_law_313 : decode cL_law 313 = .ok (.aload_n 3, 1) := by decide +kernel
theorem dL_law_314 : decode cL_law 314 = .ok (.iconst 0, 1) := by decide +kernel
theorem dL_law_315 : decode cL_law 315 = .ok (.laload, 1) := by decide +kernel
theorem dL_law_316 : decode cL_law 316 = .ok (.iload 6, 2) := by decide +kernel
theorem dL_law_318 : decode cL_law 318 = .ok (.ifCond .eq 7, 3) := by decide +kernel
theorem dL_law_321 : decode cL_law 321 = .ok (.lconst 1, 1) := by decide +kernel
theorem dL_law_322 : decode cL_law 322 = .ok (.goto 4, 3) := by decide +kernel
theorem dL_law_325 : decode cL_law 325 = .ok (.lconst 0, 1) := by decide +kernel
theorem dL_law_326 : decode cL_law 326 = .ok (.lcmp, 1) := by decide +kernel
theorem dL_law_327 : decode cL_law 327 = .ok (.ifCond .eq 5, 3) := by decide +kernel
theorem dL_law_330 : decode cL_law 330 = .ok (.iconst 0, 1) := by decide +kernel
theorem dL_law_331 : decode cL_law 331 = .ok (.ireturn, 1) := by decide +kernel
theorem dL_law_332 : decode cL_law 332 = .ok (.goto 1182, 3) := by decide +kernel
theorem dL_law_335 : decode cL_law 335 = .ok (.aload_n 1, 1) := by decide +kernel
theorem dL_law_336 : decode cL_law 336 = .ok (.aload_n 0, 1) := by decide +kernel
theorem dL_law_337 : decode cL_law 337 = .ok (.iload 4, 2) := by decide +kernel
theorem dL_law_339 : decode cL_law 339 = .ok (.iconst 1, 1) := by decide +kernel
theorem dL_law_340 : decode cL_law 340 = .ok (.iadd, 1) := by decide +kernel
theorem dL_law_341 : decode cL_law 341 = .ok (.iaload, 1) := by decide +kernel
theorem dL_law_342 : decode cL_law 342 = .ok (.aload_n 0, 1) := by decide +kernel
theorem dL_law_343 : decode cL_law 343 = .ok (.iload 4, 2) := by decide +kernel
theorem dL_law_345 : decode cL_law 345 = .ok (.iconst 2, 1) := by decide +kernel
theorem dL_law_346 : decode cL_law 346 = .ok (.iadd, 1) := by decide +kernel
theorem dL_law_347 : decode cL_law 347 = .ok (.iaload, 1) := by decide +kernel
theorem dL_law_348 : decode cL_law 348 = .ok (.ifCond .eq 7, 3) := by decide +kernel
theorem dL_law_351 : decode cL_law 351 = .ok (.iconst 1, 1) := by decide +kernel
theorem dL_law_352 : decode cL_law 352 = .ok (.goto 4, 3) := by decide +kernel
theorem dL_law_355 : decode cL_law 355 = .ok (.iconst 0, 1) := by decide +kernel
theorem dL_law_356 : decode cL_law 356 = .ok (.aload_n 0, 1) := by decide +kernel
theorem dL_law_357 : decode cL_law 357 = .ok (.iload 4, 2) := by decide +kernel
theorem dL_law_359 : decode cL_law 359 = .ok (.iconst 3, 1) := by decide +kernel
theorem dL_law_360 : decode cL_law 360 = .ok (.iadd, 1) := by decide +kernel
theorem dL_law_361 : decode cL_law 361 = .ok (.iaload, 1) := by decide +kernel
theorem dL_law_362 : decode cL_law 362 = .ok (.invokestatic 103, 3) := by decide +kernel
theorem dL_law_365 : decode cL_law 365 = .ok (.istore 5, 2) := by decide +kernel
theorem dL_law_367 : decode cL_law 367 = .ok (.aload_n 2, 1) := by decide +kernel
theorem dL_law_368 : decode cL_law 368 = .ok (.aload_n 0, 1) := by decide +kernel
theorem dL_law_369 : decode cL_law 369 = .ok (.iload 4, 2) := by decide +kernel
theorem dL_law_371 : decode cL_law 371 = .ok (.iconst 1, 1) := by decide +kernel
theorem dL_law_372 : decode cL_law 372 = .ok (.iadd, 1) := by decide +kernel
theorem dL_law_373 : decode cL_law 373 = .ok (.iaload, 1) := by decide +kernel
theorem dL_law_374 : decode cL_law 374 = .ok (.aload_n 0, 1) := by decide +kernel
theorem dL_law_375 : decode cL_law 375 = .ok (.iload 4, 2) := by decide +kernel
theorem dL_law_377 : decode cL_law 377 = .ok (.iconst 2, 1) := by decide +kernel
theorem dL_law_378 : decode cL_law 378 = .ok (.iadd, 1) := by decide +kernel
theorem dL_law_379 : decode cL_law 379 = .ok (.iaload, 1) := by decide +kernel
theorem dL_law_380 : decode cL_law 380 = .ok (.ifCond .eq 7, 3) := by decide +kernel
theorem dL_law_383 : decode cL_law 383 = .ok (.iconst 1, 1) := by decide +kernel
theorem dL_law_384 : decode cL_law 384 = .ok (.goto 4, 3) := by decide +kernel
theorem dL_law_387 : decode cL_law 387 = .ok (.iconst 0, 1) := by decide +kernel
theorem dL_law_388 : decode cL_law 388 = .ok (.aload_n 0, 1) := by decide +kernel
theorem dL_law_389 : decode cL_law 389 = .ok (.iload 4, 2) := by decide +kernel
theorem dL_law_391 : decode cL_law 391 = .ok (.iconst 3, 1) := by decide +kernel
theorem dL_law_392 : decode cL_law 392 = .ok (.iadd, 1) := by decide +kernel
theorem dL_law_393 : decode cL_law 393 = .ok (.iaload, 1) := by decide +kernel
theorem dL_law_394 : decode cL_law 394 = .ok (.invokevirtual 106, 3) := by decide +kernel
theorem dL_law_397 : decode cL_law 397 = .ok (.aload_n 2, 1) := by decide +kernel
theorem dL_law_398 : decode cL_law 398 = .ok (.invokevirtual 96, 3) := by decide +kernel
theorem dL_law_401 : decode cL_law 401 = .ok (.iload 5, 2) := by decide +kernel
theorem dL_law_403 : decode cL_law 403 = .ok (.if_icmp .eq 5, 3) := by decide +kernel
theorem dL_law_406 : decode cL_law 406 = .ok (.iconst 0, 1) := by decide +kernel
theorem dL_law_407 : decode cL_law 407 = .ok (.ireturn, 1) := by decide +kernel
theorem dL_law_408 : decode cL_law 408 = .ok (.goto 1106, 3) := by decide +kernel
theorem dL_law_411 : decode cL_law 411 = .ok (.aload_n 1, 1) := by decide +kernel
theorem dL_law_412 : decode cL_law 412 = .ok (.aload_n 0, 1) := by decide +kernel
theorem dL_law_413 : decode cL_law 413 = .ok (.iload 4, 2) := by decide +kernel
theorem dL_law_415 : decode cL_law 415 = .ok (.iconst 1, 1) := by decide +kernel
theorem dL_law_416 : decode cL_law 416 = .ok (.iadd, 1) := by decide +kernel
theorem dL_law_417 : decode cL_law 417 = .ok (.iaload, 1) := by decide +kernel
theorem dL_law_418 : decode cL_law 418 = .ok (.aload_n 0, 1) := by decide +kernel
theorem dL_law_419 : decode cL_law 419 = .ok (.iload 4, 2) := by decide +kernel
theorem dL_law_421 : decode cL_law 421 = .ok (.iconst 2, 1) := by decide +kernel
theorem dL_law_422 : decode cL_law 422 = .ok (.iadd, 1) := by decide +kernel
theorem dL_law_423 : decode cL_law 423 = .ok (.iaload, 1) := by decide +kernel
theorem dL_law_424 : decode cL_law 424 = .ok (.aload_n 0, 1) := by decide +kernel
theorem dL_law_425 : decode cL_law 425 = .ok (.iload 4, 2) := by decide +kernel
theorem dL_law_427 : decode cL_law 427 = .ok (.iconst 3, 1) := by decide +kernel
theorem dL_law_428 : decode cL_law 428 = .ok (.iadd, 1) := by decide +kernel
theorem dL_law_429 : decode cL_law 429 = .ok (.iaload, 1) := by decide +kernel
theorem dL_law_430 : decode cL_law 430 = .ok (.invokestatic 107, 3) := by decide +kernel
theorem dL_law_433 : decode cL_law 433 = .ok (.istore 5, 2) := by decide +kernel
theorem dL_law_435 : decode cL_law 435 = .ok (.aload_n 2, 1) := by decide +kernel
theorem dL_law_436 : decode cL_law 436 = .ok (.aload_n 0, 1) := by decide +kernel
theorem dL_law_437 : decode cL_law 437 = .ok (.iload 4, 2) := by decide +kernel
theorem dL_law_439 : decode cL_law 439 = .ok (.iconst 1, 1) := by decide +kernel
theorem dL_law_440 : decode cL_law 440 = .ok (.iadd, 1) := by decide +kernel
theorem dL_law_441 : decode cL_law 441 = .ok (.iaload, 1) := by decide +kernel
theorem dL_law_442 : decode cL_law 442 = .ok (.aload_n 0, 1) := by decide +kernel
theorem dL_law_443 : decode cL_law 443 = .ok (.iload 4, 2) := by decide +kernel
theorem dL_law_445 : decode cL_law 445 = .ok (.iconst 2, 1) := by decide +kernel
theorem dL_law_446 : decode cL_law 446 = .ok (.iadd, 1) := by decide +kernel
theorem dL_law_447 : decode cL_law 447 = .ok (.iaload, 1) := by decide +kernel
theorem dL_law_448 : decode cL_law 448 = .ok (.aload_n 0, 1) := by decide +kernel
theorem dL_law_449 : decode cL_law 449 = .ok (.iload 4, 2) := by decide +kernel
theorem dL_law_451 : decode cL_law 451 = .ok (.iconst 3, 1) := by decide +kernel
theorem dL_law_452 : decode cL_law 452 = .ok (.iadd, 1) := by decide +kernel
theorem dL_law_453 : decode cL_law 453 = .ok (.iaload, 1) := by decide +kernel
theorem dL_law_454 : decode cL_law 454 = .ok (.invokevirtual 110, 3) := by decide +kernel
theorem dL_law_457 : decode cL_law 457 = .ok (.aload_n 2, 1) := by decide +kernel
theorem dL_law_458 : decode cL_law 458 = .ok (.invokevirtual 96, 3) := by decide +kernel
theorem dL_law_461 : decode cL_law 461 = .ok (.iload 5, 2) := by decide +kernel
theorem dL_law_463 : decode cL_law 463 = .ok (.if_icmp .eq 5, 3) := by decide +kernel
theorem dL_law_466 : decode cL_law 466 = .ok (.iconst 0, 1) := by decide +kernel
theorem dL_law_467 : decode cL_law 467 = .ok (.ireturn, 1) := by decide +kernel
theorem dL_law_468 : decode cL_law 468 = .ok (.goto 1046, 3) := by decide +kernel
theorem dL_law_471 : decode cL_law 471 = .ok (.aload_n 1, 1) := by decide +kernel
theorem dL_law_472 : decode cL_law 472 = .ok (.aload_n 0, 1) := by decide +kernel
theorem dL_law_473 : decode cL_law 473 = .ok (.iload 4, 2) := by decide +kernel
theorem dL_law_475 : decode cL_law 475 = .ok (.iconst 1, 1) := by decide +kernel
theorem dL_law_476 : decode cL_law 476 = .ok (.iadd, 1) := by decide +kernel
theorem dL_law_477 : decode cL_law 477 = .ok (.iaload, 1) := by decide +kernel
theorem dL_law_478 : decode cL_law 478 = .ok (.aload_n 0, 1) := by decide +kernel
theorem dL_law_479 : decode cL_law 479 = .ok (.iload 4, 2) := by decide +kernel
theorem dL_law_481 : decode cL_law 481 = .ok (.iconst 2, 1) := by decide +kernel
theorem dL_law_482 : decode cL_law 482 = .ok (.iadd, 1) := by decide +kernel
theorem dL_law_483 : decode cL_law 483 = .ok (.iaload, 1) := by decide +kernel
theorem dL_law_484 : decode cL_law 484 = .ok (.aload_n 3, 1) := by decide +kernel
theorem dL_law_485 : decode cL_law 485 = .ok (.invokestatic 111, 3) := by decide +kernel
theorem dL_law_488 : decode cL_law 488 = .ok (.istore 5, 2) := by decide +kernel
theorem dL_law_490 : decode cL_law 490 = .ok (.aload_n 2, 1) := by decide +kernel
theorem dL_law_491 : decode cL_law 491 = .ok (.aload_n 0, 1) := by decide +kernel
theorem dL_law_492 : decode cL_law 492 = .ok (.iload 4, 2) := by decide +kernel
theorem dL_law_494 : decode cL_law 494 = .ok (.iconst 1, 1) := by decide +kernel
theorem dL_law_495 : decode cL_law 495 = .ok (.iadd, 1) := by decide +kernel
theorem dL_law_496 : decode cL_law 496 = .ok (.iaload, 1) := by decide +kernel
theorem dL_law_497 : decode cL_law 497 = .ok (.aload_n 0, 1) := by decide +kernel
theorem dL_law_498 : decode cL_law 498 = .ok (.iload 4, 2) := by decide +kernel
theorem dL_law_500 : decode cL_law 500 = .ok (.iconst 2, 1) := by decide +kernel
theorem dL_law_501 : decode cL_law 501 = .ok (.iadd, 1) := by decide +kernel
theorem dL_law_502 : decode cL_law 502 = .ok (.iaload, 1) := by decide +kernel
theorem dL_law_503 : decode cL_law 503 = .ok (.invokevirtual 114, 3) := by decide +kernel
theorem dL_law_506 : decode cL_law 506 = .ok (.istore 6, 2) := by decide +kernel
theorem dL_law_508 : decode cL_law 508 = .ok (.aload_n 2, 1) := by decide +kernel
theorem dL_law_509 : decode cL_law 509 = .ok (.invokevirtual 96, 3) := by decide +kernel
theorem dL_law_512 : decode cL_law 512 = .ok (.iload 5, 2) := by decide +kernel
theorem dL_law_514 : decode cL_law 514 = .ok (.if_icmp .eq 5, 3) := by decide +kernel
theorem dL_law_517 : decode cL_law 517 = .ok (.iconst 0, 1) := by decide +kernel
theorem dL_law_518 : decode cL_law 518 = .ok (.ireturn, 1) := by decide +kernel
theorem dL_law_519 : decode cL_law 519 = .ok (.iload 5, 2) := by decide +kernel
theorem dL_law_521 : decode cL_law 521 = .ok (.ifCond .ne 15, 3) := by decide +kernel
theorem dL_law_524 : decode cL_law 524 = .ok (.aload_n 3, 1) := by decide +kernel
theorem dL_law_525 : decode cL_law 525 = .ok (.iconst 0, 1) := by decide +kernel
theorem dL_law_526 : decode cL_law 526 = .ok (.laload, 1) := by decide +kernel
theorem dL_law_527 : decode cL_law 527 = .ok (.iload 6, 2) := by decide +kernel
theorem dL_law_529 : decode cL_law 529 = .ok (.i2l, 1) := by decide +kernel
theorem dL_law_530 : decode cL_law 530 = .ok (.lcmp, 1) := by decide +kernel
theorem dL_law_531 : decode cL_law 531 = .ok (.ifCond .eq 5, 3) := by decide +kernel
theorem dL_law_534 : decode cL_law 534 = .ok (.iconst 0, 1) := by decide +kernel
theorem dL_law_535 : decode cL_law 535 = .ok (.ireturn, 1) := by decide +kernel
theorem dL_law_536 : decode cL_law 536 = .ok (.goto 978, 3) := by decide +kernel
theorem dL_law_539 : decode cL_law 539 = .ok (.aload_n 1, 1) := by decide +kernel
theorem dL_law_540 : decode cL_law 540 = .ok (.aload_n 0, 1) := by decide +kernel
theorem dL_law_541 : decode cL_law 541 = .ok (.iload 4, 2) := by decide +kernel
theorem dL_law_543 : decode cL_law 543 = .ok (.iconst 1, 1) := by decide +kernel
theorem dL_law_544 : decode cL_law 544 = .ok (.iadd, 1) := by decide +kernel
theorem dL_law_545 : decode cL_law 545 = .ok (.iaload, 1) := by decide +kernel
theorem dL_law_546 : decode cL_law 546 = .ok (.ifCond .eq 7, 3) := by decide +kernel
theorem dL_law_549 : decode cL_law 549 = .ok (.iconst 1, 1) := by decide +kernel
theorem dL_law_550 : decode cL_law 550 = .ok (.goto 4, 3) := by decide +kernel
theorem dL_law_553 : decode cL_law 553 = .ok (.iconst 0, 1) := by decide +kernel
theorem dL_law_554 : decode cL_law 554 = .ok (.invokevirtual 115, 3) := by decide +kernel
theorem dL_law_557 : decode cL_law 557 = .ok (.aload_n 2, 1) := by decide +kernel
theorem dL_law_558 : decode cL_law 558 = .ok (.aload_n 0, 1) := by decide +kernel
theorem dL_law_559 : decode cL_law 559 = .ok (.iload 4, 2) := by decide +kernel
theorem dL_law_561 : decode cL_law 561 = .ok (.iconst 1, 1) := by decide +kernel
theorem dL_law_562 : decode cL_law 562 = .ok (.iadd, 1) := by decide +kernel
theorem dL_law_563 : decode cL_law 563 = .ok (.iaload, 1) := by decide +kernel
theorem dL_law_564 : decode cL_law 564 = .ok (.ifCond .eq 7, 3) := by decide +kernel
theorem dL_law_567 : decode cL_law 567 = .ok (.iconst 1, 1) := by decide +kernel
theorem dL_law_568 : decode cL_law 568 = .ok (.goto 4, 3) := by decide +kernel
theorem dL_law_571 : decode cL_law 571 = .ok (.iconst 0, 1) := by decide +kernel
theorem dL_law_572 : decode cL_law 572 = .ok (.invokevirtual 119, 3) := by decide +kernel
theorem dL_law_575 : decode cL_law 575 = .ok (.if_icmp .eq 939, 3) := by decide +kernel
theorem dL_law_578 : decode cL_law 578 = .ok (.iconst 0, 1) := by decide +kernel
theorem dL_law_579 : decode cL_law 579 = .ok (.ireturn, 1) := by decide +kernel
theorem dL_law_580 : decode cL_law 580 = .ok (.aload_n 1, 1) := by decide +kernel
theorem dL_law_581 : decode cL_law 581 = .ok (.aload_n 0, 1) := by decide +kernel
theorem dL_law_582 : decode cL_law 582 = .ok (.iload 4, 2) := by decide +kernel
theorem dL_law_584 : decode cL_law 584 = .ok (.iconst 1, 1) := by decide +kernel
theorem dL_law_585 : decode cL_law 585 = .ok (.iadd, 1) := by decide +kernel
theorem dL_law_586 : decode cL_law 586 = .ok (.iaload, 1) := by decide +kernel
theorem dL_law_587 : decode cL_law 587 = .ok (.aload_n 0, 1) := by decide +kernel
theorem dL_law_588 : decode cL_law 588 = .ok (.iload 4, 2) := by decide +kernel
theorem dL_law_590 : decode cL_law 590 = .ok (.iconst 2, 1) := by decide +kernel
theorem dL_law_591 : decode cL_law 591 = .ok (.iadd, 1) := by decide +kernel
theorem dL_law_592 : decode cL_law 592 = .ok (.iaload, 1) := by decide +kernel
theorem dL_law_593 : decode cL_law 593 = .ok (.aload_n 3, 1) := by decide +kernel
theorem dL_law_594 : decode cL_law 594 = .ok (.invokestatic 120, 3) := by decide +kernel
theorem dL_law_597 : decode cL_law 597 = .ok (.istore 5, 2) := by decide +kernel
theorem dL_law_599 : decode cL_law 599 = .ok (.aload_n 2, 1) := by decide +kernel
theorem dL_law_600 : decode cL_law 600 = .ok (.aload_n 0, 1) := by decide +kernel
theorem dL_law_601 : decode cL_law 601 = .ok (.iload 4, 2) := by decide +kernel
theorem dL_law_603 : decode cL_law 603 = .ok (.iconst 1, 1) := by decide +kernel
theorem dL_law_604 : decode cL_law 604 = .ok (.iadd, 1) := by decide +kernel
theorem dL_law_605 : decode cL_law 605 = .ok (.iaload, 1) := by decide +kernel
theorem dL_law_606 : decode cL_law 606 = .ok (.aload_n 0, 1) := by decide +kernel
theorem dL_law_607 : decode cL_law 607 = .ok (.iload 4, 2) := by decide +kernel
theorem dL_law_609 : decode cL_law 609 = .ok (.iconst 2, 1) := by decide +kernel
theorem dL_law_610 : decode cL_law 610 = .ok (.iadd, 1) := by decide +kernel
theorem dL_law_611 : decode cL_law 611 = .ok (.iaload, 1) := by decide +kernel
theorem dL_law_612 : decode cL_law 612 = .ok (.invokevirtual 122, 3) := by decide +kernel
theorem dL_law_615 : decode cL_law 615 = .ok (.istore 6, 2) := by decide +kernel
theorem dL_law_617 : decode cL_law 617 = .ok (.aload_n 2, 1) := by decide +kernel
theorem dL_law_618 : decode cL_law 618 = .ok (.invokevirtual 96, 3) := by decide +kernel
theorem dL_law_621 : decode cL_law 621 = .ok (.iload 5, 2) := by decide +kernel
theorem dL_law_623 : decode cL_law 623 = .ok (.if_icmp .eq 5, 3) := by decide +kernel
theorem dL_law_626 : decode cL_law 626 = .ok (.iconst 0, 1) := by decide +kernel
theorem dL_law_627 : decode cL_law 627 = .ok (.ireturn, 1) := by decide +kernel
theorem dL_law_628 : decode cL_law 628 = .ok (.iload 5, 2) := by decide +kernel
theorem dL_law_630 : decode cL_law 630 = .ok (.ifCond .ne 15, 3) := by decide +kernel
theorem dL_law_633 : decode cL_law 633 = .ok (.aload_n 3, 1) := by decide +kernel
theorem dL_law_634 : decode cL_law 634 = .ok (.iconst 0, 1) := by decide +kernel
theorem dL_law_635 : decode cL_law 635 = .ok (.laload, 1) := by decide +kernel
theorem dL_law_636 : decode cL_law 636 = .ok (.iload 6, 2) := by decide +kernel
theorem dL_law_638 : decode cL_law 638 = .ok (.i2l, 1) := by decide +kernel
theorem dL_law_639 : decode cL_law 639 = .ok (.lcmp, 1) := by decide +kernel
theorem dL_law_640 : decode cL_law 640 = .ok (.ifCond .eq 5, 3) := by decide +kernel
theorem dL_law_643 : decode cL_law 643 = .ok (.iconst 0, 1) := by decide +kernel
theorem dL_law_644 : decode cL_law 644 = .ok (.ireturn, 1) := by decide +kernel
theorem dL_law_645 : decode cL_law 645 = .ok (.goto 869, 3) := by decide +kernel
theorem dL_law_648 : decode cL_law 648 = .ok (.aload_n 1, 1) := by decide +kernel
theorem dL_law_649 : decode cL_law 649 = .ok (.invokevirtual 123, 3) := by decide +kernel
theorem dL_law_652 : decode cL_law 652 = .ok (.aload_n 2, 1) := by decide +kernel
theorem dL_law_653 : decode cL_law 653 = .ok (.invokevirtual 126, 3) := by decide +kernel
theorem dL_law_656 : decode cL_law 656 = .ok (.goto 858, 3) := by decide +kernel
theorem dL_law_659 : decode cL_law 659 = .ok (.aload_n 1, 1) := by decide +kernel
theorem dL_law_660 : decode cL_law 660 = .ok (.aload_n 0, 1) := by decide +kernel
theorem dL_law_661 : decode cL_law 661 = .ok (.iload 4, 2) := by decide +kernel
theorem dL_law_663 : decode cL_law 663 = .ok (.iconst 1, 1) := by decide +kernel
theorem dL_law_664 : decode cL_law 664 = .ok (.iadd, 1) := by decide +kernel
theorem dL_law_665 : decode cL_law 665 = .ok (.iaload, 1) := by decide +kernel
theorem dL_law_666 : decode cL_law 666 = .ok (.invokestatic 127, 3) := by decide +kernel
theorem dL_law_669 : decode cL_law 669 = .ok (.istore 5, 2) := by decide +kernel
theorem dL_law_671 : decode cL_law 671 = .ok (.aload_n 2, 1) := by decide +kernel
theorem dL_law_672 : decode cL_law 672 = .ok (.aload_n 0, 1) := by decide +kernel
theorem dL_law_673 : decode cL_law 673 = .ok (.iload 4, 2) := by decide +kernel
theorem dL_law_675 : decode cL_law 675 = .ok (.iconst 1, 1) := by decide +kernel
theorem dL_law_676 : decode cL_law 676 = .ok (.iadd, 1) := by decide +kernel
theorem dL_law_677 : decode cL_law 677 = .ok (.iaload, 1) := by decide +kernel
theorem dL_law_678 : decode cL_law 678 = .ok (.invokevirtual 130, 3) := by decide +kernel
theorem dL_law_681 : decode cL_law 681 = .ok (.aload_n 2, 1) := by decide +kernel
theorem dL_law_682 : decode cL_law 682 = .ok (.invokevirtual 96, 3) := by decide +kernel
theorem dL_law_685 : decode cL_law 685 = .ok (.iload 5, 2) := by decide +kernel
theorem dL_law_687 : decode cL_law 687 = .ok (.if_icmp .eq 5, 3) := by decide +kernel
theorem dL_law_690 : decode cL_law 690 = .ok (.iconst 0, 1) := by decide +kernel
theorem dL_law_691 : decode cL_law 691 = .ok (.ireturn, 1) := by decide +kernel
theorem dL_law_692 : decode cL_law 692 = .ok (.goto 822, 3) := by decide +kernel
theorem dL_law_695 : decode cL_law 695 = .ok (.aload_n 1, 1) := by decide +kernel
theorem dL_law_696 : decode cL_law 696 = .ok (.aload_n 0, 1) := by decide +kernel
theorem dL_law_697 : decode cL_law 697 = .ok (.iload 4, 2) := by decide +kernel
theorem dL_law_699 : decode cL_law 699 = .ok (.iconst 1, 1) := by decide +kernel
theorem dL_law_700 : decode cL_law 700 = .ok (.iadd, 1) := by decide +kernel
theorem dL_law_701 : decode cL_law 701 = .ok (.iaload, 1) := by decide +kernel
theorem dL_law_702 : decode cL_law 702 = .ok (.aload_n 0, 1) := by decide +kernel
theorem dL_law_703 : decode cL_law 703 = .ok (.iload 4, 2) := by decide +kernel
theorem dL_law_705 : decode cL_law 705 = .ok (.iconst 2, 1) := by decide +kernel
theorem dL_law_706 : decode cL_law 706 = .ok (.iadd, 1) := by decide +kernel
theorem dL_law_707 : decode cL_law 707 = .ok (.iaload, 1) := by decide +kernel
theorem dL_law_708 : decode cL_law 708 = .ok (.aload_n 3, 1) := by decide +kernel
theorem dL_law_709 : decode cL_law 709 = .ok (.invokestatic 131, 3) := by decide +kernel
theorem dL_law_712 : decode cL_law 712 = .ok (.istore 5, 2) := by decide +kernel
theorem dL_law_714 : decode cL_law 714 = .ok (.aload_n 2, 1) := by decide +kernel
theorem dL_law_715 : decode cL_law 715 = .ok (.aload_n 0, 1) := by decide +kernel
theorem dL_law_716 : decode cL_law 716 = .ok (.iload 4, 2) := by decide +kernel
theorem dL_law_718 : decode cL_law 718 = .ok (.iconst 1, 1) := by decide +kernel
theorem dL_law_719 : decode cL_law 719 = .ok (.iadd, 1) := by decide +kernel
theorem dL_law_720 : decode cL_law 720 = .ok (.iaload, 1) := by decide +kernel
theorem dL_law_721 : decode cL_law 721 = .ok (.aload_n 0, 1) := by decide +kernel
theorem dL_law_722 : decode cL_law 722 = .ok (.iload 4, 2) := by decide +kernel
theorem dL_law_724 : decode cL_law 724 = .ok (.iconst 2, 1) := by decide +kernel
theorem dL_law_725 : decode cL_law 725 = .ok (.iadd, 1) := by decide +kernel
theorem dL_law_726 : decode cL_law 726 = .ok (.iaload, 1) := by decide +kernel
theorem dL_law_727 : decode cL_law 727 = .ok (.invokevirtual 133, 3) := by decide +kernel
theorem dL_law_730 : decode cL_law 730 = .ok (.istore 6, 2) := by decide +kernel
theorem dL_law_732 : decode cL_law 732 = .ok (.aload_n 2, 1) := by decide +kernel
theorem dL_law_733 : decode cL_law 733 = .ok (.invokevirtual 96, 3) := by decide +kernel
theorem dL_law_736 : decode cL_law 736 = .ok (.iload 5, 2) := by decide +kernel
theorem dL_law_738 : decode cL_law 738 = .ok (.if_icmp .eq 5, 3) := by decide +kernel
theorem dL_law_741 : decode cL_law 741 = .ok (.iconst 0, 1) := by decide +kernel
theorem dL_law_742 : decode cL_law 742 = .ok (.ireturn, 1) := by decide +kernel
theorem dL_law_743 : decode cL_law 743 = .ok (.iload 5, 2) := by decide +kernel
theorem dL_law_745 : decode cL_law 745 = .ok (.ifCond .ne 15, 3) := by decide +kernel
theorem dL_law_748 : decode cL_law 748 = .ok (.aload_n 3, 1) := by decide +kernel
theorem dL_law_749 : decode cL_law 749 = .ok (.iconst 0, 1) := by decide +kernel
theorem dL_law_750 : decode cL_law 750 = .ok (.laload, 1) := by decide +kernel
theorem dL_law_751 : decode cL_law 751 = .ok (.iload 6, 2) := by decide +kernel
theorem dL_law_753 : decode cL_law 753 = .ok (.i2l, 1) := by decide +kernel
theorem dL_law_754 : decode cL_law 754 = .ok (.lcmp, 1) := by decide +kernel
theorem dL_law_755 : decode cL_law 755 = .ok (.ifCond .eq 5, 3) := by decide +kernel
theorem dL_law_758 : decode cL_law 758 = .ok (.iconst 0, 1) := by decide +kernel
theorem dL_law_759 : decode cL_law 759 = .ok (.ireturn, 1) := by decide +kernel
theorem dL_law_760 : decode cL_law 760 = .ok (.goto 754, 3) := by decide +kernel
theorem dL_law_763 : decode cL_law 763 = .ok (.aload_n 1, 1) := by decide +kernel
theorem dL_law_764 : decode cL_law 764 = .ok (.aload_n 0, 1) := by decide +kernel
theorem dL_law_765 : decode cL_law 765 = .ok (.iload 4, 2) := by decide +kernel
theorem dL_law_767 : decode cL_law 767 = .ok (.iconst 1, 1) := by decide +kernel
theorem dL_law_768 : decode cL_law 768 = .ok (.iadd, 1) := by decide +kernel
theorem dL_law_769 : decode cL_law 769 = .ok (.iaload, 1) := by decide +kernel
theorem dL_law_770 : decode cL_law 770 = .ok (.aload_n 0, 1) := by decide +kernel
theorem dL_law_771 : decode cL_law 771 = .ok (.iload 4, 2) := by decide +kernel
theorem dL_law_773 : decode cL_law 773 = .ok (.iconst 2, 1) := by decide +kernel
theorem dL_law_774 : decode cL_law 774 = .ok (.iadd, 1) := by decide +kernel
theorem dL_law_775 : decode cL_law 775 = .ok (.iaload, 1) := by decide +kernel
theorem dL_law_776 : decode cL_law 776 = .ok (.aload_n 3, 1) := by decide +kernel
theorem dL_law_777 : decode cL_law 777 = .ok (.invokestatic 134, 3) := by decide +kernel
theorem dL_law_780 : decode cL_law 780 = .ok (.istore 5, 2) := by decide +kernel
theorem dL_law_782 : decode cL_law 782 = .ok (.aload_n 2, 1) := by decide +kernel
theorem dL_law_783 : decode cL_law 783 = .ok (.aload_n 0, 1) := by decide +kernel
theorem dL_law_784 : decode cL_law 784 = .ok (.iload 4, 2) := by decide +kernel
theorem dL_law_786 : decode cL_law 786 = .ok (.iconst 1, 1) := by decide +kernel
theorem dL_law_787 : decode cL_law 787 = .ok (.iadd, 1) := by decide +kernel
theorem dL_law_788 : decode cL_law 788 = .ok (.iaload, 1) := by decide +kernel
theorem dL_law_789 : decode cL_law 789 = .ok (.aload_n 0, 1) := by decide +kernel
theorem dL_law_790 : decode cL_law 790 = .ok (.iload 4, 2) := by decide +kernel
theorem dL_law_792 : decode cL_law 792 = .ok (.iconst 2, 1) := by decide +kernel
theorem dL_law_793 : decode cL_law 793 = .ok (.iadd, 1) := by decide +kernel
theorem dL_law_794 : decode cL_law 794 = .ok (.iaload, 1) := by decide +kernel
theorem dL_law_795 : decode cL_law 795 = .ok (.invokevirtual 136, 3) := by decide +kernel
theorem dL_law_798 : decode cL_law 798 = .ok (.istore 6, 2) := by decide +kernel
theorem dL_law_800 : decode cL_law 800 = .ok (.aload_n 2, 1) := by decide +kernel
theorem dL_law_801 : decode cL_law 801 = .ok (.invokevirtual 96, 3) := by decide +kernel
theorem dL_law_804 : decode cL_law 804 = .ok (.iload 5, 2) := by decide +kernel
theorem dL_law_806 : decode cL_law 806 = .ok (.if_icmp .eq 5, 3) := by decide +kernel
theorem dL_law_809 : decode cL_law 809 = .ok (.iconst 0, 1) := by decide +kernel
theorem dL_law_810 : decode cL_law 810 = .ok (.ireturn, 1) := by decide +kernel
theorem dL_law_811 : decode cL_law 811 = .ok (.iload 5, 2) := by decide +kernel
theorem dL_law_813 : decode cL_law 813 = .ok (.ifCond .ne 15, 3) := by decide +kernel
theorem dL_law_816 : decode cL_law 816 = .ok (.aload_n 3, 1) := by decide +kernel
theorem dL_law_817 : decode cL_law 817 = .ok (.iconst 0, 1) := by decide +kernel
theorem dL_law_818 : decode cL_law 818 = .ok (.laload, 1) := by decide +kernel
theorem dL_law_819 : decode cL_law 819 = .ok (.iload 6, 2) := by decide +kernel
theorem dL_law_821 : decode cL_law 821 = .ok (.i2l, 1) := by decide +kernel
theorem dL_law_822 : decode cL_law 822 = .ok (.lcmp, 1) := by decide +kernel
theorem dL_law_823 : decode cL_law 823 = .ok (.ifCond .eq 5, 3) := by decide +kernel
theorem dL_law_826 : decode cL_law 826 = .ok (.iconst 0, 1) := by decide +kernel
theorem dL_law_827 : decode cL_law 827 = .ok (.ireturn, 1) := by decide +kernel
theorem dL_law_828 : decode cL_law 828 = .ok (.goto 686, 3) := by decide +kernel
theorem dL_law_831 : decode cL_law 831 = .ok (.aload_n 1, 1) := by decide +kernel
theorem dL_law_832 : decode cL_law 832 = .ok (.aload_n 0, 1) := by decide +kernel
theorem dL_law_833 : decode cL_law 833 = .ok (.iload 4, 2) := by decide +kernel
theorem dL_law_835 : decode cL_law 835 = .ok (.iconst 1, 1) := by decide +kernel
theorem dL_law_836 : decode cL_law 836 = .ok (.iadd, 1) := by decide +kernel
theorem dL_law_837 : decode cL_law 837 = .ok (.iaload, 1) := by decide +kernel
theorem dL_law_838 : decode cL_law 838 = .ok (.invokestatic 137, 3) := by decide +kernel
theorem dL_law_841 : decode cL_law 841 = .ok (.istore 5, 2) := by decide +kernel
theorem dL_law_843 : decode cL_law 843 = .ok (.aload_n 2, 1) := by decide +kernel
theorem dL_law_844 : decode cL_law 844 = .ok (.aload_n 0, 1) := by decide +kernel
theorem dL_law_845 : decode cL_law 845 = .ok (.iload 4, 2) := by decide +kernel
theorem dL_law_847 : decode cL_law 847 = .ok (.iconst 1, 1) := by decide +kernel
theorem dL_law_848 : decode cL_law 848 = .ok (.iadd, 1) := by decide +kernel
theorem dL_law_849 : decode cL_law 849 = .ok (.iaload, 1) := by decide +kernel
theorem dL_law_850 : decode cL_law 850 = .ok (.invokevirtual 139, 3) := by decide +kernel
theorem dL_law_853 : decode cL_law 853 = .ok (.aload_n 2, 1) := by decide +kernel
theorem dL_law_854 : decode cL_law 854 = .ok (.invokevirtual 96, 3) := by decide +kernel
theorem dL_law_857 : decode cL_law 857 = .ok (.iload 5, 2) := by decide +kernel
theorem dL_law_859 : decode cL_law 859 = .ok (.if_icmp .eq 5, 3) := by decide +kernel
theorem dL_law_862 : decode cL_law 862 = .ok (.iconst 0, 1) := by decide +kernel
theorem dL_law_863 : decode cL_law 863 = .ok (.ireturn, 1) := by decide +kernel
theorem dL_law_864 : decode cL_law 864 = .ok (.goto 650, 3) := by decide +kernel
theorem dL_law_867 : decode cL_law 867 = .ok (.aload_n 1, 1) := by decide +kernel
theorem dL_law_868 : decode cL_law 868 = .ok (.aload_n 0, 1) := by decide +kernel
theorem dL_law_869 : decode cL_law 869 = .ok (.iload 4, 2) := by decide +kernel
theorem dL_law_871 : decode cL_law 871 = .ok (.iconst 1, 1) := by decide +kernel
theorem dL_law_872 : decode cL_law 872 = .ok (.iadd, 1) := by decide +kernel
theorem dL_law_873 : decode cL_law 873 = .ok (.iaload, 1) := by decide +kernel
theorem dL_law_874 : decode cL_law 874 = .ok (.aload_n 3, 1) := by decide +kernel
theorem dL_law_875 : decode cL_law 875 = .ok (.invokestatic 140, 3) := by decide +kernel
theorem dL_law_878 : decode cL_law 878 = .ok (.istore 5, 2) := by decide +kernel
theorem dL_law_880 : decode cL_law 880 = .ok (.aload_n 2, 1) := by decide +kernel
theorem dL_law_881 : decode cL_law 881 = .ok (.aload_n 0, 1) := by decide +kernel
theorem dL_law_882 : decode cL_law 882 = .ok (.iload 4, 2) := by decide +kernel
theorem dL_law_884 : decode cL_law 884 = .ok (.iconst 1, 1) := by decide +kernel
theorem dL_law_885 : decode cL_law 885 = .ok (.iadd, 1) := by decide +kernel
theorem dL_law_886 : decode cL_law 886 = .ok (.iaload, 1) := by decide +kernel
theorem dL_law_887 : decode cL_law 887 = .ok (.invokevirtual 143, 3) := by decide +kernel
theorem dL_law_890 : decode cL_law 890 = .ok (.istore 6, 2) := by decide +kernel
theorem dL_law_892 : decode cL_law 892 = .ok (.aload_n 2, 1) := by decide +kernel
theorem dL_law_893 : decode cL_law 893 = .ok (.invokevirtual 96, 3) := by decide +kernel
theorem dL_law_896 : decode cL_law 896 = .ok (.iload 5, 2) := by decide +kernel
theorem dL_law_898 : decode cL_law 898 = .ok (.if_icmp .eq 5, 3) := by decide +kernel
theorem dL_law_901 : decode cL_law 901 = .ok (.iconst 0, 1) := by decide +kernel
theorem dL_law_902 : decode cL_law 902 = .ok (.ireturn, 1) := by decide +kernel
theorem dL_law_903 : decode cL_law 903 = .ok (.iload 5, 2) := by decide +kernel
theorem dL_law_905 : decode cL_law 905 = .ok (.ifCond .ne 15, 3) := by decide +kernel
theorem dL_law_908 : decode cL_law 908 = .ok (.aload_n 3, 1) := by decide +kernel
theorem dL_law_909 : decode cL_law 909 = .ok (.iconst 0, 1) := by decide +kernel
theorem dL_law_910 : decode cL_law 910 = .ok (.laload, 1) := by decide +kernel
theorem dL_law_911 : decode cL_law 911 = .ok (.iload 6, 2) := by decide +kernel
theorem dL_law_913 : decode cL_law 913 = .ok (.i2l, 1) := by decide +kernel
theorem dL_law_914 : decode cL_law 914 = .ok (.lcmp, 1) := by decide +kernel
theorem dL_law_915 : decode cL_law 915 = .ok (.ifCond .eq 5, 3) := by decide +kernel
theorem dL_law_918 : decode cL_law 918 = .ok (.iconst 0, 1) := by decide +kernel
theorem dL_law_919 : decode cL_law 919 = .ok (.ireturn, 1) := by decide +kernel
theorem dL_law_920 : decode cL_law 920 = .ok (.goto 594, 3) := by decide +kernel
theorem dL_law_923 : decode cL_law 923 = .ok (.aload_n 1, 1) := by decide +kernel
theorem dL_law_924 : decode cL_law 924 = .ok (.aload_n 3, 1) := by decide +kernel
theorem dL_law_925 : decode cL_law 925 = .ok (.invokestatic 144, 3) := by decide +kernel
theorem dL_law_928 : decode cL_law 928 = .ok (.istore 5, 2) := by decide +kernel
theorem dL_law_930 : decode cL_law 930 = .ok (.aload_n 2, 1) := by decide +kernel
theorem dL_law_931 : decode cL_law 931 = .ok (.invokevirtual 147, 3) := by decide +kernel
theorem dL_law_934 : decode cL_law 934 = .ok (.istore 6, 2) := by decide +kernel
theorem dL_law_936 : decode cL_law 936 = .ok (.aload_n 2, 1) := by decide +kernel
theorem dL_law_937 : decode cL_law 937 = .ok (.invokevirtual 96, 3) := by decide +kernel
theorem dL_law_940 : decode cL_law 940 = .ok (.iload 5, 2) := by decide +kernel
theorem dL_law_942 : decode cL_law 942 = .ok (.if_icmp .eq 5, 3) := by decide +kernel
theorem dL_law_945 : decode cL_law 945 = .ok (.iconst 0, 1) := by decide +kernel
theorem dL_law_946 : decode cL_law 946 = .ok (.ireturn, 1) := by decide +kernel
theorem dL_law_947 : decode cL_law 947 = .ok (.iload 5, 2) := by decide +kernel
theorem dL_law_949 : decode cL_law 949 = .ok (.ifCond .ne 15, 3) := by decide +kernel
theorem dL_law_952 : decode cL_law 952 = .ok (.aload_n 3, 1) := by decide +kernel
theorem dL_law_953 : decode cL_law 953 = .ok (.iconst 0, 1) := by decide +kernel
theorem dL_law_954 : decode cL_law 954 = .ok (.laload, 1) := by decide +kernel
theorem dL_law_955 : decode cL_law 955 = .ok (.iload 6, 2) := by decide +kernel
theorem dL_law_957 : decode cL_law 957 = .ok (.i2l, 1) := by decide +kernel
theorem dL_law_958 : decode cL_law 958 = .ok (.lcmp, 1) := by decide +kernel
theorem dL_law_959 : decode cL_law 959 = .ok (.ifCond .eq 5, 3) := by decide +kernel
theorem dL_law_962 : decode cL_law 962 = .ok (.iconst 0, 1) := by decide +kernel
theorem dL_law_963 : decode cL_law 963 = .ok (.ireturn, 1) := by decide +kernel
theorem dL_law_964 : decode cL_law 964 = .ok (.goto 550, 3) := by decide +kernel
theorem dL_law_967 : decode cL_law 967 = .ok (.aload_n 1, 1) := by decide +kernel
theorem dL_law_968 : decode cL_law 968 = .ok (.invokestatic 148, 3) := by decide +kernel
theorem dL_law_971 : decode cL_law 971 = .ok (.istore 5, 2) := by decide +kernel
theorem dL_law_973 : decode cL_law 973 = .ok (.aload_n 2, 1) := by decide +kernel
theorem dL_law_974 : decode cL_law 974 = .ok (.invokevirtual 151, 3) := by decide +kernel
theorem dL_law_977 : decode cL_law 977 = .ok (.aload_n 2, 1) := by decide +kernel
theorem dL_law_978 : decode cL_law 978 = .ok (.invokevirtual 96, 3) := by decide +kernel
theorem dL_law_981 : decode cL_law 981 = .ok (.iload 5, 2) := by decide +kernel
theorem dL_law_983 : decode cL_law 983 = .ok (.if_icmp .eq 5, 3) := by decide +kernel
theorem dL_law_986 : decode cL_law 986 = .ok (.iconst 0, 1) := by decide +kernel
theorem dL_law_987 : decode cL_law 987 = .ok (.ireturn, 1) := by decide +kernel
theorem dL_law_988 : decode cL_law 988 = .ok (.goto 526, 3) := by decide +kernel
theorem dL_law_991 : decode cL_law 991 = .ok (.aload_n 1, 1) := by decide +kernel
theorem dL_law_992 : decode cL_law 992 = .ok (.aload_n 0, 1) := by decide +kernel
theorem dL_law_993 : decode cL_law 993 = .ok (.iload 4, 2) := by decide +kernel
theorem dL_law_995 : decode cL_law 995 = .ok (.iconst 1, 1) := by decide +kernel
theorem dL_law_996 : decode cL_law 996 = .ok (.iadd, 1) := by decide +kernel
theorem dL_law_997 : decode cL_law 997 = .ok (.iaload, 1) := by decide +kernel
theorem dL_law_998 : decode cL_law 998 = .ok (.aload_n 3, 1) := by decide +kernel
theorem dL_law_999 : decode cL_law 999 = .ok (.invokestatic 152, 3) := by decide +kernel
theorem dL_law_1002 : decode cL_law 1002 = .ok (.istore 5, 2) := by decide +kernel
theorem dL_law_1004 : decode cL_law 1004 = .ok (.aload_n 2, 1) := by decide +kernel
theorem dL_law_1005 : decode cL_law 1005 = .ok (.aload_n 0, 1) := by decide +kernel
theorem dL_law_1006 : decode cL_law 1006 = .ok (.iload 4, 2) := by decide +kernel
theorem dL_law_1008 : decode cL_law 1008 = .ok (.iconst 1, 1) := by decide +kernel
theorem dL_law_1009 : decode cL_law 1009 = .ok (.iadd, 1) := by decide +kernel
theorem dL_law_1010 : decode cL_law 1010 = .ok (.iaload, 1) := by decide +kernel
theorem dL_law_1011 : decode cL_law 1011 = .ok (.invokevirtual 154, 3) := by decide +kernel
theorem dL_law_1014 : decode cL_law 1014 = .ok (.istore 6, 2) := by decide +kernel
theorem dL_law_1016 : decode cL_law 1016 = .ok (.aload_n 2, 1) := by decide +kernel
theorem dL_law_1017 : decode cL_law 1017 = .ok (.invokevirtual 96, 3) := by decide +kernel
theorem dL_law_1020 : decode cL_law 1020 = .ok (.iload 5, 2) := by decide +kernel
theorem dL_law_1022 : decode cL_law 1022 = .ok (.if_icmp .eq 5, 3) := by decide +kernel
theorem dL_law_1025 : decode cL_law 1025 = .ok (.iconst 0, 1) := by decide +kernel
theorem dL_law_1026 : decode cL_law 1026 = .ok (.ireturn, 1) := by decide +kernel
theorem dL_law_1027 : decode cL_law 1027 = .ok (.iload 5, 2) := by decide +kernel
theorem dL_law_1029 : decode cL_law 1029 = .ok (.ifCond .ne 15, 3) := by decide +kernel
theorem dL_law_1032 : decode cL_law 1032 = .ok (.aload_n 3, 1) := by decide +kernel
theorem dL_law_1033 : decode cL_law 1033 = .ok (.iconst 0, 1) := by decide +kernel
theorem dL_law_1034 : decode cL_law 1034 = .ok (.laload, 1) := by decide +kernel
theorem dL_law_1035 : decode cL_law 1035 = .ok (.iload 6, 2) := by decide +kernel
theorem dL_law_1037 : decode cL_law 1037 = .ok (.i2l, 1) := by decide +kernel
theorem dL_law_1038 : decode cL_law 1038 = .ok (.lcmp, 1) := by decide +kernel
theorem dL_law_1039 : decode cL_law 1039 = .ok (.ifCond .eq 5, 3) := by decide +kernel
theorem dL_law_1042 : decode cL_law 1042 = .ok (.iconst 0, 1) := by decide +kernel
theorem dL_law_1043 : decode cL_law 1043 = .ok (.ireturn, 1) := by decide +kernel
theorem dL_law_1044 : decode cL_law 1044 = .ok (.goto 470, 3) := by decide +kernel
theorem dL_law_1047 : decode cL_law 1047 = .ok (.aload_n 1, 1) := by decide +kernel
theorem dL_law_1048 : decode cL_law 1048 = .ok (.invokevirtual 155, 3) := by decide +kernel
theorem dL_law_1051 : decode cL_law 1051 = .ok (.aload_n 2, 1) := by decide +kernel
theorem dL_law_1052 : decode cL_law 1052 = .ok (.invokevirtual 158, 3) := by decide +kernel
theorem dL_law_1055 : decode cL_law 1055 = .ok (.if_icmp .eq 459, 3) := by decide +kernel
theorem dL_law_1058 : decode cL_law 1058 = .ok (.iconst 0, 1) := by decide +kernel
theorem dL_law_1059 : decode cL_law 1059 = .ok (.ireturn, 1) := by decide +kernel
theorem dL_law_1060 : decode cL_law 1060 = .ok (.aload_n 1, 1) := by decide +kernel
theorem dL_law_1061 : decode cL_law 1061 = .ok (.aload_n 0, 1) := by decide +kernel
theorem dL_law_1062 : decode cL_law 1062 = .ok (.iload 4, 2) := by decide +kernel
theorem dL_law_1064 : decode cL_law 1064 = .ok (.iconst 1, 1) := by decide +kernel
theorem dL_law_1065 : decode cL_law 1065 = .ok (.iadd, 1) := by decide +kernel
theorem dL_law_1066 : decode cL_law 1066 = .ok (.iaload, 1) := by decide +kernel
theorem dL_law_1067 : decode cL_law 1067 = .ok (.aload_n 3, 1) := by decide +kernel
theorem dL_law_1068 : decode cL_law 1068 = .ok (.invokestatic 159, 3) := by decide +kernel
theorem dL_law_1071 : decode cL_law 1071 = .ok (.istore 5, 2) := by decide +kernel
theorem dL_law_1073 : decode cL_law 1073 = .ok (.aload_n 2, 1) := by decide +kernel
theorem dL_law_1074 : decode cL_law 1074 = .ok (.aload_n 0, 1) := by decide +kernel
theorem dL_law_1075 : decode cL_law 1075 = .ok (.iload 4, 2) := by decide +kernel
theorem dL_law_1077 : decode cL_law 1077 = .ok (.iconst 1, 1) := by decide +kernel
theorem dL_law_1078 : decode cL_law 1078 = .ok (.iadd, 1) := by decide +kernel
theorem dL_law_1079 : decode cL_law 1079 = .ok (.iaload, 1) := by decide +kernel
theorem dL_law_1080 : decode cL_law 1080 = .ok (.invokevirtual 161, 3) := by decide +kernel
theorem dL_law_1083 : decode cL_law 1083 = .ok (.istore 6, 2) := by decide +kernel
theorem dL_law_1085 : decode cL_law 1085 = .ok (.aload_n 2, 1) := by decide +kernel
theorem dL_law_1086 : decode cL_law 1086 = .ok (.invokevirtual 96, 3) := by decide +kernel
theorem dL_law_1089 : decode cL_law 1089 = .ok (.iload 5, 2) := by decide +kernel
theorem dL_law_1091 : decode cL_law 1091 = .ok (.if_icmp .eq 5, 3) := by decide +kernel
theorem dL_law_1094 : decode cL_law 1094 = .ok (.iconst 0, 1) := by decide +kernel
theorem dL_law_1095 : decode cL_law 1095 = .ok (.ireturn, 1) := by decide +kernel
theorem dL_law_1096 : decode cL_law 1096 = .ok (.iload 5, 2) := by decide +kernel
theorem dL_law_1098 : decode cL_law 1098 = .ok (.ifCond .ne 15, 3) := by decide +kernel
theorem dL_law_1101 : decode cL_law 1101 = .ok (.aload_n 3, 1) := by decide +kernel
theorem dL_law_1102 : decode cL_law 1102 = .ok (.iconst 0, 1) := by decide +kernel
theorem dL_law_1103 : decode cL_law 1103 = .ok (.laload, 1) := by decide +kernel
theorem dL_law_1104 : decode cL_law 1104 = .ok (.iload 6, 2) := by decide +kernel
theorem dL_law_1106 : decode cL_law 1106 = .ok (.i2l, 1) := by decide +kernel
theorem dL_law_1107 : decode cL_law 1107 = .ok (.lcmp, 1) := by decide +kernel
theorem dL_law_1108 : decode cL_law 1108 = .ok (.ifCond .eq 5, 3) := by decide +kernel
theorem dL_law_1111 : decode cL_law 1111 = .ok (.iconst 0, 1) := by decide +kernel
theorem dL_law_1112 : decode cL_law 1112 = .ok (.ireturn, 1) := by decide +kernel
theorem dL_law_1113 : decode cL_law 1113 = .ok (.goto 401, 3) := by decide +kernel
theorem dL_law_1116 : decode cL_law 1116 = .ok (.aload_n 1, 1) := by decide +kernel
theorem dL_law_1117 : decode cL_law 1117 = .ok (.aload_n 0, 1) := by decide +kernel
theorem dL_law_1118 : decode cL_law 1118 = .ok (.iload 4, 2) := by decide +kernel
theorem dL_law_1120 : decode cL_law 1120 = .ok (.iconst 1, 1) := by decide +kernel
theorem dL_law_1121 : decode cL_law 1121 = .ok (.iadd, 1) := by decide +kernel
theorem dL_law_1122 : decode cL_law 1122 = .ok (.iaload, 1) := by decide +kernel
theorem dL_law_1123 : decode cL_law 1123 = .ok (.aload_n 0, 1) := by decide +kernel
theorem dL_law_1124 : decode cL_law 1124 = .ok (.iload 4, 2) := by decide +kernel
theorem dL_law_1126 : decode cL_law 1126 = .ok (.iconst 2, 1) := by decide +kernel
theorem dL_law_1127 : decode cL_law 1127 = .ok (.iadd, 1) := by decide +kernel
theorem dL_law_1128 : decode cL_law 1128 = .ok (.iaload, 1) := by decide +kernel
theorem dL_law_1129 : decode cL_law 1129 = .ok (.aload_n 3, 1) := by decide +kernel
theorem dL_law_1130 : decode cL_law 1130 = .ok (.invokestatic 162, 3) := by decide +kernel
theorem dL_law_1133 : decode cL_law 1133 = .ok (.istore 5, 2) := by decide +kernel
theorem dL_law_1135 : decode cL_law 1135 = .ok (.aload_n 2, 1) := by decide +kernel
theorem dL_law_1136 : decode cL_law 1136 = .ok (.aload_n 0, 1) := by decide +kernel
theorem dL_law_1137 : decode cL_law 1137 = .ok (.iload 4, 2) := by decide +kernel
theorem dL_law_1139 : decode cL_law 1139 = .ok (.iconst 1, 1) := by decide +kernel
theorem dL_law_1140 : decode cL_law 1140 = .ok (.iadd, 1) := by decide +kernel
theorem dL_law_1141 : decode cL_law 1141 = .ok (.iaload, 1) := by decide +kernel
theorem dL_law_1142 : decode cL_law 1142 = .ok (.aload_n 0, 1) := by decide +kernel
theorem dL_law_1143 : decode cL_law 1143 = .ok (.iload 4, 2) := by decide +kernel
theorem dL_law_1145 : decode cL_law 1145 = .ok (.iconst 2, 1) := by decide +kernel
theorem dL_law_1146 : decode cL_law 1146 = .ok (.iadd, 1) := by decide +kernel
theorem dL_law_1147 : decode cL_law 1147 = .ok (.iaload, 1) := by decide +kernel
theorem dL_law_1148 : decode cL_law 1148 = .ok (.invokevirtual 164, 3) := by decide +kernel
theorem dL_law_1151 : decode cL_law 1151 = .ok (.istore 6, 2) := by decide +kernel
theorem dL_law_1153 : decode cL_law 1153 = .ok (.aload_n 2, 1) := by decide +kernel
theorem dL_law_1154 : decode cL_law 1154 = .ok (.invokevirtual 96, 3) := by decide +kernel
theorem dL_law_1157 : decode cL_law 1157 = .ok (.iload 5, 2) := by decide +kernel
theorem dL_law_1159 : decode cL_law 1159 = .ok (.if_icmp .eq 5, 3) := by decide +kernel
theorem dL_law_1162 : decode cL_law 1162 = .ok (.iconst 0, 1) := by decide +kernel
theorem dL_law_1163 : decode cL_law 1163 = .ok (.ireturn, 1) := by decide +kernel
theorem dL_law_1164 : decode cL_law 1164 = .ok (.iload 5, 2) := by decide +kernel
theorem dL_law_1166 : decode cL_law 1166 = .ok (.ifCond .ne 15, 3) := by decide +kernel
theorem dL_law_1169 : decode cL_law 1169 = .ok (.aload_n 3, 1) := by decide +kernel
theorem dL_law_1170 : decode cL_law 1170 = .ok (.iconst 0, 1) := by decide +kernel
theorem dL_law_1171 : decode cL_law 1171 = .ok (.laload, 1) := by decide +kernel
theorem dL_law_1172 : decode cL_law 1172 = .ok (.iload 6, 2) := by decide +kernel
theorem dL_law_1174 : decode cL_law 1174 = .ok (.i2l, 1) := by decide +kernel
theorem dL_law_1175 : decode cL_law 1175 = .ok (.lcmp, 1) := by decide +kernel
theorem dL_law_1176 : decode cL_law 1176 = .ok (.ifCond .eq 5, 3) := by decide +kernel
theorem dL_law_1179 : decode cL_law 1179 = .ok (.iconst 0, 1) := by decide +kernel
theorem dL_law_1180 : decode cL_law 1180 = .ok (.ireturn, 1) := by decide +kernel
theorem dL_law_1181 : decode cL_law 1181 = .ok (.goto 333, 3) := by decide +kernel
theorem dL_law_1184 : decode cL_law 1184 = .ok (.aload_n 1, 1) := by decide +kernel
theorem dL_law_1185 : decode cL_law 1185 = .ok (.aload_n 0, 1) := by decide +kernel
theorem dL_law_1186 : decode cL_law 1186 = .ok (.iload 4, 2) := by decide +kernel
theorem dL_law_1188 : decode cL_law 1188 = .ok (.iconst 1, 1) := by decide +kernel
theorem dL_law_1189 : decode cL_law 1189 = .ok (.iadd, 1) := by decide +kernel
theorem dL_law_1190 : decode cL_law 1190 = .ok (.iaload, 1) := by decide +kernel
theorem dL_law_1191 : decode cL_law 1191 = .ok (.aload_n 0, 1) := by decide +kernel
theorem dL_law_1192 : decode cL_law 1192 = .ok (.iload 4, 2) := by decide +kernel
theorem dL_law_1194 : decode cL_law 1194 = .ok (.iconst 2, 1) := by decide +kernel
theorem dL_law_1195 : decode cL_law 1195 = .ok (.iadd, 1) := by decide +kernel
theorem dL_law_1196 : decode cL_law 1196 = .ok (.iaload, 1) := by decide +kernel
theorem dL_law_1197 : decode cL_law 1197 = .ok (.aload_n 3, 1) := by decide +kernel
theorem dL_law_1198 : decode cL_law 1198 = .ok (.invokestatic 165, 3) := by decide +kernel
theorem dL_law_1201 : decode cL_law 1201 = .ok (.istore 5, 2) := by decide +kernel
theorem dL_law_1203 : decode cL_law 1203 = .ok (.aload_n 2, 1) := by decide +kernel
theorem dL_law_1204 : decode cL_law 1204 = .ok (.aload_n 0, 1) := by decide +kernel
theorem dL_law_1205 : decode cL_law 1205 = .ok (.iload 4, 2) := by decide +kernel
theorem dL_law_1207 : decode cL_law 1207 = .ok (.iconst 1, 1) := by decide +kernel
theorem dL_law_1208 : decode cL_law 1208 = .ok (.iadd, 1) := by decide +kernel
theorem dL_law_1209 : decode cL_law 1209 = .ok (.iaload, 1) := by decide +kernel
theorem dL_law_1210 : decode cL_law 1210 = .ok (.aload_n 0, 1) := by decide +kernel
theorem dL_law_1211 : decode cL_law 1211 = .ok (.iload 4, 2) := by decide +kernel
theorem dL_law_1213 : decode cL_law 1213 = .ok (.iconst 2, 1) := by decide +kernel
theorem dL_law_1214 : decode cL_law 1214 = .ok (.iadd, 1) := by decide +kernel
theorem dL_law_1215 : decode cL_law 1215 = .ok (.iaload, 1) := by decide +kernel
theorem dL_law_1216 : decode cL_law 1216 = .ok (.invokevirtual 167, 3) := by decide +kernel
theorem dL_law_1219 : decode cL_law 1219 = .ok (.istore 6, 2) := by decide +kernel
theorem dL_law_1221 : decode cL_law 1221 = .ok (.aload_n 2, 1) := by decide +kernel
theorem dL_law_1222 : decode cL_law 1222 = .ok (.invokevirtual 96, 3) := by decide +kernel
theorem dL_law_1225 : decode cL_law 1225 = .ok (.iload 5, 2) := by decide +kernel
theorem dL_law_1227 : decode cL_law 1227 = .ok (.if_icmp .eq 5, 3) := by decide +kernel
theorem dL_law_1230 : decode cL_law 1230 = .ok (.iconst 0, 1) := by decide +kernel
theorem dL_law_1231 : decode cL_law 1231 = .ok (.ireturn, 1) := by decide +kernel
theorem dL_law_1232 : decode cL_law 1232 = .ok (.iload 5, 2) := by decide +kernel
theorem dL_law_1234 : decode cL_law 1234 = .ok (.ifCond .ne 15, 3) := by decide +kernel
theorem dL_law_1237 : decode cL_law 1237 = .ok (.aload_n 3, 1) := by decide +kernel
theorem dL_law_1238 : decode cL_law 1238 = .ok (.iconst 0, 1) := by decide +kernel
theorem dL_law_1239 : decode cL_law 1239 = .ok (.laload, 1) := by decide +kernel
theorem dL_law_1240 : decode cL_law 1240 = .ok (.iload 6, 2) := by decide +kernel
theorem dL_law_1242 : decode cL_law 1242 = .ok (.i2l, 1) := by decide +kernel
theorem dL_law_1243 : decode cL_law 1243 = .ok (.lcmp, 1) := by decide +kernel
theorem dL_law_1244 : decode cL_law 1244 = .ok (.ifCond .eq 5, 3) := by decide +kernel
theorem dL_law_1247 : decode cL_law 1247 = .ok (.iconst 0, 1) := by decide +kernel
theorem dL_law_1248 : decode cL_law 1248 = .ok (.ireturn, 1) := by decide +kernel
theorem dL_law_1249 : decode cL_law 1249 = .ok (.goto 265, 3) := by decide +kernel
theorem dL_law_1252 : decode cL_law 1252 = .ok (.aload_n 1, 1) := by decide +kernel
theorem dL_law_1253 : decode cL_law 1253 = .ok (.invokevirtual 168, 3) := by decide +kernel
theorem dL_law_1256 : decode cL_law 1256 = .ok (.aload_n 2, 1) := by decide +kernel
theorem dL_law_1257 : decode cL_law 1257 = .ok (.invokevirtual 171, 3) := by decide +kernel
theorem dL_law_1260 : decode cL_law 1260 = .ok (.if_icmp .eq 254, 3) := by decide +kernel
theorem dL_law_1263 : decode cL_law 1263 = .ok (.iconst 0, 1) := by decide +kernel
theorem dL_law_1264 : decode cL_law 1264 = .ok (.ireturn, 1) := by decide +kernel
theorem dL_law_1265 : decode cL_law 1265 = .ok (.aload_n 1, 1) := by decide +kernel
theorem dL_law_1266 : decode cL_law 1266 = .ok (.invokevirtual 172, 3) := by decide +kernel
theorem dL_law_1269 : decode cL_law 1269 = .ok (.aload_n 2, 1) := by decide +kernel
theorem dL_law_1270 : decode cL_law 1270 = .ok (.invokevirtual 175, 3) := by decide +kernel
theorem dL_law_1273 : decode cL_law 1273 = .ok (.if_icmp .eq 241, 3) := by decide +kernel
theorem dL_law_1276 : decode cL_law 1276 = .ok (.iconst 0, 1) := by decide +kernel
theorem dL_law_1277 : decode cL_law 1277 = .ok (.ireturn, 1) := by decide +kernel
theorem dL_law_1278 : decode cL_law 1278 = .ok (.aload_n 1, 1) := by decide +kernel
theorem dL_law_1279 : decode cL_law 1279 = .ok (.aload_n 0, 1) := by decide +kernel
theorem dL_law_1280 : decode cL_law 1280 = .ok (.iload 4, 2) := by decide +kernel
theorem dL_law_1282 : decode cL_law 1282 = .ok (.iconst 1, 1) := by decide +kernel
theorem dL_law_1283 : decode cL_law 1283 = .ok (.iadd, 1) := by decide +kernel
theorem dL_law_1284 : decode cL_law 1284 = .ok (.iaload, 1) := by decide +kernel
theorem dL_law_1285 : decode cL_law 1285 = .ok (.aload_n 0, 1) := by decide +kernel
theorem dL_law_1286 : decode cL_law 1286 = .ok (.iload 4, 2) := by decide +kernel
theorem dL_law_1288 : decode cL_law 1288 = .ok (.iconst 2, 1) := by decide +kernel
theorem dL_law_1289 : decode cL_law 1289 = .ok (.iadd, 1) := by decide +kernel
theorem dL_law_1290 : decode cL_law 1290 = .ok (.iaload, 1) := by decide +kernel
theorem dL_law_1291 : decode cL_law 1291 = .ok (.aload_n 3, 1) := by decide +kernel
theorem dL_law_1292 : decode cL_law 1292 = .ok (.invokestatic 176, 3) := by decide +kernel
theorem dL_law_1295 : decode cL_law 1295 = .ok (.istore 5, 2) := by decide +kernel
theorem dL_law_1297 : decode cL_law 1297 = .ok (.aload_n 2, 1) := by decide +kernel
theorem dL_law_1298 : decode cL_law 1298 = .ok (.aload_n 0, 1) := by decide +kernel
theorem dL_law_1299 : decode cL_law 1299 = .ok (.iload 4, 2) := by decide +kernel
theorem dL_law_1301 : decode cL_law 1301 = .ok (.iconst 1, 1) := by decide +kernel
theorem dL_law_1302 : decode cL_law 1302 = .ok (.iadd, 1) := by decide +kernel
theorem dL_law_1303 : decode cL_law 1303 = .ok (.iaload, 1) := by decide +kernel
theorem dL_law_1304 : decode cL_law 1304 = .ok (.aload_n 0, 1) := by decide +kernel
theorem dL_law_1305 : decode cL_law 1305 = .ok (.iload 4, 2) := by decide +kernel
theorem dL_law_1307 : decode cL_law 1307 = .ok (.iconst 2, 1) := by decide +kernel
theorem dL_law_1308 : decode cL_law 1308 = .ok (.iadd, 1) := by decide +kernel
theorem dL_law_1309 : decode cL_law 1309 = .ok (.iaload, 1) := by decide +kernel
theorem dL_law_1310 : decode cL_law 1310 = .ok (.invokevirtual 178, 3) := by decide +kernel
theorem dL_law_1313 : decode cL_law 1313 = .ok (.istore 6, 2) := by decide +kernel
theorem dL_law_1315 : decode cL_law 1315 = .ok (.aload_n 2, 1) := by decide +kernel
theorem dL_law_1316 : decode cL_law 1316 = .ok (.invokevirtual 96, 3) := by decide +kernel
theorem dL_law_1319 : decode cL_law 1319 = .ok (.iload 5, 2) := by decide +kernel
theorem dL_law_1321 : decode cL_law 1321 = .ok (.if_icmp .eq 5, 3) := by decide +kernel
theorem dL_law_1324 : decode cL_law 1324 = .ok (.iconst 0, 1) := by decide +kernel
theorem dL_law_1325 : decode cL_law 1325 = .ok (.ireturn, 1) := by decide +kernel
theorem dL_law_1326 : decode cL_law 1326 = .ok (.iload 5, 2) := by decide +kernel
theorem dL_law_1328 : decode cL_law 1328 = .ok (.ifCond .ne 15, 3) := by decide +kernel
theorem dL_law_1331 : decode cL_law 1331 = .ok (.aload_n 3, 1) := by decide +kernel
theorem dL_law_1332 : decode cL_law 1332 = .ok (.iconst 0, 1) := by decide +kernel
theorem dL_law_1333 : decode cL_law 1333 = .ok (.laload, 1) := by decide +kernel
theorem dL_law_1334 : decode cL_law 1334 = .ok (.iload 6, 2) := by decide +kernel
theorem dL_law_1336 : decode cL_law 1336 = .ok (.i2l, 1) := by decide +kernel
theorem dL_law_1337 : decode cL_law 1337 = .ok (.lcmp, 1) := by decide +kernel
theorem dL_law_1338 : decode cL_law 1338 = .ok (.ifCond .eq 5, 3) := by decide +kernel
theorem dL_law_1341 : decode cL_law 1341 = .ok (.iconst 0, 1) := by decide +kernel
theorem dL_law_1342 : decode cL_law 1342 = .ok (.ireturn, 1) := by decide +kernel
theorem dL_law_1343 : decode cL_law 1343 = .ok (.goto 171, 3) := by decide +kernel
theorem dL_law_1346 : decode cL_law 1346 = .ok (.aload_n 1, 1) := by decide +kernel
theorem dL_law_1347 : decode cL_law 1347 = .ok (.aload_n 0, 1) := by decide +kernel
theorem dL_law_1348 : decode cL_law 1348 = .ok (.iload 4, 2) := by decide +kernel
theorem dL_law_1350 : decode cL_law 1350 = .ok (.iconst 1, 1) := by decide +kernel
theorem dL_law_1351 : decode cL_law 1351 = .ok (.iadd, 1) := by decide +kernel
theorem dL_law_1352 : decode cL_law 1352 = .ok (.iaload, 1) := by decide +kernel
theorem dL_law_1353 : decode cL_law 1353 = .ok (.aload_n 3, 1) := by decide +kernel
theorem dL_law_1354 : decode cL_law 1354 = .ok (.invokestatic 179, 3) := by decide +kernel
theorem dL_law_1357 : decode cL_law 1357 = .ok (.istore 5, 2) := by decide +kernel
theorem dL_law_1359 : decode cL_law 1359 = .ok (.aload_n 2, 1) := by decide +kernel
theorem dL_law_1360 : decode cL_law 1360 = .ok (.aload_n 0, 1) := by decide +kernel
theorem dL_law_1361 : decode cL_law 1361 = .ok (.iload 4, 2) := by decide +kernel
theorem dL_law_1363 : decode cL_law 1363 = .ok (.iconst 1, 1) := by decide +kernel
theorem dL_law_1364 : decode cL_law 1364 = .ok (.iadd, 1) := by decide +kernel
theorem dL_law_1365 : decode cL_law 1365 = .ok (.iaload, 1) := by decide +kernel
theorem dL_law_1366 : decode cL_law 1366 = .ok (.invokevirtual 181, 3) := by decide +kernel
theorem dL_law_1369 : decode cL_law 1369 = .ok (.istore 6, 2) := by decide +kernel
theorem dL_law_1371 : decode cL_law 1371 = .ok (.aload_n 2, 1) := by decide +kernel
theorem dL_law_1372 : decode cL_law 1372 = .ok (.invokevirtual 96, 3) := by decide +kernel
theorem dL_law_1375 : decode cL_law 1375 = .ok (.iload 5, 2) := by decide +kernel
theorem dL_law_1377 : decode cL_law 1377 = .ok (.if_icmp .eq 5, 3) := by decide +kernel
theorem dL_law_1380 : decode cL_law 1380 = .ok (.iconst 0, 1) := by decide +kernel
theorem dL_law_1381 : decode cL_law 1381 = .ok (.ireturn, 1) := by decide +kernel
theorem dL_law_1382 : decode cL_law 1382 = .ok (.iload 5, 2) := by decide +kernel
theorem dL_law_1384 : decode cL_law 1384 = .ok (.ifCond .ne 15, 3) := by decide +kernel
theorem dL_law_1387 : decode cL_law 1387 = .ok (.aload_n 3, 1) := by decide +kernel
theorem dL_law_1388 : decode cL_law 1388 = .ok (.iconst 0, 1) := by decide +kernel
theorem dL_law_1389 : decode cL_law 1389 = .ok (.laload, 1) := by decide +kernel
theorem dL_law_1390 : decode cL_law 1390 = .ok (.iload 6, 2) := by decide +kernel
theorem dL_law_1392 : decode cL_law 1392 = .ok (.i2l, 1) := by decide +kernel
theorem dL_law_1393 : decode cL_law 1393 = .ok (.lcmp, 1) := by decide +kernel
theorem dL_law_1394 : decode cL_law 1394 = .ok (.ifCond .eq 5, 3) := by decide +kernel
theorem dL_law_1397 : decode cL_law 1397 = .ok (.iconst 0, 1) := by decide +kernel
theorem dL_law_1398 : decode cL_law 1398 = .ok (.ireturn, 1) := by decide +kernel
theorem dL_law_1399 : decode cL_law 1399 = .ok (.goto 115, 3) := by decide +kernel
theorem dL_law_1402 : decode cL_law 1402 = .ok (.aload_n 1, 1) := by decide +kernel
theorem dL_law_1403 : decode cL_law 1403 = .ok (.aload_n 0, 1) := by decide +kernel
theorem dL_law_1404 : decode cL_law 1404 = .ok (.iload 4, 2) := by decide +kernel
theorem dL_law_1406 : decode cL_law 1406 = .ok (.iconst 1, 1) := by decide +kernel
theorem dL_law_1407 : decode cL_law 1407 = .ok (.iadd, 1) := by decide +kernel
theorem dL_law_1408 : decode cL_law 1408 = .ok (.iaload, 1) := by decide +kernel
theorem dL_law_1409 : decode cL_law 1409 = .ok (.aload_n 3, 1) := by decide +kernel
theorem dL_law_1410 : decode cL_law 1410 = .ok (.invokestatic 182, 3) := by decide +kernel
theorem dL_law_1413 : decode cL_law 1413 = .ok (.istore 5, 2) := by decide +kernel
theorem dL_law_1415 : decode cL_law 1415 = .ok (.aload_n 2, 1) := by decide +kernel
theorem dL_law_1416 : decode cL_law 1416 = .ok (.aload_n 0, 1) := by decide +kernel
theorem dL_law_1417 : decode cL_law 1417 = .ok (.iload 4, 2) := by decide +kernel
theorem dL_law_1419 : decode cL_law 1419 = .ok (.iconst 1, 1) := by decide +kernel
theorem dL_law_1420 : decode cL_law 1420 = .ok (.iadd, 1) := by decide +kernel
theorem dL_law_1421 : decode cL_law 1421 = .ok (.iaload, 1) := by decide +kernel
theorem dL_law_1422 : decode cL_law 1422 = .ok (.invokevirtual 184, 3) := by decide +kernel
theorem dL_law_1425 : decode cL_law 1425 = .ok (.istore 6, 2) := by decide +kernel
theorem dL_law_1427 : decode cL_law 1427 = .ok (.aload_n 2, 1) := by decide +kernel
theorem dL_law_1428 : decode cL_law 1428 = .ok (.invokevirtual 96, 3) := by decide +kernel
theorem dL_law_1431 : decode cL_law 1431 = .ok (.iload 5, 2) := by decide +kernel
theorem dL_law_1433 : decode cL_law 1433 = .ok (.if_icmp .eq 5, 3) := by decide +kernel
theorem dL_law_1436 : decode cL_law 1436 = .ok (.iconst 0, 1) := by decide +kernel
theorem dL_law_1437 : decode cL_law 1437 = .ok (.ireturn, 1) := by decide +kernel
theorem dL_law_1438 : decode cL_law 1438 = .ok (.iload 5, 2) := by decide +kernel
theorem dL_law_1440 : decode cL_law 1440 = .ok (.ifCond .ne 15, 3) := by decide +kernel
theorem dL_law_1443 : decode cL_law 1443 = .ok (.aload_n 3, 1) := by decide +kernel
theorem dL_law_1444 : decode cL_law 1444 = .ok (.iconst 0, 1) := by decide +kernel
theorem dL_law_1445 : decode cL_law 1445 = .ok (.laload, 1) := by decide +kernel
theorem dL_law_1446 : decode cL_law 1446 = .ok (.iload 6, 2) := by decide +kernel
theorem dL_law_1448 : decode cL_law 1448 = .ok (.i2l, 1) := by decide +kernel
theorem dL_law_1449 : decode cL_law 1449 = .ok (.lcmp, 1) := by decide +kernel
theorem dL_law_1450 : decode cL_law 1450 = .ok (.ifCond .eq 5, 3) := by decide +kernel
theorem dL_law_1453 : decode cL_law 1453 = .ok (.iconst 0, 1) := by decide +kernel
theorem dL_law_1454 : decode cL_law 1454 = .ok (.ireturn, 1) := by decide +kernel
theorem dL_law_1455 : decode cL_law 1455 = .ok (.goto 59, 3) := by decide +kernel
theorem dL_law_1458 : decode cL_law 1458 = .ok (.aload_n 1, 1) := by decide +kernel
theorem dL_law_1459 : decode cL_law 1459 = .ok (.aload_n 0, 1) := by decide +kernel
theorem dL_law_1460 : decode cL_law 1460 = .ok (.iload 4, 2) := by decide +kernel
theorem dL_law_1462 : decode cL_law 1462 = .ok (.iconst 1, 1) := by decide +kernel
theorem dL_law_1463 : decode cL_law 1463 = .ok (.iadd, 1) := by decide +kernel
theorem dL_law_1464 : decode cL_law 1464 = .ok (.iaload, 1) := by decide +kernel
theorem dL_law_1465 : decode cL_law 1465 = .ok (.aload_n 3, 1) := by decide +kernel
theorem dL_law_1466 : decode cL_law 1466 = .ok (.invokestatic 185, 3) := by decide +kernel
theorem dL_law_1469 : decode cL_law 1469 = .ok (.istore 5, 2) := by decide +kernel
theorem dL_law_1471 : decode cL_law 1471 = .ok (.aload_n 2, 1) := by decide +kernel
theorem dL_law_1472 : decode cL_law 1472 = .ok (.aload_n 0, 1) := by decide +kernel
theorem dL_law_1473 : decode cL_law 1473 = .ok (.iload 4, 2) := by decide +kernel
theorem dL_law_1475 : decode cL_law 1475 = .ok (.iconst 1, 1) := by decide +kernel
theorem dL_law_1476 : decode cL_law 1476 = .ok (.iadd, 1) := by decide +kernel
theorem dL_law_1477 : decode cL_law 1477 = .ok (.iaload, 1) := by decide +kernel
theorem dL_law_1478 : decode cL_law 1478 = .ok (.invokevirtual 187, 3) := by decide +kernel
theorem dL_law_1481 : decode cL_law 1481 = .ok (.istore 6, 2) := by decide +kernel
theorem dL_law_1483 : decode cL_law 1483 = .ok (.aload_n 2, 1) := by decide +kernel
theorem dL_law_1484 : decode cL_law 1484 = .ok (.invokevirtual 96, 3) := by decide +kernel
theorem dL_law_1487 : decode cL_law 1487 = .ok (.iload 5, 2) := by decide +kernel
theorem dL_law_1489 : decode cL_law 1489 = .ok (.if_icmp .eq 5, 3) := by decide +kernel
theorem dL_law_1492 : decode cL_law 1492 = .ok (.iconst 0, 1) := by decide +kernel
theorem dL_law_1493 : decode cL_law 1493 = .ok (.ireturn, 1) := by decide +kernel
theorem dL_law_1494 : decode cL_law 1494 = .ok (.iload 5, 2) := by decide +kernel
theorem dL_law_1496 : decode cL_law 1496 = .ok (.ifCond .ne 15, 3) := by decide +kernel
theorem dL_law_1499 : decode cL_law 1499 = .ok (.aload_n 3, 1) := by decide +kernel
theorem dL_law_1500 : decode cL_law 1500 = .ok (.iconst 0, 1) := by decide +kernel
theorem dL_law_1501 : decode cL_law 1501 = .ok (.laload, 1) := by decide +kernel
theorem dL_law_1502 : decode cL_law 1502 = .ok (.iload 6, 2) := by decide +kernel
theorem dL_law_1504 : decode cL_law 1504 = .ok (.i2l, 1) := by decide +kernel
theorem dL_law_1505 : decode cL_law 1505 = .ok (.lcmp, 1) := by decide +kernel
theorem dL_law_1506 : decode cL_law 1506 = .ok (.ifCond .eq 5, 3) := by decide +kernel
theorem dL_law_1509 : decode cL_law 1509 = .ok (.iconst 0, 1) := by decide +kernel
theorem dL_law_1510 : decode cL_law 1510 = .ok (.ireturn, 1) := by decide +kernel
theorem dL_law_1511 : decode cL_law 1511 = .ok (.goto 3, 3) := by decide +kernel
theorem dL_law_1514 : decode cL_law 1514 = .ok (.iinc 4 6, 3) := by decide +kernel
theorem dL_law_1517 : decode cL_law 1517 = .ok (.goto (-1494), 3) := by decide +kernel
theorem dL_law_1520 : decode cL_law 1520 = .ok (.iconst 1, 1) := by decide +kernel
theorem dL_law_1521 : decode cL_law 1521 = .ok (.ireturn, 1) := by decide +kernel
end
