abbrev Y_X0_init : z_Y := (yX0_init, cX0_init, 1, none, 1, 24)
theorem z_dc_X0_init : Y_X0_init.1.cls ≠ "java/lang/invoke/MethodHandle" ∧ Y_X0_init.1.cls ≠ "java/lang/invoke/VarHandle" ∧ (parseMethodDescriptor Y_X0_init.1.desc).map (fun d => d.parameters.length) = some 0 := by decide +kernel
abbrev Y_X0_addRange : z_Y := (yX0_addRange, cX0_addRange, 3, none, 0, 0)
theorem z_dc_X0_addRange : Y_X0_addRange.1.cls ≠ "java/lang/invoke/MethodHandle" ∧ Y_X0_addRange.1.cls ≠ "java/lang/invoke/VarHandle" ∧ (parseMethodDescriptor Y_X0_addRange.1.desc).map (fun d => d.parameters.length) = some 2 := by decide +kernel
abbrev Y_X0_greatest : z_Y := (yX0_greatest, cX0_greatest, 1, (some .int), 0, 0)
theorem z_dc_X0_greatest : Y_X0_greatest.1.cls ≠ "java/lang/invoke/MethodHandle" ∧ Y_X0_greatest.1.cls ≠ "java/lang/invoke/VarHandle" ∧ (parseMethodDescriptor Y_X0_greatest.1.desc).map (fun d => d.parameters.length) = some 0 := by decide +kernel
abbrev Y_X1_init : z_Y := (yX1_init, cX1_init, 3, none, 3, 65)
theorem z_dc_X1_init : Y_X1_init.1.cls ≠ "java/lang/invoke/MethodHandle" ∧ Y_X1_init.1.cls ≠ "java/lang/invoke/VarHandle" ∧ (parseMethodDescriptor Y_X1_init.1.desc).map (fun d => d.parameters.length) = some 2 := by decide +kernel
abbrev Y_X1_routeOf : z_Y := (yX1_routeOf, cX1_routeOf, 2, (some (.object "Tidewater$Route")), 0, 0)
theorem z_dc_X1_routeOf : Y_X1_routeOf.1.cls ≠ "java/lang/invoke/MethodHandle" ∧ Y_X1_routeOf.1.cls ≠ "java/lang/invoke/VarHandle" ∧ (parseMethodDescriptor Y_X1_routeOf.1.desc).map (fun d => d.parameters.length) = some 1 := by decide +kernel
abbrev Y_X1_packetAt : z_Y := (yX1_packetAt, cX1_packetAt, 2, (some (.object "Tidewater$Packet")), 0, 0)
theorem z_dc_X1_packetAt : Y_X1_packetAt.1.cls ≠ "java/lang/invoke/MethodHandle" ∧ Y_X1_packetAt.1.cls ≠ "java/lang/invoke/VarHandle" ∧ (parseMethodDescriptor Y_X1_packetAt.1.desc).map (fun d => d.parameters.length) = some 1 := by decide +kernel
abbrev Y_X1_beginHello : z_Y := (yX1_beginHello, cX1_beginHello, 2, none, 4, 85)
theorem z_dc_X1_beginHello : Y_X1_beginHello.1.cls ≠ "java/lang/invoke/MethodHandle" ∧ Y_X1_beginHello.1.cls ≠ "java/lang/invoke/VarHandle" ∧ (parseMethodDescriptor Y_X1_beginHello.1.desc).map (fun d => d.parameters.length) = some 1 := by decide +kernel
abbrev Y_X1_sayHello : z_Y := (yX1_sayHello, cX1_sayHello, 2, none, 3, 64)
theorem z_dc_X1_sayHello : Y_X1_sayHello.1.cls ≠ "java/lang/invoke/MethodHandle" ∧ Y_X1_sayHello.1.cls ≠ "java/lang/invoke/VarHandle" ∧ (parseMethodDescriptor Y_X1_sayHello.1.desc).map (fun d => d.parameters.length) = some 0 := by decide +kernel
abbrev Y_X1_canChangeKey : z_Y := (yX1_canChangeKey, cX1_canChangeKey, 4, (some .boolean), 1, 21)
theorem z_dc_X1_canChangeKey : Y_X1_canChangeKey.1.cls ≠ "java/lang/invoke/MethodHandle" ∧ Y_X1_canChangeKey.1.cls ≠ "java/lang/invoke/VarHandle" ∧ (parseMethodDescriptor Y_X1_canChangeKey.1.desc).map (fun d => d.parameters.length) = some 0 := by decide +kernel
abbrev Y_X1_isAcknowledged : z_Y := (yX1_isAcknowledged, cX1_isAcknowledged, 1, (some .boolean), 0, 0)
theorem z_dc_X1_isAcknowledged : Y_X1_isAcknowledged.1.cls ≠ "java/lang/invoke/MethodHandle" ∧ Y_X1_isAcknowledged.1.cls ≠ "java/lang/invoke/VarHandle" ∧ (parseMethodDescriptor Y_X1_isAcknowledged.1.desc).map (fun d => d.parameters.length) = some 1 := by decide +kernel
abbrev Y_X1_beginClosing : z_Y := (yX1_beginClosing, cX1_beginClosing, 1, none, 3, 64)
theorem z_dc_X1_beginClosing : Y_X1_beginClosing.1.cls ≠ "java/lang/invoke/MethodHandle" ∧ Y_X1_beginClosing.1.cls ≠ "java/lang/invoke/VarHandle" ∧ (parseMethodDescriptor Y_X1_beginClosing.1.desc).map (fun d => d.parameters.length) = some 0 := by decide +kernel
abbrev Y_X1_hearAll : z_Y := (yX1_hearAll, cX1_hearAll, 3, none, 6, 147)
theorem z_dc_X1_hearAll : Y_X1_hearAll.1.cls ≠ "java/lang/invoke/MethodHandle" ∧ Y_X1_hearAll.1.cls ≠ "java/lang/invoke/VarHandle" ∧ (parseMethodDescriptor Y_X1_hearAll.1.desc).map (fun d => d.parameters.length) = some 0 := by decide +kernel
abbrev Y_X1_hear : z_Y := (yX1_hear, cX1_hear, 3, none, 5, 125)
theorem z_dc_X1_hear : Y_X1_hear.1.cls ≠ "java/lang/invoke/MethodHandle" ∧ Y_X1_hear.1.cls ≠ "java/lang/invoke/VarHandle" ∧ (parseMethodDescriptor Y_X1_hear.1.desc).map (fun d => d.parameters.length) = some 1 := by decide +kernel
abbrev Y_X1_hearAccept : z_Y := (yX1_hearAccept, cX1_hearAccept, 4, none, 3, 69)
theorem z_dc_X1_hearAccept : Y_X1_hearAccept.1.cls ≠ "java/lang/invoke/MethodHandle" ∧ Y_X1_hearAccept.1.cls ≠ "java/lang/invoke/VarHandle" ∧ (parseMethodDescriptor Y_X1_hearAccept.1.desc).map (fun d => d.parameters.length) = some 1 := by decide +kernel
abbrev Y_X1_leaveFlight : z_Y := (yX1_leaveFlight, cX1_leaveFlight, 3, none, 2, 47)
theorem z_dc_X1_leaveFlight : Y_X1_leaveFlight.1.cls ≠ "java/lang/invoke/MethodHandle" ∧ Y_X1_leaveFlight.1.cls ≠ "java/lang/invoke/VarHandle" ∧ (parseMethodDescriptor Y_X1_leaveFlight.1.desc).map (fun d => d.parameters.length) = some 2 := by decide +kernel
abbrev Y_X1_hearAck : z_Y := (yX1_hearAck, cX1_hearAck, 6, none, 4, 100)
theorem z_dc_X1_hearAck : Y_X1_hearAck.1.cls ≠ "java/lang/invoke/MethodHandle" ∧ Y_X1_hearAck.1.cls ≠ "java/lang/invoke/VarHandle" ∧ (parseMethodDescriptor Y_X1_hearAck.1.desc).map (fun d => d.parameters.length) = some 1 := by decide +kernel
abbrev Y_X1_hearOfGreatest : z_Y := (yX1_hearOfGreatest, cX1_hearOfGreatest, 5, none, 2, 48)
theorem z_dc_X1_hearOfGreatest : Y_X1_hearOfGreatest.1.cls ≠ "java/lang/invoke/MethodHandle" ∧ Y_X1_hearOfGreatest.1.cls ≠ "java/lang/invoke/VarHandle" ∧ (parseMethodDescriptor Y_X1_hearOfGreatest.1.desc).map (fun d => d.parameters.length) = some 3 := by decide +kernel
abbrev Y_X1_acknowledge : z_Y := (yX1_acknowledge, cX1_acknowledge, 4, none, 3, 77)
theorem z_dc_X1_acknowledge : Y_X1_acknowledge.1.cls ≠ "java/lang/invoke/MethodHandle" ∧ Y_X1_acknowledge.1.cls ≠ "java/lang/invoke/VarHandle" ∧ (parseMethodDescriptor Y_X1_acknowledge.1.desc).map (fun d => d.parameters.length) = some 1 := by decide +kernel
abbrev Y_X1_takeCredits : z_Y := (yX1_takeCredits, cX1_takeCredits, 3, none, 1, 24)
theorem z_dc_X1_takeCredits : Y_X1_takeCredits.1.cls ≠ "java/lang/invoke/MethodHandle" ∧ Y_X1_takeCredits.1.cls ≠ "java/lang/invoke/VarHandle" ∧ (parseMethodDescriptor Y_X1_takeCredits.1.desc).map (fun d => d.parameters.length) = some 1 := by decide +kernel
abbrev Y_X1_findLosses : z_Y := (yX1_findLosses, cX1_findLosses, 6, none, 3, 69)
theorem z_dc_X1_findLosses : Y_X1_findLosses.1.cls ≠ "java/lang/invoke/MethodHandle" ∧ Y_X1_findLosses.1.cls ≠ "java/lang/invoke/VarHandle" ∧ (parseMethodDescriptor Y_X1_findLosses.1.desc).map (fun d => d.parameters.length) = some 2 := by decide +kernel
abbrev Y_X1_lowestInFlight : z_Y := (yX1_lowestInFlight, cX1_lowestInFlight, 5, (some (.object "Tidewater$Packet")), 1, 21)
theorem z_dc_X1_lowestInFlight : Y_X1_lowestInFlight.1.cls ≠ "java/lang/invoke/MethodHandle" ∧ Y_X1_lowestInFlight.1.cls ≠ "java/lang/invoke/VarHandle" ∧ (parseMethodDescriptor Y_X1_lowestInFlight.1.desc).map (fun d => d.parameters.length) = some 1 := by decide +kernel
abbrev Y_X1_lookAfter : z_Y := (yX1_lookAfter, cX1_lookAfter, 1, none, 5, 113)
theorem z_dc_X1_lookAfter : Y_X1_lookAfter.1.cls ≠ "java/lang/invoke/MethodHandle" ∧ Y_X1_lookAfter.1.cls ≠ "java/lang/invoke/VarHandle" ∧ (parseMethodDescriptor Y_X1_lookAfter.1.desc).map (fun d => d.parameters.length) = some 0 := by decide +kernel
abbrev Y_X1_probeInTime : z_Y := (yX1_probeInTime, cX1_probeInTime, 3, none, 4, 91)
theorem z_dc_X1_probeInTime : Y_X1_probeInTime.1.cls ≠ "java/lang/invoke/MethodHandle" ∧ Y_X1_probeInTime.1.cls ≠ "java/lang/invoke/VarHandle" ∧ (parseMethodDescriptor Y_X1_probeInTime.1.desc).map (fun d => d.parameters.length) = some 1 := by decide +kernel
abbrev Y_X1_sendData : z_Y := (yX1_sendData, cX1_sendData, 3, none, 5, 116)
theorem z_dc_X1_sendData : Y_X1_sendData.1.cls ≠ "java/lang/invoke/MethodHandle" ∧ Y_X1_sendData.1.cls ≠ "java/lang/invoke/VarHandle" ∧ (parseMethodDescriptor Y_X1_sendData.1.desc).map (fun d => d.parameters.length) = some 0 := by decide +kernel
abbrev Y_X1_routeToSend : z_Y := (yX1_routeToSend, cX1_routeToSend, 3, (some (.object "Tidewater$Route")), 3, 66)
theorem z_dc_X1_routeToSend : Y_X1_routeToSend.1.cls ≠ "java/lang/invoke/MethodHandle" ∧ Y_X1_routeToSend.1.cls ≠ "java/lang/invoke/VarHandle" ∧ (parseMethodDescriptor Y_X1_routeToSend.1.desc).map (fun d => d.parameters.length) = some 0 := by decide +kernel
abbrev Y_X1_sendLost : z_Y := (yX1_sendLost, cX1_sendLost, 4, (some .boolean), 4, 91)
theorem z_dc_X1_sendLost : Y_X1_sendLost.1.cls ≠ "java/lang/invoke/MethodHandle" ∧ Y_X1_sendLost.1.cls ≠ "java/lang/invoke/VarHandle" ∧ (parseMethodDescriptor Y_X1_sendLost.1.desc).map (fun d => d.parameters.length) = some 1 := by decide +kernel
abbrev Y_X1_sendNew : z_Y := (yX1_sendNew, cX1_sendNew, 6, (some .boolean), 4, 91)
theorem z_dc_X1_sendNew : Y_X1_sendNew.1.cls ≠ "java/lang/invoke/MethodHandle" ∧ Y_X1_sendNew.1.cls ≠ "java/lang/invoke/VarHandle" ∧ (parseMethodDescriptor Y_X1_sendNew.1.desc).map (fun d => d.parameters.length) = some 1 := by decide +kernel
abbrev Y_X1_sendPacket : z_Y := (yX1_sendPacket, cX1_sendPacket, 8, none, 3, 64)
theorem z_dc_X1_sendPacket : Y_X1_sendPacket.1.cls ≠ "java/lang/invoke/MethodHandle" ∧ Y_X1_sendPacket.1.cls ≠ "java/lang/invoke/VarHandle" ∧ (parseMethodDescriptor Y_X1_sendPacket.1.desc).map (fun d => d.parameters.length) = some 5 := by decide +kernel
abbrev Y_X2_init : z_Y := (yX2_init, cX2_init, 1, none, 1, 24)
theorem z_dc_X2_init : Y_X2_init.1.cls ≠ "java/lang/invoke/MethodHandle" ∧ Y_X2_init.1.cls ≠ "java/lang/invoke/VarHandle" ∧ (parseMethodDescriptor Y_X2_init.1.desc).map (fun d => d.parameters.length) = some 0 := by decide +kernel
abbrev Y_X2_grow : z_Y := (yX2_grow, cX2_grow, 5, none, 2, 53)
theorem z_dc_X2_grow : Y_X2_grow.1.cls ≠ "java/lang/invoke/MethodHandle" ∧ Y_X2_grow.1.cls ≠ "java/lang/invoke/VarHandle" ∧ (parseMethodDescriptor Y_X2_grow.1.desc).map (fun d => d.parameters.length) = some 4 := by decide +kernel
abbrev Y_X2_cubeStep : z_Y := (yX2_cubeStep, cX2_cubeStep, 10, (some .int), 1, 24)
theorem z_dc_X2_cubeStep : Y_X2_cubeStep.1.cls ≠ "java/lang/invoke/MethodHandle" ∧ Y_X2_cubeStep.1.cls ≠ "java/lang/invoke/VarHandle" ∧ (parseMethodDescriptor Y_X2_cubeStep.1.desc).map (fun d => d.parameters.length) = some 1 := by decide +kernel
abbrev Y_X2_keepRate : z_Y := (yX2_keepRate, cX2_keepRate, 2, none, 0, 0)
theorem z_dc_X2_keepRate : Y_X2_keepRate.1.cls ≠ "java/lang/invoke/MethodHandle" ∧ Y_X2_keepRate.1.cls ≠ "java/lang/invoke/VarHandle" ∧ (parseMethodDescriptor Y_X2_keepRate.1.desc).map (fun d => d.parameters.length) = some 1 := by decide +kernel
abbrev Y_X2_greatestRate : z_Y := (yX2_greatestRate, cX2_greatestRate, 6, (some .int), 1, 24)
theorem z_dc_X2_greatestRate : Y_X2_greatestRate.1.cls ≠ "java/lang/invoke/MethodHandle" ∧ Y_X2_greatestRate.1.cls ≠ "java/lang/invoke/VarHandle" ∧ (parseMethodDescriptor Y_X2_greatestRate.1.desc).map (fun d => d.parameters.length) = some 0 := by decide +kernel
abbrev Y_X2_harm : z_Y := (yX2_harm, cX2_harm, 5, none, 1, 24)
theorem z_dc_X2_harm : Y_X2_harm.1.cls ≠ "java/lang/invoke/MethodHandle" ∧ Y_X2_harm.1.cls ≠ "java/lang/invoke/VarHandle" ∧ (parseMethodDescriptor Y_X2_harm.1.desc).map (fun d => d.parameters.length) = some 4 := by decide +kernel
abbrev Y_X2_takeBackHarm : z_Y := (yX2_takeBackHarm, cX2_takeBackHarm, 2, none, 1, 24)
theorem z_dc_X2_takeBackHarm : Y_X2_takeBackHarm.1.cls ≠ "java/lang/invoke/MethodHandle" ∧ Y_X2_takeBackHarm.1.cls ≠ "java/lang/invoke/VarHandle" ∧ (parseMethodDescriptor Y_X2_takeBackHarm.1.desc).map (fun d => d.parameters.length) = some 1 := by decide +kernel
abbrev Y_X3_init : z_Y := (yX3_init, cX3_init, 1, none, 1, 24)
theorem z_dc_X3_init : Y_X3_init.1.cls ≠ "java/lang/invoke/MethodHandle" ∧ Y_X3_init.1.cls ≠ "java/lang/invoke/VarHandle" ∧ (parseMethodDescriptor Y_X3_init.1.desc).map (fun d => d.parameters.length) = some 0 := by decide +kernel
abbrev Y_X3_letsToServer : z_Y := (yX3_letsToServer, cX3_letsToServer, 1, (some .boolean), 1, 20)
theorem z_dc_X3_letsToServer : Y_X3_letsToServer.1.cls ≠ "java/lang/invoke/MethodHandle" ∧ Y_X3_letsToServer.1.cls ≠ "java/lang/invoke/VarHandle" ∧ (parseMethodDescriptor Y_X3_letsToServer.1.desc).map (fun d => d.parameters.length) = some 0 := by decide +kernel
abbrev Y_X3_letsToClient : z_Y := (yX3_letsToClient, cX3_letsToClient, 1, (some .boolean), 0, 0)
theorem z_dc_X3_letsToClient : Y_X3_letsToClient.1.cls ≠ "java/lang/invoke/MethodHandle" ∧ Y_X3_letsToClient.1.cls ≠ "java/lang/invoke/VarHandle" ∧ (parseMethodDescriptor Y_X3_letsToClient.1.desc).map (fun d => d.parameters.length) = some 0 := by decide +kernel
abbrev Y_X3_hasRoom : z_Y := (yX3_hasRoom, cX3_hasRoom, 1, (some .boolean), 0, 0)
theorem z_dc_X3_hasRoom : Y_X3_hasRoom.1.cls ≠ "java/lang/invoke/MethodHandle" ∧ Y_X3_hasRoom.1.cls ≠ "java/lang/invoke/VarHandle" ∧ (parseMethodDescriptor Y_X3_hasRoom.1.desc).map (fun d => d.parameters.length) = some 0 := by decide +kernel
abbrev Y_X3_append : z_Y := (yX3_append, cX3_append, 2, none, 0, 0)
theorem z_dc_X3_append : Y_X3_append.1.cls ≠ "java/lang/invoke/MethodHandle" ∧ Y_X3_append.1.cls ≠ "java/lang/invoke/VarHandle" ∧ (parseMethodDescriptor Y_X3_append.1.desc).map (fun d => d.parameters.length) = some 1 := by decide +kernel
abbrev Y_X3_removeFirst : z_Y := (yX3_removeFirst, cX3_removeFirst, 2, (some (.object "Tidewater$Message")), 0, 0)
theorem z_dc_X3_removeFirst : Y_X3_removeFirst.1.cls ≠ "java/lang/invoke/MethodHandle" ∧ Y_X3_removeFirst.1.cls ≠ "java/lang/invoke/VarHandle" ∧ (parseMethodDescriptor Y_X3_removeFirst.1.desc).map (fun d => d.parameters.length) = some 0 := by decide +kernel
abbrev Y_X3_takeLateness : z_Y := (yX3_takeLateness, cX3_takeLateness, 1, (some .int), 0, 0)
theorem z_dc_X3_takeLateness : Y_X3_takeLateness.1.cls ≠ "java/lang/invoke/MethodHandle" ∧ Y_X3_takeLateness.1.cls ≠ "java/lang/invoke/VarHandle" ∧ (parseMethodDescriptor Y_X3_takeLateness.1.desc).map (fun d => d.parameters.length) = some 0 := by decide +kernel
abbrev Y_X4_init : z_Y := (yX4_init, cX4_init, 2, none, 1, 24)
theorem z_dc_X4_init : Y_X4_init.1.cls ≠ "java/lang/invoke/MethodHandle" ∧ Y_X4_init.1.cls ≠ "java/lang/invoke/VarHandle" ∧ (parseMethodDescriptor Y_X4_init.1.desc).map (fun d => d.parameters.length) = some 1 := by decide +kernel
abbrev Y_X5_init : z_Y := (yX5_init, cX5_init, 1, none, 2, 45)
theorem z_dc_X5_init : Y_X5_init.1.cls ≠ "java/lang/invoke/MethodHandle" ∧ Y_X5_init.1.cls ≠ "java/lang/invoke/VarHandle" ∧ (parseMethodDescriptor Y_X5_init.1.desc).map (fun d => d.parameters.length) = some 0 := by decide +kernel
abbrev Y_X5_laneOf : z_Y := (yX5_laneOf, cX5_laneOf, 2, (some (.object "Tidewater$Lane")), 0, 0)
theorem z_dc_X5_laneOf : Y_X5_laneOf.1.cls ≠ "java/lang/invoke/MethodHandle" ∧ Y_X5_laneOf.1.cls ≠ "java/lang/invoke/VarHandle" ∧ (parseMethodDescriptor Y_X5_laneOf.1.desc).map (fun d => d.parameters.length) = some 1 := by decide +kernel
abbrev Y_X5_putToServer : z_Y := (yX5_putToServer, cX5_putToServer, 5, none, 2, 40)
theorem z_dc_X5_putToServer : Y_X5_putToServer.1.cls ≠ "java/lang/invoke/MethodHandle" ∧ Y_X5_putToServer.1.cls ≠ "java/lang/invoke/VarHandle" ∧ (parseMethodDescriptor Y_X5_putToServer.1.desc).map (fun d => d.parameters.length) = some 2 := by decide +kernel
abbrev Y_X5_putToClient : z_Y := (yX5_putToClient, cX5_putToClient, 4, none, 1, 22)
theorem z_dc_X5_putToClient : Y_X5_putToClient.1.cls ≠ "java/lang/invoke/MethodHandle" ∧ Y_X5_putToClient.1.cls ≠ "java/lang/invoke/VarHandle" ∧ (parseMethodDescriptor Y_X5_putToClient.1.desc).map (fun d => d.parameters.length) = some 2 := by decide +kernel
abbrev Y_X5_putForeign : z_Y := (yX5_putForeign, cX5_putForeign, 5, (some .int), 1, 21)
theorem z_dc_X5_putForeign : Y_X5_putForeign.1.cls ≠ "java/lang/invoke/MethodHandle" ∧ Y_X5_putForeign.1.cls ≠ "java/lang/invoke/VarHandle" ∧ (parseMethodDescriptor Y_X5_putForeign.1.desc).map (fun d => d.parameters.length) = some 2 := by decide +kernel
abbrev Y_X5_letLeave : z_Y := (yX5_letLeave, cX5_letLeave, 1, none, 2, 45)
theorem z_dc_X5_letLeave : Y_X5_letLeave.1.cls ≠ "java/lang/invoke/MethodHandle" ∧ Y_X5_letLeave.1.cls ≠ "java/lang/invoke/VarHandle" ∧ (parseMethodDescriptor Y_X5_letLeave.1.desc).map (fun d => d.parameters.length) = some 0 := by decide +kernel
abbrev Y_X5_letLeaveLane : z_Y := (yX5_letLeaveLane, cX5_letLeaveLane, 4, none, 1, 22)
theorem z_dc_X5_letLeaveLane : Y_X5_letLeaveLane.1.cls ≠ "java/lang/invoke/MethodHandle" ∧ Y_X5_letLeaveLane.1.cls ≠ "java/lang/invoke/VarHandle" ∧ (parseMethodDescriptor Y_X5_letLeaveLane.1.desc).map (fun d => d.parameters.length) = some 1 := by decide +kernel
abbrev Y_X6_init : z_Y := (yX6_init, cX6_init, 7, none, 1, 24)
theorem z_dc_X6_init : Y_X6_init.1.cls ≠ "java/lang/invoke/MethodHandle" ∧ Y_X6_init.1.cls ≠ "java/lang/invoke/VarHandle" ∧ (parseMethodDescriptor Y_X6_init.1.desc).map (fun d => d.parameters.length) = some 6 := by decide +kernel
abbrev Y_X7_init : z_Y := (yX7_init, cX7_init, 2, none, 2, 44)
theorem z_dc_X7_init : Y_X7_init.1.cls ≠ "java/lang/invoke/MethodHandle" ∧ Y_X7_init.1.cls ≠ "java/lang/invoke/VarHandle" ∧ (parseMethodDescriptor Y_X7_init.1.desc).map (fun d => d.parameters.length) = some 1 := by decide +kernel
abbrev Y_X7_measure : z_Y := (yX7_measure, cX7_measure, 2, none, 1, 24)
theorem z_dc_X7_measure : Y_X7_measure.1.cls ≠ "java/lang/invoke/MethodHandle" ∧ Y_X7_measure.1.cls ≠ "java/lang/invoke/VarHandle" ∧ (parseMethodDescriptor Y_X7_measure.1.desc).map (fun d => d.parameters.length) = some 1 := by decide +kernel
abbrev Y_X7_canSend : z_Y := (yX7_canSend, cX7_canSend, 1, (some .boolean), 2, 46)
theorem z_dc_X7_canSend : Y_X7_canSend.1.cls ≠ "java/lang/invoke/MethodHandle" ∧ Y_X7_canSend.1.cls ≠ "java/lang/invoke/VarHandle" ∧ (parseMethodDescriptor Y_X7_canSend.1.desc).map (fun d => d.parameters.length) = some 0 := by decide +kernel
abbrev Y_X7_mostPerTick : z_Y := (yX7_mostPerTick, cX7_mostPerTick, 3, (some .int), 1, 24)
theorem z_dc_X7_mostPerTick : Y_X7_mostPerTick.1.cls ≠ "java/lang/invoke/MethodHandle" ∧ Y_X7_mostPerTick.1.cls ≠ "java/lang/invoke/VarHandle" ∧ (parseMethodDescriptor Y_X7_mostPerTick.1.desc).map (fun d => d.parameters.length) = some 0 := by decide +kernel
abbrev Y_X7_isProbeDue : z_Y := (yX7_isProbeDue, cX7_isProbeDue, 3, (some .boolean), 1, 24)
theorem z_dc_X7_isProbeDue : Y_X7_isProbeDue.1.cls ≠ "java/lang/invoke/MethodHandle" ∧ Y_X7_isProbeDue.1.cls ≠ "java/lang/invoke/VarHandle" ∧ (parseMethodDescriptor Y_X7_isProbeDue.1.desc).map (fun d => d.parameters.length) = some 1 := by decide +kernel
abbrev Y_X7_isLostByOrder : z_Y := (yX7_isLostByOrder, cX7_isLostByOrder, 2, (some .boolean), 0, 0)
theorem z_dc_X7_isLostByOrder : Y_X7_isLostByOrder.1.cls ≠ "java/lang/invoke/MethodHandle" ∧ Y_X7_isLostByOrder.1.cls ≠ "java/lang/invoke/VarHandle" ∧ (parseMethodDescriptor Y_X7_isLostByOrder.1.desc).map (fun d => d.parameters.length) = some 1 := by decide +kernel
abbrev Y_X7_isLostByTime : z_Y := (yX7_isLostByTime, cX7_isLostByTime, 4, (some .boolean), 1, 24)
theorem z_dc_X7_isLostByTime : Y_X7_isLostByTime.1.cls ≠ "java/lang/invoke/MethodHandle" ∧ Y_X7_isLostByTime.1.cls ≠ "java/lang/invoke/VarHandle" ∧ (parseMethodDescriptor Y_X7_isLostByTime.1.desc).map (fun d => d.parameters.length) = some 2 := by decide +kernel
abbrev Y_X8_init : z_Y := (yX8_init, cX8_init, 3, none, 1, 24)
theorem z_dc_X8_init : Y_X8_init.1.cls ≠ "java/lang/invoke/MethodHandle" ∧ Y_X8_init.1.cls ≠ "java/lang/invoke/VarHandle" ∧ (parseMethodDescriptor Y_X8_init.1.desc).map (fun d => d.parameters.length) = some 2 := by decide +kernel
abbrev Y_X8_readBytes : z_Y := (yX8_readBytes, cX8_readBytes, 4, (some .int), 4, 89)
theorem z_dc_X8_readBytes : Y_X8_readBytes.1.cls ≠ "java/lang/invoke/MethodHandle" ∧ Y_X8_readBytes.1.cls ≠ "java/lang/invoke/VarHandle" ∧ (parseMethodDescriptor Y_X8_readBytes.1.desc).map (fun d => d.parameters.length) = some 2 := by decide +kernel
abbrev Y_X8_forget : z_Y := (yX8_forget, cX8_forget, 1, none, 1, 21)
theorem z_dc_X8_forget : Y_X8_forget.1.cls ≠ "java/lang/invoke/MethodHandle" ∧ Y_X8_forget.1.cls ≠ "java/lang/invoke/VarHandle" ∧ (parseMethodDescriptor Y_X8_forget.1.desc).map (fun d => d.parameters.length) = some 0 := by decide +kernel
abbrev Y_X8_hearAll : z_Y := (yX8_hearAll, cX8_hearAll, 3, none, 7, 155)
theorem z_dc_X8_hearAll : Y_X8_hearAll.1.cls ≠ "java/lang/invoke/MethodHandle" ∧ Y_X8_hearAll.1.cls ≠ "java/lang/invoke/VarHandle" ∧ (parseMethodDescriptor Y_X8_hearAll.1.desc).map (fun d => d.parameters.length) = some 0 := by decide +kernel
abbrev Y_X8_hear : z_Y := (yX8_hear, cX8_hear, 2, none, 6, 134)
theorem z_dc_X8_hear : Y_X8_hear.1.cls ≠ "java/lang/invoke/MethodHandle" ∧ Y_X8_hear.1.cls ≠ "java/lang/invoke/VarHandle" ∧ (parseMethodDescriptor Y_X8_hear.1.desc).map (fun d => d.parameters.length) = some 1 := by decide +kernel
abbrev Y_X8_hearHello : z_Y := (yX8_hearHello, cX8_hearHello, 3, none, 2, 45)
theorem z_dc_X8_hearHello : Y_X8_hearHello.1.cls ≠ "java/lang/invoke/MethodHandle" ∧ Y_X8_hearHello.1.cls ≠ "java/lang/invoke/VarHandle" ∧ (parseMethodDescriptor Y_X8_hearHello.1.desc).map (fun d => d.parameters.length) = some 1 := by decide +kernel
abbrev Y_X8_useTicket : z_Y := (yX8_useTicket, cX8_useTicket, 2, (some .boolean), 0, 0)
theorem z_dc_X8_useTicket : Y_X8_useTicket.1.cls ≠ "java/lang/invoke/MethodHandle" ∧ Y_X8_useTicket.1.cls ≠ "java/lang/invoke/VarHandle" ∧ (parseMethodDescriptor Y_X8_useTicket.1.desc).map (fun d => d.parameters.length) = some 1 := by decide +kernel
abbrev Y_X8_hearWhenEstablished : z_Y := (yX8_hearWhenEstablished, cX8_hearWhenEstablished, 2, none, 5, 113)
theorem z_dc_X8_hearWhenEstablished : Y_X8_hearWhenEstablished.1.cls ≠ "java/lang/invoke/MethodHandle" ∧ Y_X8_hearWhenEstablished.1.cls ≠ "java/lang/invoke/VarHandle" ∧ (parseMethodDescriptor Y_X8_hearWhenEstablished.1.desc).map (fun d => d.parameters.length) = some 1 := by decide +kernel
abbrev Y_X8_hearData : z_Y := (yX8_hearData, cX8_hearData, 5, none, 4, 89)
theorem z_dc_X8_hearData : Y_X8_hearData.1.cls ≠ "java/lang/invoke/MethodHandle" ∧ Y_X8_hearData.1.cls ≠ "java/lang/invoke/VarHandle" ∧ (parseMethodDescriptor Y_X8_hearData.1.desc).map (fun d => d.parameters.length) = some 1 := by decide +kernel
abbrev Y_X8_takesKey : z_Y := (yX8_takesKey, cX8_takesKey, 2, (some .boolean), 0, 0)
theorem z_dc_X8_takesKey : Y_X8_takesKey.1.cls ≠ "java/lang/invoke/MethodHandle" ∧ Y_X8_takesKey.1.cls ≠ "java/lang/invoke/VarHandle" ∧ (parseMethodDescriptor Y_X8_takesKey.1.desc).map (fun d => d.parameters.length) = some 1 := by decide +kernel
abbrev Y_X8_acknowledgeInTime : z_Y := (yX8_acknowledgeInTime, cX8_acknowledgeInTime, 1, none, 4, 89)
theorem z_dc_X8_acknowledgeInTime : Y_X8_acknowledgeInTime.1.cls ≠ "java/lang/invoke/MethodHandle" ∧ Y_X8_acknowledgeInTime.1.cls ≠ "java/lang/invoke/VarHandle" ∧ (parseMethodDescriptor Y_X8_acknowledgeInTime.1.desc).map (fun d => d.parameters.length) = some 0 := by decide +kernel
abbrev Y_X8_acknowledge : z_Y := (yX8_acknowledge, cX8_acknowledge, 2, none, 3, 68)
theorem z_dc_X8_acknowledge : Y_X8_acknowledge.1.cls ≠ "java/lang/invoke/MethodHandle" ∧ Y_X8_acknowledge.1.cls ≠ "java/lang/invoke/VarHandle" ∧ (parseMethodDescriptor Y_X8_acknowledge.1.desc).map (fun d => d.parameters.length) = some 0 := by decide +kernel
abbrev Y_X8_makeAck : z_Y := (yX8_makeAck, cX8_makeAck, 5, (some (.object "Tidewater$Ack")), 2, 44)
theorem z_dc_X8_makeAck : Y_X8_makeAck.1.cls ≠ "java/lang/invoke/MethodHandle" ∧ Y_X8_makeAck.1.cls ≠ "java/lang/invoke/VarHandle" ∧ (parseMethodDescriptor Y_X8_makeAck.1.desc).map (fun d => d.parameters.length) = some 0 := by decide +kernel
abbrev Y_X8_nextTaken : z_Y := (yX8_nextTaken, cX8_nextTaken, 4, (some .int), 0, 0)
theorem z_dc_X8_nextTaken : Y_X8_nextTaken.1.cls ≠ "java/lang/invoke/MethodHandle" ∧ Y_X8_nextTaken.1.cls ≠ "java/lang/invoke/VarHandle" ∧ (parseMethodDescriptor Y_X8_nextTaken.1.desc).map (fun d => d.parameters.length) = some 2 := by decide +kernel
abbrev Y_X9_init : z_Y := (yX9_init, cX9_init, 1, none, 1, 24)
theorem z_dc_X9_init : Y_X9_init.1.cls ≠ "java/lang/invoke/MethodHandle" ∧ Y_X9_init.1.cls ≠ "java/lang/invoke/VarHandle" ∧ (parseMethodDescriptor Y_X9_init.1.desc).map (fun d => d.parameters.length) = some 0 := by decide +kernel
abbrev Y_X9_isLost : z_Y := (yX9_isLost, cX9_isLost, 2, (some .boolean), 0, 0)
theorem z_dc_X9_isLost : Y_X9_isLost.1.cls ≠ "java/lang/invoke/MethodHandle" ∧ Y_X9_isLost.1.cls ≠ "java/lang/invoke/VarHandle" ∧ (parseMethodDescriptor Y_X9_isLost.1.desc).map (fun d => d.parameters.length) = some 1 := by decide +kernel
abbrev Y_X9_lowestLost : z_Y := (yX9_lowestLost, cX9_lowestLost, 2, (some .int), 1, 21)
theorem z_dc_X9_lowestLost : Y_X9_lowestLost.1.cls ≠ "java/lang/invoke/MethodHandle" ∧ Y_X9_lowestLost.1.cls ≠ "java/lang/invoke/VarHandle" ∧ (parseMethodDescriptor Y_X9_lowestLost.1.desc).map (fun d => d.parameters.length) = some 0 := by decide +kernel
abbrev Y_X9_lostInARow : z_Y := (yX9_lostInARow, cX9_lostInARow, 3, (some .int), 1, 21)
theorem z_dc_X9_lostInARow : Y_X9_lostInARow.1.cls ≠ "java/lang/invoke/MethodHandle" ∧ Y_X9_lostInARow.1.cls ≠ "java/lang/invoke/VarHandle" ∧ (parseMethodDescriptor Y_X9_lostInARow.1.desc).map (fun d => d.parameters.length) = some 1 := by decide +kernel
abbrev Y_X9_canSendAnew : z_Y := (yX9_canSendAnew, cX9_canSendAnew, 3, (some .int), 1, 24)
theorem z_dc_X9_canSendAnew : Y_X9_canSendAnew.1.cls ≠ "java/lang/invoke/MethodHandle" ∧ Y_X9_canSendAnew.1.cls ≠ "java/lang/invoke/VarHandle" ∧ (parseMethodDescriptor Y_X9_canSendAnew.1.desc).map (fun d => d.parameters.length) = some 1 := by decide +kernel
abbrev Y_X9_takeOff : z_Y := (yX9_takeOff, cX9_takeOff, 4, none, 1, 24)
theorem z_dc_X9_takeOff : Y_X9_takeOff.1.cls ≠ "java/lang/invoke/MethodHandle" ∧ Y_X9_takeOff.1.cls ≠ "java/lang/invoke/VarHandle" ∧ (parseMethodDescriptor Y_X9_takeOff.1.desc).map (fun d => d.parameters.length) = some 2 := by decide +kernel
abbrev Y_X9_land : z_Y := (yX9_land, cX9_land, 4, none, 1, 24)
theorem z_dc_X9_land : Y_X9_land.1.cls ≠ "java/lang/invoke/MethodHandle" ∧ Y_X9_land.1.cls ≠ "java/lang/invoke/VarHandle" ∧ (parseMethodDescriptor Y_X9_land.1.desc).map (fun d => d.parameters.length) = some 2 := by decide +kernel
abbrev Y_X9_acknowledge : z_Y := (yX9_acknowledge, cX9_acknowledge, 4, none, 1, 24)
theorem z_dc_X9_acknowledge : Y_X9_acknowledge.1.cls ≠ "java/lang/invoke/MethodHandle" ∧ Y_X9_acknowledge.1.cls ≠ "java/lang/invoke/VarHandle" ∧ (parseMethodDescriptor Y_X9_acknowledge.1.desc).map (fun d => d.parameters.length) = some 2 := by decide +kernel
abbrev Y_X9_arrive : z_Y := (yX9_arrive, cX9_arrive, 3, none, 2, 47)
theorem z_dc_X9_arrive : Y_X9_arrive.1.cls ≠ "java/lang/invoke/MethodHandle" ∧ Y_X9_arrive.1.cls ≠ "java/lang/invoke/VarHandle" ∧ (parseMethodDescriptor Y_X9_arrive.1.desc).map (fun d => d.parameters.length) = some 2 := by decide +kernel
abbrev Y_X10_init : z_Y := (yX10_init, cX10_init, 2, none, 1, 24)
theorem z_dc_X10_init : Y_X10_init.1.cls ≠ "java/lang/invoke/MethodHandle" ∧ Y_X10_init.1.cls ≠ "java/lang/invoke/VarHandle" ∧ (parseMethodDescriptor Y_X10_init.1.desc).map (fun d => d.parameters.length) = some 1 := by decide +kernel
abbrev Y_X10_append : z_Y := (yX10_append, cX10_append, 3, none, 0, 0)
theorem z_dc_X10_append : Y_X10_append.1.cls ≠ "java/lang/invoke/MethodHandle" ∧ Y_X10_append.1.cls ≠ "java/lang/invoke/VarHandle" ∧ (parseMethodDescriptor Y_X10_append.1.desc).map (fun d => d.parameters.length) = some 2 := by decide +kernel
abbrev Y_X10_takeDue : z_Y := (yX10_takeDue, cX10_takeDue, 4, (some (.object "Tidewater$Message")), 1, 60)
theorem z_dc_X10_takeDue : Y_X10_takeDue.1.cls ≠ "java/lang/invoke/MethodHandle" ∧ Y_X10_takeDue.1.cls ≠ "java/lang/invoke/VarHandle" ∧ (parseMethodDescriptor Y_X10_takeDue.1.desc).map (fun d => d.parameters.length) = some 1 := by decide +kernel
abbrev Y_X11_init : z_Y := (yX11_init, cX11_init, 2, none, 4, 87)
theorem z_dc_X11_init : Y_X11_init.1.cls ≠ "java/lang/invoke/MethodHandle" ∧ Y_X11_init.1.cls ≠ "java/lang/invoke/VarHandle" ∧ (parseMethodDescriptor Y_X11_init.1.desc).map (fun d => d.parameters.length) = some 0 := by decide +kernel
abbrev Y_X11_setPath : z_Y := (yX11_setPath, cX11_setPath, 7, none, 7, 112)
theorem z_dc_X11_setPath : Y_X11_setPath.1.cls ≠ "java/lang/invoke/MethodHandle" ∧ Y_X11_setPath.1.cls ≠ "java/lang/invoke/VarHandle" ∧ (parseMethodDescriptor Y_X11_setPath.1.desc).map (fun d => d.parameters.length) = some 5 := by decide +kernel
abbrev Y_X11_setUp : z_Y := (yX11_setUp, cX11_setUp, 5, (some .boolean), 7, 110)
theorem z_dc_X11_setUp : Y_X11_setUp.1.cls ≠ "java/lang/invoke/MethodHandle" ∧ Y_X11_setUp.1.cls ≠ "java/lang/invoke/VarHandle" ∧ (parseMethodDescriptor Y_X11_setUp.1.desc).map (fun d => d.parameters.length) = some 2 := by decide +kernel
abbrev Y_X11_lose : z_Y := (yX11_lose, cX11_lose, 5, none, 7, 112)
theorem z_dc_X11_lose : Y_X11_lose.1.cls ≠ "java/lang/invoke/MethodHandle" ∧ Y_X11_lose.1.cls ≠ "java/lang/invoke/VarHandle" ∧ (parseMethodDescriptor Y_X11_lose.1.desc).map (fun d => d.parameters.length) = some 3 := by decide +kernel
abbrev Y_X11_late : z_Y := (yX11_late, cX11_late, 5, none, 7, 112)
theorem z_dc_X11_late : Y_X11_late.1.cls ≠ "java/lang/invoke/MethodHandle" ∧ Y_X11_late.1.cls ≠ "java/lang/invoke/VarHandle" ∧ (parseMethodDescriptor Y_X11_late.1.desc).map (fun d => d.parameters.length) = some 3 := by decide +kernel
abbrev Y_X11_foreign : z_Y := (yX11_foreign, cX11_foreign, 3, (some .int), 7, 112)
theorem z_dc_X11_foreign : Y_X11_foreign.1.cls ≠ "java/lang/invoke/MethodHandle" ∧ Y_X11_foreign.1.cls ≠ "java/lang/invoke/VarHandle" ∧ (parseMethodDescriptor Y_X11_foreign.1.desc).map (fun d => d.parameters.length) = some 2 := by decide +kernel
abbrev Y_X11_setCookies : z_Y := (yX11_setCookies, cX11_setCookies, 3, (some .boolean), 0, 0)
theorem z_dc_X11_setCookies : Y_X11_setCookies.1.cls ≠ "java/lang/invoke/MethodHandle" ∧ Y_X11_setCookies.1.cls ≠ "java/lang/invoke/VarHandle" ∧ (parseMethodDescriptor Y_X11_setCookies.1.desc).map (fun d => d.parameters.length) = some 1 := by decide +kernel
abbrev Y_X11_read : z_Y := (yX11_read, cX11_read, 3, (some .int), 7, 112)
theorem z_dc_X11_read : Y_X11_read.1.cls ≠ "java/lang/invoke/MethodHandle" ∧ Y_X11_read.1.cls ≠ "java/lang/invoke/VarHandle" ∧ (parseMethodDescriptor Y_X11_read.1.desc).map (fun d => d.parameters.length) = some 2 := by decide +kernel
abbrev Y_X11_loseState : z_Y := (yX11_loseState, cX11_loseState, 1, none, 2, 41)
theorem z_dc_X11_loseState : Y_X11_loseState.1.cls ≠ "java/lang/invoke/MethodHandle" ∧ Y_X11_loseState.1.cls ≠ "java/lang/invoke/VarHandle" ∧ (parseMethodDescriptor Y_X11_loseState.1.desc).map (fun d => d.parameters.length) = some 0 := by decide +kernel
abbrev Y_X11_connect : z_Y := (yX11_connect, cX11_connect, 2, none, 7, 112)
theorem z_dc_X11_connect : Y_X11_connect.1.cls ≠ "java/lang/invoke/MethodHandle" ∧ Y_X11_connect.1.cls ≠ "java/lang/invoke/VarHandle" ∧ (parseMethodDescriptor Y_X11_connect.1.desc).map (fun d => d.parameters.length) = some 1 := by decide +kernel
abbrev Y_X11_write : z_Y := (yX11_write, cX11_write, 4, (some .int), 7, 112)
theorem z_dc_X11_write : Y_X11_write.1.cls ≠ "java/lang/invoke/MethodHandle" ∧ Y_X11_write.1.cls ≠ "java/lang/invoke/VarHandle" ∧ (parseMethodDescriptor Y_X11_write.1.desc).map (fun d => d.parameters.length) = some 2 := by decide +kernel
abbrev Y_X11_setWay : z_Y := (yX11_setWay, cX11_setWay, 5, (some .int), 7, 112)
theorem z_dc_X11_setWay : Y_X11_setWay.1.cls ≠ "java/lang/invoke/MethodHandle" ∧ Y_X11_setWay.1.cls ≠ "java/lang/invoke/VarHandle" ∧ (parseMethodDescriptor Y_X11_setWay.1.desc).map (fun d => d.parameters.length) = some 2 := by decide +kernel
abbrev Y_X11_check : z_Y := (yX11_check, cX11_check, 2, none, 7, 110)
theorem z_dc_X11_check : Y_X11_check.1.cls ≠ "java/lang/invoke/MethodHandle" ∧ Y_X11_check.1.cls ≠ "java/lang/invoke/VarHandle" ∧ (parseMethodDescriptor Y_X11_check.1.desc).map (fun d => d.parameters.length) = some 1 := by decide +kernel
abbrev Y_X11_use : z_Y := (yX11_use, cX11_use, 3, (some .int), 7, 112)
theorem z_dc_X11_use : Y_X11_use.1.cls ≠ "java/lang/invoke/MethodHandle" ∧ Y_X11_use.1.cls ≠ "java/lang/invoke/VarHandle" ∧ (parseMethodDescriptor Y_X11_use.1.desc).map (fun d => d.parameters.length) = some 1 := by decide +kernel
abbrev Y_X11_changeKey : z_Y := (yX11_changeKey, cX11_changeKey, 1, (some .int), 7, 110)
theorem z_dc_X11_changeKey : Y_X11_changeKey.1.cls ≠ "java/lang/invoke/MethodHandle" ∧ Y_X11_changeKey.1.cls ≠ "java/lang/invoke/VarHandle" ∧ (parseMethodDescriptor Y_X11_changeKey.1.desc).map (fun d => d.parameters.length) = some 0 := by decide +kernel
abbrev Y_X11_close : z_Y := (yX11_close, cX11_close, 1, none, 7, 110)
theorem z_dc_X11_close : Y_X11_close.1.cls ≠ "java/lang/invoke/MethodHandle" ∧ Y_X11_close.1.cls ≠ "java/lang/invoke/VarHandle" ∧ (parseMethodDescriptor Y_X11_close.1.desc).map (fun d => d.parameters.length) = some 0 := by decide +kernel
abbrev Y_X11_tick : z_Y := (yX11_tick, cX11_tick, 3, (some .int), 8, 177)
theorem z_dc_X11_tick : Y_X11_tick.1.cls ≠ "java/lang/invoke/MethodHandle" ∧ Y_X11_tick.1.cls ≠ "java/lang/invoke/VarHandle" ∧ (parseMethodDescriptor Y_X11_tick.1.desc).map (fun d => d.parameters.length) = some 1 := by decide +kernel
abbrev Y_X11_now : z_Y := (yX11_now, cX11_now, 1, (some .int), 0, 0)
theorem z_dc_X11_now : Y_X11_now.1.cls ≠ "java/lang/invoke/MethodHandle" ∧ Y_X11_now.1.cls ≠ "java/lang/invoke/VarHandle" ∧ (parseMethodDescriptor Y_X11_now.1.desc).map (fun d => d.parameters.length) = some 0 := by decide +kernel
abbrev Y_X11_state : z_Y := (yX11_state, cX11_state, 2, (some .int), 7, 112)
theorem z_dc_X11_state : Y_X11_state.1.cls ≠ "java/lang/invoke/MethodHandle" ∧ Y_X11_state.1.cls ≠ "java/lang/invoke/VarHandle" ∧ (parseMethodDescriptor Y_X11_state.1.desc).map (fun d => d.parameters.length) = some 1 := by decide +kernel
abbrev Y_X11_path : z_Y := (yX11_path, cX11_path, 4, (some .int), 7, 112)
theorem z_dc_X11_path : Y_X11_path.1.cls ≠ "java/lang/invoke/MethodHandle" ∧ Y_X11_path.1.cls ≠ "java/lang/invoke/VarHandle" ∧ (parseMethodDescriptor Y_X11_path.1.desc).map (fun d => d.parameters.length) = some 2 := by decide +kernel
abbrev Y_X11_stream : z_Y := (yX11_stream, cX11_stream, 4, (some .int), 7, 112)
theorem z_dc_X11_stream : Y_X11_stream.1.cls ≠ "java/lang/invoke/MethodHandle" ∧ Y_X11_stream.1.cls ≠ "java/lang/invoke/VarHandle" ∧ (parseMethodDescriptor Y_X11_stream.1.desc).map (fun d => d.parameters.length) = some 2 := by decide +kernel
abbrev Y_X11_credit : z_Y := (yX11_credit, cX11_credit, 1, (some .int), 0, 0)
theorem z_dc_X11_credit : Y_X11_credit.1.cls ≠ "java/lang/invoke/MethodHandle" ∧ Y_X11_credit.1.cls ≠ "java/lang/invoke/VarHandle" ∧ (parseMethodDescriptor Y_X11_credit.1.desc).map (fun d => d.parameters.length) = some 0 := by decide +kernel
abbrev Y_X11_packets : z_Y := (yX11_packets, cX11_packets, 1, (some .int), 0, 0)
theorem z_dc_X11_packets : Y_X11_packets.1.cls ≠ "java/lang/invoke/MethodHandle" ∧ Y_X11_packets.1.cls ≠ "java/lang/invoke/VarHandle" ∧ (parseMethodDescriptor Y_X11_packets.1.desc).map (fun d => d.parameters.length) = some 0 := by decide +kernel
abbrev Y_X11_packet : z_Y := (yX11_packet, cX11_packet, 4, (some .int), 7, 112)
theorem z_dc_X11_packet : Y_X11_packet.1.cls ≠ "java/lang/invoke/MethodHandle" ∧ Y_X11_packet.1.cls ≠ "java/lang/invoke/VarHandle" ∧ (parseMethodDescriptor Y_X11_packet.1.desc).map (fun d => d.parameters.length) = some 2 := by decide +kernel
abbrev Y_X11_count : z_Y := (yX11_count, cX11_count, 4, (some .int), 7, 112)
theorem z_dc_X11_count : Y_X11_count.1.cls ≠ "java/lang/invoke/MethodHandle" ∧ Y_X11_count.1.cls ≠ "java/lang/invoke/VarHandle" ∧ (parseMethodDescriptor Y_X11_count.1.desc).map (fun d => d.parameters.length) = some 1 := by decide +kernel
abbrev Y_X11_inFlightAnew : z_Y := (yX11_inFlightAnew, cX11_inFlightAnew, 5, (some .int), 7, 110)
theorem z_dc_X11_inFlightAnew : Y_X11_inFlightAnew.1.cls ≠ "java/lang/invoke/MethodHandle" ∧ Y_X11_inFlightAnew.1.cls ≠ "java/lang/invoke/VarHandle" ∧ (parseMethodDescriptor Y_X11_inFlightAnew.1.desc).map (fun d => d.parameters.length) = some 1 := by decide +kernel
abbrev Y_X11_gotAnew : z_Y := (yX11_gotAnew, cX11_gotAnew, 4, (some .int), 7, 110)
theorem z_dc_X11_gotAnew : Y_X11_gotAnew.1.cls ≠ "java/lang/invoke/MethodHandle" ∧ Y_X11_gotAnew.1.cls ≠ "java/lang/invoke/VarHandle" ∧ (parseMethodDescriptor Y_X11_gotAnew.1.desc).map (fun d => d.parameters.length) = some 1 := by decide +kernel
abbrev Y_X11_requirePacket : z_Y := (yX11_requirePacket, cX11_requirePacket, 3, (some (.object "Tidewater$Packet")), 6, 90)
theorem z_dc_X11_requirePacket : Y_X11_requirePacket.1.cls ≠ "java/lang/invoke/MethodHandle" ∧ Y_X11_requirePacket.1.cls ≠ "java/lang/invoke/VarHandle" ∧ (parseMethodDescriptor Y_X11_requirePacket.1.desc).map (fun d => d.parameters.length) = some 1 := by decide +kernel
abbrev Y_X11_requirePath : z_Y := (yX11_requirePath, cX11_requirePath, 1, none, 6, 90)
theorem z_dc_X11_requirePath : Y_X11_requirePath.1.cls ≠ "java/lang/invoke/MethodHandle" ∧ Y_X11_requirePath.1.cls ≠ "java/lang/invoke/VarHandle" ∧ (parseMethodDescriptor Y_X11_requirePath.1.desc).map (fun d => d.parameters.length) = some 1 := by decide +kernel
abbrev Y_X11_requireStream : z_Y := (yX11_requireStream, cX11_requireStream, 1, none, 6, 90)
theorem z_dc_X11_requireStream : Y_X11_requireStream.1.cls ≠ "java/lang/invoke/MethodHandle" ∧ Y_X11_requireStream.1.cls ≠ "java/lang/invoke/VarHandle" ∧ (parseMethodDescriptor Y_X11_requireStream.1.desc).map (fun d => d.parameters.length) = some 1 := by decide +kernel
abbrev Y_X11_requireRange : z_Y := (yX11_requireRange, cX11_requireRange, 3, none, 6, 90)
theorem z_dc_X11_requireRange : Y_X11_requireRange.1.cls ≠ "java/lang/invoke/MethodHandle" ∧ Y_X11_requireRange.1.cls ≠ "java/lang/invoke/VarHandle" ∧ (parseMethodDescriptor Y_X11_requireRange.1.desc).map (fun d => d.parameters.length) = some 3 := by decide +kernel
abbrev Y_X11_requireState : z_Y := (yX11_requireState, cX11_requireState, 1, none, 6, 90)
theorem z_dc_X11_requireState : Y_X11_requireState.1.cls ≠ "java/lang/invoke/MethodHandle" ∧ Y_X11_requireState.1.cls ≠ "java/lang/invoke/VarHandle" ∧ (parseMethodDescriptor Y_X11_requireState.1.desc).map (fun d => d.parameters.length) = some 1 := by decide +kernel
abbrev Y_X11_asNumber : z_Y := (yX11_asNumber, cX11_asNumber, 1, (some .int), 0, 0)
theorem z_dc_X11_asNumber : Y_X11_asNumber.1.cls ≠ "java/lang/invoke/MethodHandle" ∧ Y_X11_asNumber.1.cls ≠ "java/lang/invoke/VarHandle" ∧ (parseMethodDescriptor Y_X11_asNumber.1.desc).map (fun d => d.parameters.length) = some 1 := by decide +kernel
abbrev Y_X11_clearRow : z_Y := (yX11_clearRow, cX11_clearRow, 2, none, 0, 0)
theorem z_dc_X11_clearRow : Y_X11_clearRow.1.cls ≠ "java/lang/invoke/MethodHandle" ∧ Y_X11_clearRow.1.cls ≠ "java/lang/invoke/VarHandle" ∧ (parseMethodDescriptor Y_X11_clearRow.1.desc).map (fun d => d.parameters.length) = some 1 := by decide +kernel
abbrev Y_X11_markRow : z_Y := (yX11_markRow, cX11_markRow, 4, none, 1, 24)
theorem z_dc_X11_markRow : Y_X11_markRow.1.cls ≠ "java/lang/invoke/MethodHandle" ∧ Y_X11_markRow.1.cls ≠ "java/lang/invoke/VarHandle" ∧ (parseMethodDescriptor Y_X11_markRow.1.desc).map (fun d => d.parameters.length) = some 3 := by decide +kernel
abbrev Y_X11_lengthOfPrefix : z_Y := (yX11_lengthOfPrefix, cX11_lengthOfPrefix, 3, (some .int), 1, 24)
theorem z_dc_X11_lengthOfPrefix : Y_X11_lengthOfPrefix.1.cls ≠ "java/lang/invoke/MethodHandle" ∧ Y_X11_lengthOfPrefix.1.cls ≠ "java/lang/invoke/VarHandle" ∧ (parseMethodDescriptor Y_X11_lengthOfPrefix.1.desc).map (fun d => d.parameters.length) = some 2 := by decide +kernel
abbrev Y_X12_init : z_Y := (yX12_init, cX12_init, 2, none, 1, 24)
theorem z_dc_X12_init : Y_X12_init.1.cls ≠ "java/lang/invoke/MethodHandle" ∧ Y_X12_init.1.cls ≠ "java/lang/invoke/VarHandle" ∧ (parseMethodDescriptor Y_X12_init.1.desc).map (fun d => d.parameters.length) = some 0 := by decide +kernel
abbrev Y_X12_thrown : z_Y := (yX12_thrown, cX12_thrown, 1, (some .int), 0, 0)
theorem z_dc_X12_thrown : Y_X12_thrown.1.cls ≠ "java/lang/invoke/MethodHandle" ∧ Y_X12_thrown.1.cls ≠ "java/lang/invoke/VarHandle" ∧ (parseMethodDescriptor Y_X12_thrown.1.desc).map (fun d => d.parameters.length) = some 0 := by decide +kernel
abbrev Y_X12_in : z_Y := (yX12_in, cX12_in, 3, (some .boolean), 0, 0)
theorem z_dc_X12_in : Y_X12_in.1.cls ≠ "java/lang/invoke/MethodHandle" ∧ Y_X12_in.1.cls ≠ "java/lang/invoke/VarHandle" ∧ (parseMethodDescriptor Y_X12_in.1.desc).map (fun d => d.parameters.length) = some 3 := by decide +kernel
abbrev Y_X12_goes : z_Y := (yX12_goes, cX12_goes, 4, (some .boolean), 0, 0)
theorem z_dc_X12_goes : Y_X12_goes.1.cls ≠ "java/lang/invoke/MethodHandle" ∧ Y_X12_goes.1.cls ≠ "java/lang/invoke/VarHandle" ∧ (parseMethodDescriptor Y_X12_goes.1.desc).map (fun d => d.parameters.length) = some 3 := by decide +kernel
abbrev Y_X12_isPath : z_Y := (yX12_isPath, cX12_isPath, 1, (some .boolean), 1, 22)
theorem z_dc_X12_isPath : Y_X12_isPath.1.cls ≠ "java/lang/invoke/MethodHandle" ∧ Y_X12_isPath.1.cls ≠ "java/lang/invoke/VarHandle" ∧ (parseMethodDescriptor Y_X12_isPath.1.desc).map (fun d => d.parameters.length) = some 1 := by decide +kernel
abbrev Y_X12_isStream : z_Y := (yX12_isStream, cX12_isStream, 1, (some .boolean), 1, 22)
theorem z_dc_X12_isStream : Y_X12_isStream.1.cls ≠ "java/lang/invoke/MethodHandle" ∧ Y_X12_isStream.1.cls ≠ "java/lang/invoke/VarHandle" ∧ (parseMethodDescriptor Y_X12_isStream.1.desc).map (fun d => d.parameters.length) = some 1 := by decide +kernel
abbrev Y_X12_max : z_Y := (yX12_max, cX12_max, 2, (some .int), 0, 0)
theorem z_dc_X12_max : Y_X12_max.1.cls ≠ "java/lang/invoke/MethodHandle" ∧ Y_X12_max.1.cls ≠ "java/lang/invoke/VarHandle" ∧ (parseMethodDescriptor Y_X12_max.1.desc).map (fun d => d.parameters.length) = some 2 := by decide +kernel
abbrev Y_X12_puts : z_Y := (yX12_puts, cX12_puts, 5, none, 0, 0)
theorem z_dc_X12_puts : Y_X12_puts.1.cls ≠ "java/lang/invoke/MethodHandle" ∧ Y_X12_puts.1.cls ≠ "java/lang/invoke/VarHandle" ∧ (parseMethodDescriptor Y_X12_puts.1.desc).map (fun d => d.parameters.length) = some 3 := by decide +kernel
abbrev Y_X12_answers : z_Y := (yX12_answers, cX12_answers, 4, none, 0, 0)
theorem z_dc_X12_answers : Y_X12_answers.1.cls ≠ "java/lang/invoke/MethodHandle" ∧ Y_X12_answers.1.cls ≠ "java/lang/invoke/VarHandle" ∧ (parseMethodDescriptor Y_X12_answers.1.desc).map (fun d => d.parameters.length) = some 3 := by decide +kernel
abbrev Y_X12_setPath : z_Y := (yX12_setPath, cX12_setPath, 6, none, 2, 42)
theorem z_dc_X12_setPath : Y_X12_setPath.1.cls ≠ "java/lang/invoke/MethodHandle" ∧ Y_X12_setPath.1.cls ≠ "java/lang/invoke/VarHandle" ∧ (parseMethodDescriptor Y_X12_setPath.1.desc).map (fun d => d.parameters.length) = some 5 := by decide +kernel
abbrev Y_X12_setUp : z_Y := (yX12_setUp, cX12_setUp, 4, (some .boolean), 2, 42)
theorem z_dc_X12_setUp : Y_X12_setUp.1.cls ≠ "java/lang/invoke/MethodHandle" ∧ Y_X12_setUp.1.cls ≠ "java/lang/invoke/VarHandle" ∧ (parseMethodDescriptor Y_X12_setUp.1.desc).map (fun d => d.parameters.length) = some 2 := by decide +kernel
abbrev Y_X12_lose : z_Y := (yX12_lose, cX12_lose, 4, none, 2, 42)
theorem z_dc_X12_lose : Y_X12_lose.1.cls ≠ "java/lang/invoke/MethodHandle" ∧ Y_X12_lose.1.cls ≠ "java/lang/invoke/VarHandle" ∧ (parseMethodDescriptor Y_X12_lose.1.desc).map (fun d => d.parameters.length) = some 3 := by decide +kernel
abbrev Y_X12_late : z_Y := (yX12_late, cX12_late, 4, none, 2, 42)
theorem z_dc_X12_late : Y_X12_late.1.cls ≠ "java/lang/invoke/MethodHandle" ∧ Y_X12_late.1.cls ≠ "java/lang/invoke/VarHandle" ∧ (parseMethodDescriptor Y_X12_late.1.desc).map (fun d => d.parameters.length) = some 3 := by decide +kernel
abbrev Y_X12_foreign : z_Y := (yX12_foreign, cX12_foreign, 4, (some .int), 2, 42)
theorem z_dc_X12_foreign : Y_X12_foreign.1.cls ≠ "java/lang/invoke/MethodHandle" ∧ Y_X12_foreign.1.cls ≠ "java/lang/invoke/VarHandle" ∧ (parseMethodDescriptor Y_X12_foreign.1.desc).map (fun d => d.parameters.length) = some 2 := by decide +kernel
abbrev Y_X12_leaves : z_Y := (yX12_leaves, cX12_leaves, 6, none, 0, 0)
theorem z_dc_X12_leaves : Y_X12_leaves.1.cls ≠ "java/lang/invoke/MethodHandle" ∧ Y_X12_leaves.1.cls ≠ "java/lang/invoke/VarHandle" ∧ (parseMethodDescriptor Y_X12_leaves.1.desc).map (fun d => d.parameters.length) = some 1 := by decide +kernel
abbrev Y_X12_gotOf : z_Y := (yX12_gotOf, cX12_gotOf, 3, (some .int), 0, 0)
theorem z_dc_X12_gotOf : Y_X12_gotOf.1.cls ≠ "java/lang/invoke/MethodHandle" ∧ Y_X12_gotOf.1.cls ≠ "java/lang/invoke/VarHandle" ∧ (parseMethodDescriptor Y_X12_gotOf.1.desc).map (fun d => d.parameters.length) = some 1 := by decide +kernel
abbrev Y_X12_acknowledges : z_Y := (yX12_acknowledges, cX12_acknowledges, 6, none, 1, 23)
theorem z_dc_X12_acknowledges : Y_X12_acknowledges.1.cls ≠ "java/lang/invoke/MethodHandle" ∧ Y_X12_acknowledges.1.cls ≠ "java/lang/invoke/VarHandle" ∧ (parseMethodDescriptor Y_X12_acknowledges.1.desc).map (fun d => d.parameters.length) = some 0 := by decide +kernel
abbrev Y_X12_isByKey : z_Y := (yX12_isByKey, cX12_isByKey, 2, (some .boolean), 0, 0)
theorem z_dc_X12_isByKey : Y_X12_isByKey.1.cls ≠ "java/lang/invoke/MethodHandle" ∧ Y_X12_isByKey.1.cls ≠ "java/lang/invoke/VarHandle" ∧ (parseMethodDescriptor Y_X12_isByKey.1.desc).map (fun d => d.parameters.length) = some 1 := by decide +kernel
abbrev Y_X12_takes : z_Y := (yX12_takes, cX12_takes, 3, none, 2, 48)
theorem z_dc_X12_takes : Y_X12_takes.1.cls ≠ "java/lang/invoke/MethodHandle" ∧ Y_X12_takes.1.cls ≠ "java/lang/invoke/VarHandle" ∧ (parseMethodDescriptor Y_X12_takes.1.desc).map (fun d => d.parameters.length) = some 1 := by decide +kernel
abbrev Y_X12_hears : z_Y := (yX12_hears, cX12_hears, 5, none, 1, 23)
theorem z_dc_X12_hears : Y_X12_hears.1.cls ≠ "java/lang/invoke/MethodHandle" ∧ Y_X12_hears.1.cls ≠ "java/lang/invoke/VarHandle" ∧ (parseMethodDescriptor Y_X12_hears.1.desc).map (fun d => d.parameters.length) = some 2 := by decide +kernel
abbrev Y_X12_arrivesAtServer : z_Y := (yX12_arrivesAtServer, cX12_arrivesAtServer, 4, none, 3, 70)
theorem z_dc_X12_arrivesAtServer : Y_X12_arrivesAtServer.1.cls ≠ "java/lang/invoke/MethodHandle" ∧ Y_X12_arrivesAtServer.1.cls ≠ "java/lang/invoke/VarHandle" ∧ (parseMethodDescriptor Y_X12_arrivesAtServer.1.desc).map (fun d => d.parameters.length) = some 1 := by decide +kernel
abbrev Y_X12_setCookies : z_Y := (yX12_setCookies, cX12_setCookies, 3, (some .boolean), 0, 0)
theorem z_dc_X12_setCookies : Y_X12_setCookies.1.cls ≠ "java/lang/invoke/MethodHandle" ∧ Y_X12_setCookies.1.cls ≠ "java/lang/invoke/VarHandle" ∧ (parseMethodDescriptor Y_X12_setCookies.1.desc).map (fun d => d.parameters.length) = some 1 := by decide +kernel
abbrev Y_X12_read : z_Y := (yX12_read, cX12_read, 5, (some .int), 2, 48)
theorem z_dc_X12_read : Y_X12_read.1.cls ≠ "java/lang/invoke/MethodHandle" ∧ Y_X12_read.1.cls ≠ "java/lang/invoke/VarHandle" ∧ (parseMethodDescriptor Y_X12_read.1.desc).map (fun d => d.parameters.length) = some 2 := by decide +kernel
abbrev Y_X12_loseState : z_Y := (yX12_loseState, cX12_loseState, 2, none, 0, 0)
theorem z_dc_X12_loseState : Y_X12_loseState.1.cls ≠ "java/lang/invoke/MethodHandle" ∧ Y_X12_loseState.1.cls ≠ "java/lang/invoke/VarHandle" ∧ (parseMethodDescriptor Y_X12_loseState.1.desc).map (fun d => d.parameters.length) = some 0 := by decide +kernel
abbrev Y_X12_measures : z_Y := (yX12_measures, cX12_measures, 4, none, 0, 0)
theorem z_dc_X12_measures : Y_X12_measures.1.cls ≠ "java/lang/invoke/MethodHandle" ∧ Y_X12_measures.1.cls ≠ "java/lang/invoke/VarHandle" ∧ (parseMethodDescriptor Y_X12_measures.1.desc).map (fun d => d.parameters.length) = some 2 := by decide +kernel
abbrev Y_X12_inFlight : z_Y := (yX12_inFlight, cX12_inFlight, 4, (some .int), 0, 0)
theorem z_dc_X12_inFlight : Y_X12_inFlight.1.cls ≠ "java/lang/invoke/MethodHandle" ∧ Y_X12_inFlight.1.cls ≠ "java/lang/invoke/VarHandle" ∧ (parseMethodDescriptor Y_X12_inFlight.1.desc).map (fun d => d.parameters.length) = some 1 := by decide +kernel
abbrev Y_X12_byCube : z_Y := (yX12_byCube, cX12_byCube, 12, (some .int), 0, 0)
theorem z_dc_X12_byCube : Y_X12_byCube.1.cls ≠ "java/lang/invoke/MethodHandle" ∧ Y_X12_byCube.1.cls ≠ "java/lang/invoke/VarHandle" ∧ (parseMethodDescriptor Y_X12_byCube.1.desc).map (fun d => d.parameters.length) = some 1 := by decide +kernel
abbrev Y_X12_grows : z_Y := (yX12_grows, cX12_grows, 6, none, 1, 31)
theorem z_dc_X12_grows : Y_X12_grows.1.cls ≠ "java/lang/invoke/MethodHandle" ∧ Y_X12_grows.1.cls ≠ "java/lang/invoke/VarHandle" ∧ (parseMethodDescriptor Y_X12_grows.1.desc).map (fun d => d.parameters.length) = some 1 := by decide +kernel
abbrev Y_X12_harms : z_Y := (yX12_harms, cX12_harms, 4, none, 1, 21)
theorem z_dc_X12_harms : Y_X12_harms.1.cls ≠ "java/lang/invoke/MethodHandle" ∧ Y_X12_harms.1.cls ≠ "java/lang/invoke/VarHandle" ∧ (parseMethodDescriptor Y_X12_harms.1.desc).map (fun d => d.parameters.length) = some 3 := by decide +kernel
abbrev Y_X12_lands : z_Y := (yX12_lands, cX12_lands, 4, none, 0, 0)
theorem z_dc_X12_lands : Y_X12_lands.1.cls ≠ "java/lang/invoke/MethodHandle" ∧ Y_X12_lands.1.cls ≠ "java/lang/invoke/VarHandle" ∧ (parseMethodDescriptor Y_X12_lands.1.desc).map (fun d => d.parameters.length) = some 2 := by decide +kernel
abbrev Y_X12_loses : z_Y := (yX12_loses, cX12_loses, 2, none, 2, 44)
theorem z_dc_X12_loses : Y_X12_loses.1.cls ≠ "java/lang/invoke/MethodHandle" ∧ Y_X12_loses.1.cls ≠ "java/lang/invoke/VarHandle" ∧ (parseMethodDescriptor Y_X12_loses.1.desc).map (fun d => d.parameters.length) = some 1 := by decide +kernel
abbrev Y_X12_losesByOrder : z_Y := (yX12_losesByOrder, cX12_losesByOrder, 3, none, 3, 65)
theorem z_dc_X12_losesByOrder : Y_X12_losesByOrder.1.cls ≠ "java/lang/invoke/MethodHandle" ∧ Y_X12_losesByOrder.1.cls ≠ "java/lang/invoke/VarHandle" ∧ (parseMethodDescriptor Y_X12_losesByOrder.1.desc).map (fun d => d.parameters.length) = some 1 := by decide +kernel
abbrev Y_X12_losesByTime : z_Y := (yX12_losesByTime, cX12_losesByTime, 4, none, 3, 65)
theorem z_dc_X12_losesByTime : Y_X12_losesByTime.1.cls ≠ "java/lang/invoke/MethodHandle" ∧ Y_X12_losesByTime.1.cls ≠ "java/lang/invoke/VarHandle" ∧ (parseMethodDescriptor Y_X12_losesByTime.1.desc).map (fun d => d.parameters.length) = some 1 := by decide +kernel
abbrev Y_X12_hearsOf : z_Y := (yX12_hearsOf, cX12_hearsOf, 4, none, 2, 56)
theorem z_dc_X12_hearsOf : Y_X12_hearsOf.1.cls ≠ "java/lang/invoke/MethodHandle" ∧ Y_X12_hearsOf.1.cls ≠ "java/lang/invoke/VarHandle" ∧ (parseMethodDescriptor Y_X12_hearsOf.1.desc).map (fun d => d.parameters.length) = some 1 := by decide +kernel
abbrev Y_X12_hearsAck : z_Y := (yX12_hearsAck, cX12_hearsAck, 7, none, 4, 88)
theorem z_dc_X12_hearsAck : Y_X12_hearsAck.1.cls ≠ "java/lang/invoke/MethodHandle" ∧ Y_X12_hearsAck.1.cls ≠ "java/lang/invoke/VarHandle" ∧ (parseMethodDescriptor Y_X12_hearsAck.1.desc).map (fun d => d.parameters.length) = some 1 := by decide +kernel
abbrev Y_X12_saysHello : z_Y := (yX12_saysHello, cX12_saysHello, 1, none, 1, 24)
theorem z_dc_X12_saysHello : Y_X12_saysHello.1.cls ≠ "java/lang/invoke/MethodHandle" ∧ Y_X12_saysHello.1.cls ≠ "java/lang/invoke/VarHandle" ∧ (parseMethodDescriptor Y_X12_saysHello.1.desc).map (fun d => d.parameters.length) = some 0 := by decide +kernel
abbrev Y_X12_hearsAccept : z_Y := (yX12_hearsAccept, cX12_hearsAccept, 3, none, 1, 23)
theorem z_dc_X12_hearsAccept : Y_X12_hearsAccept.1.cls ≠ "java/lang/invoke/MethodHandle" ∧ Y_X12_hearsAccept.1.cls ≠ "java/lang/invoke/VarHandle" ∧ (parseMethodDescriptor Y_X12_hearsAccept.1.desc).map (fun d => d.parameters.length) = some 1 := by decide +kernel
abbrev Y_X12_arrivesAtClient : z_Y := (yX12_arrivesAtClient, cX12_arrivesAtClient, 3, none, 5, 114)
theorem z_dc_X12_arrivesAtClient : Y_X12_arrivesAtClient.1.cls ≠ "java/lang/invoke/MethodHandle" ∧ Y_X12_arrivesAtClient.1.cls ≠ "java/lang/invoke/VarHandle" ∧ (parseMethodDescriptor Y_X12_arrivesAtClient.1.desc).map (fun d => d.parameters.length) = some 1 := by decide +kernel
abbrev Y_X12_sends : z_Y := (yX12_sends, cX12_sends, 8, none, 1, 24)
theorem z_dc_X12_sends : Y_X12_sends.1.cls ≠ "java/lang/invoke/MethodHandle" ∧ Y_X12_sends.1.cls ≠ "java/lang/invoke/VarHandle" ∧ (parseMethodDescriptor Y_X12_sends.1.desc).map (fun d => d.parameters.length) = some 5 := by decide +kernel
abbrev Y_X12_isLost : z_Y := (yX12_isLost, cX12_isLost, 3, (some .boolean), 0, 0)
theorem z_dc_X12_isLost : Y_X12_isLost.1.cls ≠ "java/lang/invoke/MethodHandle" ∧ Y_X12_isLost.1.cls ≠ "java/lang/invoke/VarHandle" ∧ (parseMethodDescriptor Y_X12_isLost.1.desc).map (fun d => d.parameters.length) = some 2 := by decide +kernel
abbrev Y_X12_firstLost : z_Y := (yX12_firstLost, cX12_firstLost, 3, (some .int), 1, 22)
theorem z_dc_X12_firstLost : Y_X12_firstLost.1.cls ≠ "java/lang/invoke/MethodHandle" ∧ Y_X12_firstLost.1.cls ≠ "java/lang/invoke/VarHandle" ∧ (parseMethodDescriptor Y_X12_firstLost.1.desc).map (fun d => d.parameters.length) = some 1 := by decide +kernel
abbrev Y_X12_sentInAll : z_Y := (yX12_sentInAll, cX12_sentInAll, 1, (some .int), 0, 0)
theorem z_dc_X12_sentInAll : Y_X12_sentInAll.1.cls ≠ "java/lang/invoke/MethodHandle" ∧ Y_X12_sentInAll.1.cls ≠ "java/lang/invoke/VarHandle" ∧ (parseMethodDescriptor Y_X12_sentInAll.1.desc).map (fun d => d.parameters.length) = some 0 := by decide +kernel
abbrev Y_X12_newOf : z_Y := (yX12_newOf, cX12_newOf, 5, (some .int), 1, 20)
theorem z_dc_X12_newOf : Y_X12_newOf.1.cls ≠ "java/lang/invoke/MethodHandle" ∧ Y_X12_newOf.1.cls ≠ "java/lang/invoke/VarHandle" ∧ (parseMethodDescriptor Y_X12_newOf.1.desc).map (fun d => d.parameters.length) = some 1 := by decide +kernel
abbrev Y_X12_canTake : z_Y := (yX12_canTake, cX12_canTake, 4, (some .boolean), 1, 23)
theorem z_dc_X12_canTake : Y_X12_canTake.1.cls ≠ "java/lang/invoke/MethodHandle" ∧ Y_X12_canTake.1.cls ≠ "java/lang/invoke/VarHandle" ∧ (parseMethodDescriptor Y_X12_canTake.1.desc).map (fun d => d.parameters.length) = some 1 := by decide +kernel
abbrev Y_X12_nextPath : z_Y := (yX12_nextPath, cX12_nextPath, 3, (some .int), 2, 46)
theorem z_dc_X12_nextPath : Y_X12_nextPath.1.cls ≠ "java/lang/invoke/MethodHandle" ∧ Y_X12_nextPath.1.cls ≠ "java/lang/invoke/VarHandle" ∧ (parseMethodDescriptor Y_X12_nextPath.1.desc).map (fun d => d.parameters.length) = some 0 := by decide +kernel
abbrev Y_X12_sendsNext : z_Y := (yX12_sendsNext, cX12_sendsNext, 5, (some .boolean), 2, 51)
theorem z_dc_X12_sendsNext : Y_X12_sendsNext.1.cls ≠ "java/lang/invoke/MethodHandle" ∧ Y_X12_sendsNext.1.cls ≠ "java/lang/invoke/VarHandle" ∧ (parseMethodDescriptor Y_X12_sendsNext.1.desc).map (fun d => d.parameters.length) = some 1 := by decide +kernel
abbrev Y_X12_sendsAll : z_Y := (yX12_sendsAll, cX12_sendsAll, 3, none, 3, 75)
theorem z_dc_X12_sendsAll : Y_X12_sendsAll.1.cls ≠ "java/lang/invoke/MethodHandle" ∧ Y_X12_sendsAll.1.cls ≠ "java/lang/invoke/VarHandle" ∧ (parseMethodDescriptor Y_X12_sendsAll.1.desc).map (fun d => d.parameters.length) = some 0 := by decide +kernel
abbrev Y_X12_probesOn : z_Y := (yX12_probesOn, cX12_probesOn, 4, none, 2, 51)
theorem z_dc_X12_probesOn : Y_X12_probesOn.1.cls ≠ "java/lang/invoke/MethodHandle" ∧ Y_X12_probesOn.1.cls ≠ "java/lang/invoke/VarHandle" ∧ (parseMethodDescriptor Y_X12_probesOn.1.desc).map (fun d => d.parameters.length) = some 1 := by decide +kernel
abbrev Y_X12_connect : z_Y := (yX12_connect, cX12_connect, 2, none, 2, 44)
theorem z_dc_X12_connect : Y_X12_connect.1.cls ≠ "java/lang/invoke/MethodHandle" ∧ Y_X12_connect.1.cls ≠ "java/lang/invoke/VarHandle" ∧ (parseMethodDescriptor Y_X12_connect.1.desc).map (fun d => d.parameters.length) = some 1 := by decide +kernel
abbrev Y_X12_write : z_Y := (yX12_write, cX12_write, 4, (some .int), 2, 42)
theorem z_dc_X12_write : Y_X12_write.1.cls ≠ "java/lang/invoke/MethodHandle" ∧ Y_X12_write.1.cls ≠ "java/lang/invoke/VarHandle" ∧ (parseMethodDescriptor Y_X12_write.1.desc).map (fun d => d.parameters.length) = some 2 := by decide +kernel
abbrev Y_X12_setWay : z_Y := (yX12_setWay, cX12_setWay, 4, (some .int), 2, 42)
theorem z_dc_X12_setWay : Y_X12_setWay.1.cls ≠ "java/lang/invoke/MethodHandle" ∧ Y_X12_setWay.1.cls ≠ "java/lang/invoke/VarHandle" ∧ (parseMethodDescriptor Y_X12_setWay.1.desc).map (fun d => d.parameters.length) = some 2 := by decide +kernel
abbrev Y_X12_check : z_Y := (yX12_check, cX12_check, 2, none, 2, 42)
theorem z_dc_X12_check : Y_X12_check.1.cls ≠ "java/lang/invoke/MethodHandle" ∧ Y_X12_check.1.cls ≠ "java/lang/invoke/VarHandle" ∧ (parseMethodDescriptor Y_X12_check.1.desc).map (fun d => d.parameters.length) = some 1 := by decide +kernel
abbrev Y_X12_use : z_Y := (yX12_use, cX12_use, 4, (some .int), 1, 23)
theorem z_dc_X12_use : Y_X12_use.1.cls ≠ "java/lang/invoke/MethodHandle" ∧ Y_X12_use.1.cls ≠ "java/lang/invoke/VarHandle" ∧ (parseMethodDescriptor Y_X12_use.1.desc).map (fun d => d.parameters.length) = some 1 := by decide +kernel
abbrev Y_X12_changeKey : z_Y := (yX12_changeKey, cX12_changeKey, 3, (some .int), 1, 23)
theorem z_dc_X12_changeKey : Y_X12_changeKey.1.cls ≠ "java/lang/invoke/MethodHandle" ∧ Y_X12_changeKey.1.cls ≠ "java/lang/invoke/VarHandle" ∧ (parseMethodDescriptor Y_X12_changeKey.1.desc).map (fun d => d.parameters.length) = some 0 := by decide +kernel
abbrev Y_X12_close : z_Y := (yX12_close, cX12_close, 1, none, 1, 24)
theorem z_dc_X12_close : Y_X12_close.1.cls ≠ "java/lang/invoke/MethodHandle" ∧ Y_X12_close.1.cls ≠ "java/lang/invoke/VarHandle" ∧ (parseMethodDescriptor Y_X12_close.1.desc).map (fun d => d.parameters.length) = some 0 := by decide +kernel
abbrev Y_X12_passes : z_Y := (yX12_passes, cX12_passes, 3, none, 6, 136)
theorem z_dc_X12_passes : Y_X12_passes.1.cls ≠ "java/lang/invoke/MethodHandle" ∧ Y_X12_passes.1.cls ≠ "java/lang/invoke/VarHandle" ∧ (parseMethodDescriptor Y_X12_passes.1.desc).map (fun d => d.parameters.length) = some 0 := by decide +kernel
abbrev Y_X12_tick : z_Y := (yX12_tick, cX12_tick, 3, (some .int), 7, 158)
theorem z_dc_X12_tick : Y_X12_tick.1.cls ≠ "java/lang/invoke/MethodHandle" ∧ Y_X12_tick.1.cls ≠ "java/lang/invoke/VarHandle" ∧ (parseMethodDescriptor Y_X12_tick.1.desc).map (fun d => d.parameters.length) = some 1 := by decide +kernel
abbrev Y_X12_now : z_Y := (yX12_now, cX12_now, 1, (some .int), 0, 0)
theorem z_dc_X12_now : Y_X12_now.1.cls ≠ "java/lang/invoke/MethodHandle" ∧ Y_X12_now.1.cls ≠ "java/lang/invoke/VarHandle" ∧ (parseMethodDescriptor Y_X12_now.1.desc).map (fun d => d.parameters.length) = some 0 := by decide +kernel
abbrev Y_X12_state : z_Y := (yX12_state, cX12_state, 2, (some .int), 1, 23)
theorem z_dc_X12_state : Y_X12_state.1.cls ≠ "java/lang/invoke/MethodHandle" ∧ Y_X12_state.1.cls ≠ "java/lang/invoke/VarHandle" ∧ (parseMethodDescriptor Y_X12_state.1.desc).map (fun d => d.parameters.length) = some 1 := by decide +kernel
abbrev Y_X12_path : z_Y := (yX12_path, cX12_path, 3, (some .int), 2, 42)
theorem z_dc_X12_path : Y_X12_path.1.cls ≠ "java/lang/invoke/MethodHandle" ∧ Y_X12_path.1.cls ≠ "java/lang/invoke/VarHandle" ∧ (parseMethodDescriptor Y_X12_path.1.desc).map (fun d => d.parameters.length) = some 2 := by decide +kernel
abbrev Y_X12_stream : z_Y := (yX12_stream, cX12_stream, 5, (some .int), 2, 42)
theorem z_dc_X12_stream : Y_X12_stream.1.cls ≠ "java/lang/invoke/MethodHandle" ∧ Y_X12_stream.1.cls ≠ "java/lang/invoke/VarHandle" ∧ (parseMethodDescriptor Y_X12_stream.1.desc).map (fun d => d.parameters.length) = some 2 := by decide +kernel
abbrev Y_X12_credit : z_Y := (yX12_credit, cX12_credit, 1, (some .int), 0, 0)
theorem z_dc_X12_credit : Y_X12_credit.1.cls ≠ "java/lang/invoke/MethodHandle" ∧ Y_X12_credit.1.cls ≠ "java/lang/invoke/VarHandle" ∧ (parseMethodDescriptor Y_X12_credit.1.desc).map (fun d => d.parameters.length) = some 0 := by decide +kernel
abbrev Y_X12_packets : z_Y := (yX12_packets, cX12_packets, 1, (some .int), 0, 0)
theorem z_dc_X12_packets : Y_X12_packets.1.cls ≠ "java/lang/invoke/MethodHandle" ∧ Y_X12_packets.1.cls ≠ "java/lang/invoke/VarHandle" ∧ (parseMethodDescriptor Y_X12_packets.1.desc).map (fun d => d.parameters.length) = some 0 := by decide +kernel
abbrev Y_X12_packet : z_Y := (yX12_packet, cX12_packet, 3, (some .int), 1, 23)
theorem z_dc_X12_packet : Y_X12_packet.1.cls ≠ "java/lang/invoke/MethodHandle" ∧ Y_X12_packet.1.cls ≠ "java/lang/invoke/VarHandle" ∧ (parseMethodDescriptor Y_X12_packet.1.desc).map (fun d => d.parameters.length) = some 2 := by decide +kernel
abbrev Y_X12_count : z_Y := (yX12_count, cX12_count, 2, (some .int), 1, 23)
theorem z_dc_X12_count : Y_X12_count.1.cls ≠ "java/lang/invoke/MethodHandle" ∧ Y_X12_count.1.cls ≠ "java/lang/invoke/VarHandle" ∧ (parseMethodDescriptor Y_X12_count.1.desc).map (fun d => d.parameters.length) = some 1 := by decide +kernel
abbrev Y_X12_inFlightAnew : z_Y := (yX12_inFlightAnew, cX12_inFlightAnew, 2, (some .int), 2, 42)
theorem z_dc_X12_inFlightAnew : Y_X12_inFlightAnew.1.cls ≠ "java/lang/invoke/MethodHandle" ∧ Y_X12_inFlightAnew.1.cls ≠ "java/lang/invoke/VarHandle" ∧ (parseMethodDescriptor Y_X12_inFlightAnew.1.desc).map (fun d => d.parameters.length) = some 1 := by decide +kernel
abbrev Y_X12_gotAnew : z_Y := (yX12_gotAnew, cX12_gotAnew, 5, (some .int), 2, 42)
theorem z_dc_X12_gotAnew : Y_X12_gotAnew.1.cls ≠ "java/lang/invoke/MethodHandle" ∧ Y_X12_gotAnew.1.cls ≠ "java/lang/invoke/VarHandle" ∧ (parseMethodDescriptor Y_X12_gotAnew.1.desc).map (fun d => d.parameters.length) = some 1 := by decide +kernel
theorem z_df0 : ∀ k, k < z_N 0 → defaultValue (z_ty 0 k) = if z_fk 0 k < 2 then .int 0 else .null := by decide +kernel
theorem z_df1 : ∀ k, k < z_N 1 → defaultValue (z_ty 1 k) = if z_fk 1 k < 2 then .int 0 else .null := by decide +kernel
theorem z_df2 : ∀ k, k < z_N 2 → defaultValue (z_ty 2 k) = if z_fk 2 k < 2 then .int 0 else .null := by decide +kernel
theorem z_df3 : ∀ k, k < z_N 3 → defaultValue (z_ty 3 k) = if z_fk 3 k < 2 then .int 0 else .null := by decide +kernel
theorem z_df4 : ∀ k, k < z_N 4 → defaultValue (z_ty 4 k) = if z_fk 4 k < 2 then .int 0 else .null := by decide +kernel
theorem z_df5 : ∀ k, k < z_N 5 → defaultValue (z_ty 5 k) = if z_fk 5 k < 2 then .int 0 else .null := by decide +kernel
theorem z_df6 : ∀ k, k < z_N 6 → defaultValue (z_ty 6 k) = if z_fk 6 k < 2 then .int 0 else .null := by decide +kernel
theorem z_df7 : ∀ k, k < z_N 7 → defaultValue (z_ty 7 k) = if z_fk 7 k < 2 then .int 0 else .null := by decide +kernel
theorem z_df8 : ∀ k, k < z_N 8 → defaultValue (z_ty 8 k) = if z_fk 8 k < 2 then .int 0 else .null := by decide +kernel
theorem z_df9 : ∀ k, k < z_N 9 → defaultValue (z_ty 9 k) = if z_fk 9 k < 2 then .int 0 else .null := by decide +kernel
theorem z_df10 : ∀ k, k < z_N 10 → defaultValue (z_ty 10 k) = if z_fk 10 k < 2 then .int 0 else .null := by decide +kernel
theorem z_df11 : ∀ k, k < z_N 11 → defaultValue (z_ty 11 k) = if z_fk 11 k < 2 then .int 0 else .null := by decide +kernel
theorem z_df12 : ∀ k, k < z_N 12 → defaultValue (z_ty 12 k) = if z_fk 12 k < 2 then .int 0 else .null := by decide +kernel
