theorem dX0_init_0 : decode cX0_init 0 = .ok (.aload_n 0, 1) := by decide +kernel
theorem dX0_init_1 : decode cX0_init 1 = .ok (.invokespecial 3, 3) := by decide +kernel
theorem dX0_init_4 : decode cX0_init 4 = .ok (.aload_n 0, 1) := by decide +kernel
theorem dX0_init_5 : decode cX0_init 5 = .ok (.iconst 4, 1) := by decide +kernel
theorem dX0_init_6 : decode cX0_init 6 = .ok (.newarray .int, 2) := by decide +kernel
theorem dX0_init_8 : decode cX0_init 8 = .ok (.putfield 9, 3) := by decide +kernel
theorem dX0_init_11 : decode cX0_init 11 = .ok (.aload_n 0, 1) := by decide +kernel
theorem dX0_init_12 : decode cX0_init 12 = .ok (.iconst 4, 1) := by decide +kernel
theorem dX0_init_13 : decode cX0_init 13 = .ok (.newarray .int, 2) := by decide +kernel
theorem dX0_init_15 : decode cX0_init 15 = .ok (.putfield 15, 3) := by decide +kernel
theorem dX0_init_18 : decode cX0_init 18 = .ok (.aload_n 0, 1) := by decide +kernel
theorem dX0_init_19 : decode cX0_init 19 = .ok (.iconst 4, 1) := by decide +kernel
theorem dX0_init_20 : decode cX0_init 20 = .ok (.newarray .int, 2) := by decide +kernel
theorem dX0_init_22 : decode cX0_init 22 = .ok (.putfield 18, 3) := by decide +kernel
theorem dX0_init_25 : decode cX0_init 25 = .ok (.return_, 1) := by decide +kernel
theorem dX0_addRange_0 : decode cX0_addRange 0 = .ok (.aload_n 0, 1) := by decide +kernel
theorem dX0_addRange_1 : decode cX0_addRange 1 = .ok (.getfield 21, 3) := by decide +kernel
theorem dX0_addRange_4 : decode cX0_addRange 4 = .ok (.iconst 4, 1) := by decide +kernel
theorem dX0_addRange_5 : decode cX0_addRange 5 = .ok (.if_icmp .ge 33, 3) := by decide +kernel
theorem dX0_addRange_8 : decode cX0_addRange 8 = .ok (.aload_n 0, 1) := by decide +kernel
theorem dX0_addRange_9 : decode cX0_addRange 9 = .ok (.getfield 9, 3) := by decide +kernel
theorem dX0_addRange_12 : decode cX0_addRange 12 = .ok (.aload_n 0, 1) := by decide +kernel
theorem dX0_addRange_13 : decode cX0_addRange 13 = .ok (.getfield 21, 3) := by decide +kernel
theorem dX0_addRange_16 : decode cX0_addRange 16 = .ok (.iload_n 1, 1) := by decide +kernel
theorem dX0_addRange_17 : decode cX0_addRange 17 = .ok (.iastore, 1) := by decide +kernel
theorem dX0_addRange_18 : decode cX0_addRange 18 = .ok (.aload_n 0, 1) := by decide +kernel
theorem dX0_addRange_19 : decode cX0_addRange 19 = .ok (.getfield 15, 3) := by decide +kernel
theorem dX0_addRange_22 : decode cX0_addRange 22 = .ok (.aload_n 0, 1) := by decide +kernel
theorem dX0_addRange_23 : decode cX0_addRange 23 = .ok (.getfield 21, 3) := by decide +kernel
theorem dX0_addRange_26 : decode cX0_addRange 26 = .ok (.iload_n 2, 1) := by decide +kernel
theorem dX0_addRange_27 : decode cX0_addRange 27 = .ok (.iastore, 1) := by decide +kernel
theorem dX0_addRange_28 : decode cX0_addRange 28 = .ok (.aload_n 0, 1) := by decide +kernel
theorem dX0_addRange_29 : decode cX0_addRange 29 = .ok (.dup, 1) := by decide +kernel
theorem dX0_addRange_30 : decode cX0_addRange 30 = .ok (.getfield 21, 3) := by decide +kernel
theorem dX0_addRange_33 : decode cX0_addRange 33 = .ok (.iconst 1, 1) := by decide +kernel
theorem dX0_addRange_34 : decode cX0_addRange 34 = .ok (.iadd, 1) := by decide +kernel
theorem dX0_addRange_35 : decode cX0_addRange 35 = .ok (.putfield 21, 3) := by decide +kernel
theorem dX0_addRange_38 : decode cX0_addRange 38 = .ok (.return_, 1) := by decide +kernel
theorem dX0_greatest_0 : decode cX0_greatest 0 = .ok (.aload_n 0, 1) := by decide +kernel
theorem dX0_greatest_1 : decode cX0_greatest 1 = .ok (.getfield 21, 3) := by decide +kernel
theorem dX0_greatest_4 : decode cX0_greatest 4 = .ok (.ifCond .le 12, 3) := by decide +kernel
theorem dX0_greatest_7 : decode cX0_greatest 7 = .ok (.aload_n 0, 1) := by decide +kernel
theorem dX0_greatest_8 : decode cX0_greatest 8 = .ok (.getfield 15, 3) := by decide +kernel
theorem dX0_greatest_11 : decode cX0_greatest 11 = .ok (.iconst 0, 1) := by decide +kernel
theorem dX0_greatest_12 : decode cX0_greatest 12 = .ok (.iaload, 1) := by decide +kernel
theorem dX0_greatest_13 : decode cX0_greatest 13 = .ok (.goto 4, 3) := by decide +kernel
theorem dX0_greatest_16 : decode cX0_greatest 16 = .ok (.iconst (-1), 1) := by decide +kernel
theorem dX0_greatest_17 : decode cX0_greatest 17 = .ok (.ireturn, 1) := by decide +kernel
theorem dX1_init_0 : decode cX1_init 0 = .ok (.aload_n 0, 1) := by decide +kernel
theorem dX1_init_1 : decode cX1_init 1 = .ok (.invokespecial 3, 3) := by decide +kernel
theorem dX1_init_4 : decode cX1_init 4 = .ok (.aload_n 0, 1) := by decide +kernel
theorem dX1_init_5 : decode cX1_init 5 = .ok (.new 9, 3) := by decide +kernel
theorem dX1_init_8 : decode cX1_init 8 = .ok (.dup, 1) := by decide +kernel
theorem dX1_init_9 : decode cX1_init 9 = .ok (.iconst 0, 1) := by decide +kernel
theorem dX1_init_10 : decode cX1_init 10 = .ok (.invokespecial 11, 3) := by decide +kernel
theorem dX1_init_13 : decode cX1_init 13 = .ok (.putfield 14, 3) := by decide +kernel
theorem dX1_init_16 : decode cX1_init 16 = .ok (.aload_n 0, 1) := by decide +kernel
theorem dX1_init_17 : decode cX1_init 17 = .ok (.new 9, 3) := by decide +kernel
theorem dX1_init_20 : decode cX1_init 20 = .ok (.dup, 1) := by decide +kernel
theorem dX1_init_21 : decode cX1_init 21 = .ok (.iconst 1, 1) := by decide +kernel
theorem dX1_init_22 : decode cX1_init 22 = .ok (.invokespecial 11, 3) := by decide +kernel
theorem dX1_init_25 : decode cX1_init 25 = .ok (.putfield 20, 3) := by decide +kernel
theorem dX1_init_28 : decode cX1_init 28 = .ok (.aload_n 0, 1) := by decide +kernel
theorem dX1_init_29 : decode cX1_init 29 = .ok (.sipush 400, 3) := by decide +kernel
theorem dX1_init_32 : decode cX1_init 32 = .ok (.anewarray 23, 3) := by decide +kernel
theorem dX1_init_35 : decode cX1_init 35 = .ok (.putfield 25, 3) := by decide +kernel
theorem dX1_init_38 : decode cX1_init 38 = .ok (.aload_n 0, 1) := by decide +kernel
theorem dX1_init_39 : decode cX1_init 39 = .ok (.iconst 0, 1) := by decide +kernel
theorem dX1_init_40 : decode cX1_init 40 = .ok (.putfield 29, 3) := by decide +kernel
theorem dX1_init_43 : decode cX1_init 43 = .ok (.aload_n 0, 1) := by decide +kernel
theorem dX1_init_44 : decode cX1_init 44 = .ok (.iconst (-1), 1) := by decide +kernel
theorem dX1_init_45 : decode cX1_init 45 = .ok (.putfield 33, 3) := by decide +kernel
theorem dX1_init_48 : decode cX1_init 48 = .ok (.aload_n 0, 1) := by decide +kernel
theorem dX1_init_49 : decode cX1_init 49 = .ok (.bipush 10, 2) := by decide +kernel
theorem dX1_init_51 : decode cX1_init 51 = .ok (.putfield 36, 3) := by decide +kernel
theorem dX1_init_54 : decode cX1_init 54 = .ok (.aload_n 0, 1) := by decide +kernel
theorem dX1_init_55 : decode cX1_init 55 = .ok (.bipush 100, 2) := by decide +kernel
theorem dX1_init_57 : decode cX1_init 57 = .ok (.putfield 39, 3) := by decide +kernel
theorem dX1_init_60 : decode cX1_init 60 = .ok (.aload_n 0, 1) := by decide +kernel
theorem dX1_init_61 : decode cX1_init 61 = .ok (.iconst 3, 1) := by decide +kernel
theorem dX1_init_62 : decode cX1_init 62 = .ok (.putfield 42, 3) := by decide +kernel
theorem dX1_init_65 : decode cX1_init 65 = .ok (.aload_n 0, 1) := by decide +kernel
theorem dX1_init_66 : decode cX1_init 66 = .ok (.aload_n 1, 1) := by decide +kernel
theorem dX1_init_67 : decode cX1_init 67 = .ok (.putfield 45, 3) := by decide +kernel
theorem dX1_init_70 : decode cX1_init 70 = .ok (.aload_n 0, 1) := by decide +kernel
theorem dX1_init_71 : decode cX1_init 71 = .ok (.aload_n 2, 1) := by decide +kernel
theorem dX1_init_72 : decode cX1_init 72 = .ok (.putfield 49, 3) := by decide +kernel
theorem dX1_init_75 : decode cX1_init 75 = .ok (.return_, 1) := by decide +kernel
theorem dX1_routeOf_0 : decode cX1_routeOf 0 = .ok (.iload_n 1, 1) := by decide +kernel
theorem dX1_routeOf_1 : decode cX1_routeOf 1 = .ok (.ifCond .ne 10, 3) := by decide +kernel
theorem dX1_routeOf_4 : decode cX1_routeOf 4 = .ok (.aload_n 0, 1) := by decide +kernel
theorem dX1_routeOf_5 : decode cX1_routeOf 5 = .ok (.getfield 14, 3) := by decide +kernel
theorem dX1_routeOf_8 : decode cX1_routeOf 8 = .ok (.goto 7, 3) := by decide +kernel
theorem dX1_routeOf_11 : decode cX1_routeOf 11 = .ok (.aload_n 0, 1) := by decide +kernel
theorem dX1_routeOf_12 : decode cX1_routeOf 12 = .ok (.getfield 20, 3) := by decide +kernel
theorem dX1_routeOf_15 : decode cX1_routeOf 15 = .ok (.areturn, 1) := by decide +kernel
theorem dX1_packetAt_0 : decode cX1_packetAt 0 = .ok (.iload_n 1, 1) := by decide +kernel
theorem dX1_packetAt_1 : decode cX1_packetAt 1 = .ok (.ifCond .lt 27, 3) := by decide +kernel
theorem dX1_packetAt_4 : decode cX1_packetAt 4 = .ok (.iload_n 1, 1) := by decide +kernel
theorem dX1_packetAt_5 : decode cX1_packetAt 5 = .ok (.aload_n 0, 1) := by decide +kernel
theorem dX1_packetAt_6 : decode cX1_packetAt 6 = .ok (.getfield 53, 3) := by decide +kernel
theorem dX1_packetAt_9 : decode cX1_packetAt 9 = .ok (.if_icmp .ge 19, 3) := by decide +kernel
theorem dX1_packetAt_12 : decode cX1_packetAt 12 = .ok (.iload_n 1, 1) := by decide +kernel
theorem dX1_packetAt_13 : decode cX1_packetAt 13 = .ok (.sipush 400, 3) := by decide +kernel
theorem dX1_packetAt_16 : decode cX1_packetAt 16 = .ok (.if_icmp .ge 12, 3) := by decide +kernel
theorem dX1_packetAt_19 : decode cX1_packetAt 19 = .ok (.aload_n 0, 1) := by decide +kernel
theorem dX1_packetAt_20 : decode cX1_packetAt 20 = .ok (.getfield 25, 3) := by decide +kernel
theorem dX1_packetAt_23 : decode cX1_packetAt 23 = .ok (.iload_n 1, 1) := by decide +kernel
theorem dX1_packetAt_24 : decode cX1_packetAt 24 = .ok (.aaload, 1) := by decide +kernel
theorem dX1_packetAt_25 : decode cX1_packetAt 25 = .ok (.goto 4, 3) := by decide +kernel
theorem dX1_packetAt_28 : decode cX1_packetAt 28 = .ok (.aconst_null, 1) := by decide +kernel
theorem dX1_packetAt_29 : decode cX1_packetAt 29 = .ok (.areturn, 1) := by decide +kernel
theorem dX1_beginHello_0 : decode cX1_beginHello 0 = .ok (.aload_n 0, 1) := by decide +kernel
theorem dX1_beginHello_1 : decode cX1_beginHello 1 = .ok (.iconst 1, 1) := by decide +kernel
theorem dX1_beginHello_2 : decode cX1_beginHello 2 = .ok (.putfield 29, 3) := by decide +kernel
theorem dX1_beginHello_5 : decode cX1_beginHello 5 = .ok (.aload_n 0, 1) := by decide +kernel
theorem dX1_beginHello_6 : decode cX1_beginHello 6 = .ok (.iload_n 1, 1) := by decide +kernel
theorem dX1_beginHello_7 : decode cX1_beginHello 7 = .ok (.putfield 33, 3) := by decide +kernel
theorem dX1_beginHello_10 : decode cX1_beginHello 10 = .ok (.aload_n 0, 1) := by decide +kernel
theorem dX1_beginHello_11 : decode cX1_beginHello 11 = .ok (.invokevirtual 56, 3) := by decide +kernel
theorem dX1_beginHello_14 : decode cX1_beginHello 14 = .ok (.return_, 1) := by decide +kernel
theorem dX1_sayHello_0 : decode cX1_sayHello 0 = .ok (.aload_n 0, 1) := by decide +kernel
theorem dX1_sayHello_1 : decode cX1_sayHello 1 = .ok (.dup, 1) := by decide +kernel
theorem dX1_sayHello_2 : decode cX1_sayHello 2 = .ok (.getfield 59, 3) := by decide +kernel
theorem dX1_sayHello_5 : decode cX1_sayHello 5 = .ok (.iconst 1, 1) := by decide +kernel
theorem dX1_sayHello_6 : decode cX1_sayHello 6 = .ok (.iadd, 1) := by decide +kernel
theorem dX1_sayHello_7 : decode cX1_sayHello 7 = .ok (.putfield 59, 3) := by decide +kernel
theorem dX1_sayHello_10 : decode cX1_sayHello 10 = .ok (.aload_n 0, 1) := by decide +kernel
theorem dX1_sayHello_11 : decode cX1_sayHello 11 = .ok (.aload_n 0, 1) := by decide +kernel
theorem dX1_sayHello_12 : decode cX1_sayHello 12 = .ok (.getfield 45, 3) := by decide +kernel
theorem dX1_sayHello_15 : decode cX1_sayHello 15 = .ok (.getfield 62, 3) := by decide +kernel
theorem dX1_sayHello_18 : decode cX1_sayHello 18 = .ok (.putfield 67, 3) := by decide +kernel
theorem dX1_sayHello_21 : decode cX1_sayHello 21 = .ok (.new 70, 3) := by decide +kernel
theorem dX1_sayHello_24 : decode cX1_sayHello 24 = .ok (.dup, 1) := by decide +kernel
theorem dX1_sayHello_25 : decode cX1_sayHello 25 = .ok (.iconst 0, 1) := by decide +kernel
theorem dX1_sayHello_26 : decode cX1_sayHello 26 = .ok (.invokespecial 72, 3) := by decide +kernel
theorem dX1_sayHello_29 : decode cX1_sayHello 29 = .ok (.astore_n 1, 1) := by decide +kernel
theorem dX1_sayHello_30 : decode cX1_sayHello 30 = .ok (.aload_n 1, 1) := by decide +kernel
theorem dX1_sayHello_31 : decode cX1_sayHello 31 = .ok (.aload_n 0, 1) := by decide +kernel
theorem dX1_sayHello_32 : decode cX1_sayHello 32 = .ok (.getfield 33, 3) := by decide +kernel
theorem dX1_sayHello_35 : decode cX1_sayHello 35 = .ok (.putfield 73, 3) := by decide +kernel
theorem dX1_sayHello_38 : decode cX1_sayHello 38 = .ok (.aload_n 1, 1) := by decide +kernel
theorem dX1_sayHello_39 : decode cX1_sayHello 39 = .ok (.aload_n 0, 1) := by decide +kernel
theorem dX1_sayHello_40 : decode cX1_sayHello 40 = .ok (.getfield 74, 3) := by decide +kernel
theorem dX1_sayHello_43 : decode cX1_sayHello 43 = .ok (.putfield 78, 3) := by decide +kernel
theorem dX1_sayHello_46 : decode cX1_sayHello 46 = .ok (.aload_n 0, 1) := by decide +kernel
theorem dX1_sayHello_47 : decode cX1_sayHello 47 = .ok (.getfield 45, 3) := by decide +kernel
theorem dX1_sayHello_50 : decode cX1_sayHello 50 = .ok (.iconst 0, 1) := by decide +kernel
theorem dX1_sayHello_51 : decode cX1_sayHello 51 = .ok (.aload_n 1, 1) := by decide +kernel
theorem dX1_sayHello_52 : decode cX1_sayHello 52 = .ok (.invokevirtual 79, 3) := by decide +kernel
theorem dX1_sayHello_55 : decode cX1_sayHello 55 = .ok (.return_, 1) := by decide +kernel
theorem dX1_canChangeKey_0 : decode cX1_canChangeKey 0 = .ok (.iconst 0, 1) := by decide +kernel
theorem dX1_canChangeKey_1 : decode cX1_canChangeKey 1 = .ok (.istore_n 1, 1) := by decide +kernel
theorem dX1_canChangeKey_2 : decode cX1_canChangeKey 2 = .ok (.iconst 0, 1) := by decide +kernel
theorem dX1_canChangeKey_3 : decode cX1_canChangeKey 3 = .ok (.istore_n 2, 1) := by decide +kernel
theorem dX1_canChangeKey_4 : decode cX1_canChangeKey 4 = .ok (.iload_n 2, 1) := by decide +kernel
theorem dX1_canChangeKey_5 : decode cX1_canChangeKey 5 = .ok (.aload_n 0, 1) := by decide +kernel
theorem dX1_canChangeKey_6 : decode cX1_canChangeKey 6 = .ok (.getfield 53, 3) := by decide +kernel
theorem dX1_canChangeKey_9 : decode cX1_canChangeKey 9 = .ok (.if_icmp .ge 39, 3) := by decide +kernel
theorem dX1_canChangeKey_12 : decode cX1_canChangeKey 12 = .ok (.aload_n 0, 1) := by decide +kernel
theorem dX1_canChangeKey_13 : decode cX1_canChangeKey 13 = .ok (.iload_n 2, 1) := by decide +kernel
theorem dX1_canChangeKey_14 : decode cX1_canChangeKey 14 = .ok (.invokevirtual 83, 3) := by decide +kernel
theorem dX1_canChangeKey_17 : decode cX1_canChangeKey 17 = .ok (.astore_n 3, 1) := by decide +kernel
theorem dX1_canChangeKey_18 : decode cX1_canChangeKey 18 = .ok (.aload_n 3, 1) := by decide +kernel
theorem dX1_canChangeKey_19 : decode cX1_canChangeKey 19 = .ok (.ifnull 23, 3) := by decide +kernel
theorem dX1_canChangeKey_22 : decode cX1_canChangeKey 22 = .ok (.aload_n 3, 1) := by decide +kernel
theorem dX1_canChangeKey_23 : decode cX1_canChangeKey 23 = .ok (.getfield 87, 3) := by decide +kernel
theorem dX1_canChangeKey_26 : decode cX1_canChangeKey 26 = .ok (.aload_n 0, 1) := by decide +kernel
theorem dX1_canChangeKey_27 : decode cX1_canChangeKey 27 = .ok (.getfield 90, 3) := by decide +kernel
theorem dX1_canChangeKey_30 : decode cX1_canChangeKey 30 = .ok (.if_icmp .ne 12, 3) := by decide +kernel
theorem dX1_canChangeKey_33 : decode cX1_canChangeKey 33 = .ok (.aload_n 3, 1) := by decide +kernel
theorem dX1_canChangeKey_34 : decode cX1_canChangeKey 34 = .ok (.invokestatic 91, 3) := by decide +kernel
theorem dX1_canChangeKey_37 : decode cX1_canChangeKey 37 = .ok (.ifCond .eq 5, 3) := by decide +kernel
theorem dX1_canChangeKey_40 : decode cX1_canChangeKey 40 = .ok (.iconst 1, 1) := by decide +kernel
theorem dX1_canChangeKey_41 : decode cX1_canChangeKey 41 = .ok (.istore_n 1, 1) := by decide +kernel
theorem dX1_canChangeKey_42 : decode cX1_canChangeKey 42 = .ok (.iinc 2 1, 3) := by decide +kernel
theorem dX1_canChangeKey_45 : decode cX1_canChangeKey 45 = .ok (.goto (-41), 3) := by decide +kernel
theorem dX1_canChangeKey_48 : decode cX1_canChangeKey 48 = .ok (.aload_n 0, 1) := by decide +kernel
theorem dX1_canChangeKey_49 : decode cX1_canChangeKey 49 = .ok (.getfield 29, 3) := by decide +kernel
theorem dX1_canChangeKey_52 : decode cX1_canChangeKey 52 = .ok (.iconst 2, 1) := by decide +kernel
theorem dX1_canChangeKey_53 : decode cX1_canChangeKey 53 = .ok (.if_icmp .ne 11, 3) := by decide +kernel
theorem dX1_canChangeKey_56 : decode cX1_canChangeKey 56 = .ok (.iload_n 1, 1) := by decide +kernel
theorem dX1_canChangeKey_57 : decode cX1_canChangeKey 57 = .ok (.ifCond .eq 7, 3) := by decide +kernel
theorem dX1_canChangeKey_60 : decode cX1_canChangeKey 60 = .ok (.iconst 1, 1) := by decide +kernel
theorem dX1_canChangeKey_61 : decode cX1_canChangeKey 61 = .ok (.goto 4, 3) := by decide +kernel
theorem dX1_canChangeKey_64 : decode cX1_canChangeKey 64 = .ok (.iconst 0, 1) := by decide +kernel
theorem dX1_canChangeKey_65 : decode cX1_canChangeKey 65 = .ok (.ireturn, 1) := by decide +kernel
theorem dX1_isAcknowledged_0 : decode cX1_isAcknowledged 0 = .ok (.aload_n 0, 1) := by decide +kernel
theorem dX1_isAcknowledged_1 : decode cX1_isAcknowledged 1 = .ok (.getfield 95, 3) := by decide +kernel
theorem dX1_isAcknowledged_4 : decode cX1_isAcknowledged 4 = .ok (.iconst 1, 1) := by decide +kernel
theorem dX1_isAcknowledged_5 : decode cX1_isAcknowledged 5 = .ok (.if_icmp .eq 11, 3) := by decide +kernel
theorem dX1_isAcknowledged_8 : decode cX1_isAcknowledged 8 = .ok (.aload_n 0, 1) := by decide +kernel
theorem dX1_isAcknowledged_9 : decode cX1_isAcknowledged 9 = .ok (.getfield 95, 3) := by decide +kernel
theorem dX1_isAcknowledged_12 : decode cX1_isAcknowledged 12 = .ok (.iconst 3, 1) := by decide +kernel
theorem dX1_isAcknowledged_13 : decode cX1_isAcknowledged 13 = .ok (.if_icmp .ne 7, 3) := by decide +kernel
theorem dX1_isAcknowledged_16 : decode cX1_isAcknowledged 16 = .ok (.iconst 1, 1) := by decide +kernel
theorem dX1_isAcknowledged_17 : decode cX1_isAcknowledged 17 = .ok (.goto 4, 3) := by decide +kernel
theorem dX1_isAcknowledged_20 : decode cX1_isAcknowledged 20 = .ok (.iconst 0, 1) := by decide +kernel
theorem dX1_isAcknowledged_21 : decode cX1_isAcknowledged 21 = .ok (.ireturn, 1) := by decide +kernel
theorem dX1_beginClosing_0 : decode cX1_beginClosing 0 = .ok (.aload_n 0, 1) := by decide +kernel
theorem dX1_beginClosing_1 : decode cX1_beginClosing 1 = .ok (.iconst 3, 1) := by decide +kernel
theorem dX1_beginClosing_2 : decode cX1_beginClosing 2 = .ok (.putfield 29, 3) := by decide +kernel
theorem dX1_beginClosing_5 : decode cX1_beginClosing 5 = .ok (.aload_n 0, 1) := by decide +kernel
theorem dX1_beginClosing_6 : decode cX1_beginClosing 6 = .ok (.aload_n 0, 1) := by decide +kernel
theorem dX1_beginClosing_7 : decode cX1_beginClosing 7 = .ok (.getfield 45, 3) := by decide +kernel
theorem dX1_beginClosing_10 : decode cX1_beginClosing 10 = .ok (.getfield 62, 3) := by decide +kernel
theorem dX1_beginClosing_13 : decode cX1_beginClosing 13 = .ok (.bipush 30, 2) := by decide +kernel
theorem dX1_beginClosing_15 : decode cX1_beginClosing 15 = .ok (.iadd, 1) := by decide +kernel
theorem dX1_beginClosing_16 : decode cX1_beginClosing 16 = .ok (.putfield 98, 3) := by decide +kernel
theorem dX1_beginClosing_19 : decode cX1_beginClosing 19 = .ok (.aload_n 0, 1) := by decide +kernel
theorem dX1_beginClosing_20 : decode cX1_beginClosing 20 = .ok (.getfield 45, 3) := by decide +kernel
theorem dX1_beginClosing_23 : decode cX1_beginClosing 23 = .ok (.aload_n 0, 1) := by decide +kernel
theorem dX1_beginClosing_24 : decode cX1_beginClosing 24 = .ok (.getfield 101, 3) := by decide +kernel
theorem dX1_beginClosing_27 : decode cX1_beginClosing 27 = .ok (.iconst 1, 1) := by decide +kernel
theorem dX1_beginClosing_28 : decode cX1_beginClosing 28 = .ok (.if_icmp .ne 7, 3) := by decide +kernel
theorem dX1_beginClosing_31 : decode cX1_beginClosing 31 = .ok (.iconst 1, 1) := by decide +kernel
theorem dX1_beginClosing_32 : decode cX1_beginClosing 32 = .ok (.goto 4, 3) := by decide +kernel
theorem dX1_beginClosing_35 : decode cX1_beginClosing 35 = .ok (.iconst 0, 1) := by decide +kernel
theorem dX1_beginClosing_36 : decode cX1_beginClosing 36 = .ok (.new 70, 3) := by decide +kernel
theorem dX1_beginClosing_39 : decode cX1_beginClosing 39 = .ok (.dup, 1) := by decide +kernel
theorem dX1_beginClosing_40 : decode cX1_beginClosing 40 = .ok (.bipush 7, 2) := by decide +kernel
theorem dX1_beginClosing_42 : decode cX1_beginClosing 42 = .ok (.invokespecial 72, 3) := by decide +kernel
theorem dX1_beginClosing_45 : decode cX1_beginClosing 45 = .ok (.invokevirtual 79, 3) := by decide +kernel
theorem dX1_beginClosing_48 : decode cX1_beginClosing 48 = .ok (.return_, 1) := by decide +kernel
theorem dX1_hearAll_0 : decode cX1_hearAll 0 = .ok (.aload_n 0, 1) := by decide +kernel
theorem dX1_hearAll_1 : decode cX1_hearAll 1 = .ok (.getfield 45, 3) := by decide +kernel
theorem dX1_hearAll_4 : decode cX1_hearAll 4 = .ok (.getfield 104, 3) := by decide +kernel
theorem dX1_hearAll_7 : decode cX1_hearAll 7 = .ok (.getfield 108, 3) := by decide +kernel
theorem dX1_hearAll_10 : decode cX1_hearAll 10 = .ok (.istore_n 1, 1) := by decide +kernel
theorem dX1_hearAll_11 : decode cX1_hearAll 11 = .ok (.iload_n 1, 1) := by decide +kernel
theorem dX1_hearAll_12 : decode cX1_hearAll 12 = .ok (.ifCond .le 63, 3) := by decide +kernel
theorem dX1_hearAll_15 : decode cX1_hearAll 15 = .ok (.aload_n 0, 1) := by decide +kernel
theorem dX1_hearAll_16 : decode cX1_hearAll 16 = .ok (.getfield 45, 3) := by decide +kernel
theorem dX1_hearAll_19 : decode cX1_hearAll 19 = .ok (.getfield 104, 3) := by decide +kernel
theorem dX1_hearAll_22 : decode cX1_hearAll 22 = .ok (.aload_n 0, 1) := by decide +kernel
theorem dX1_hearAll_23 : decode cX1_hearAll 23 = .ok (.getfield 45, 3) := by decide +kernel
theorem dX1_hearAll_26 : decode cX1_hearAll 26 = .ok (.getfield 62, 3) := by decide +kernel
theorem dX1_hearAll_29 : decode cX1_hearAll 29 = .ok (.invokevirtual 113, 3) := by decide +kernel
theorem dX1_hearAll_32 : decode cX1_hearAll 32 = .ok (.astore_n 2, 1) := by decide +kernel
theorem dX1_hearAll_33 : decode cX1_hearAll 33 = .ok (.aload_n 2, 1) := by decide +kernel
theorem dX1_hearAll_34 : decode cX1_hearAll 34 = .ok (.ifnonnull 6, 3) := by decide +kernel
theorem dX1_hearAll_37 : decode cX1_hearAll 37 = .ok (.goto 38, 3) := by decide +kernel
theorem dX1_hearAll_40 : decode cX1_hearAll 40 = .ok (.aload_n 0, 1) := by decide +kernel
theorem dX1_hearAll_41 : decode cX1_hearAll 41 = .ok (.getfield 29, 3) := by decide +kernel
theorem dX1_hearAll_44 : decode cX1_hearAll 44 = .ok (.iconst 1, 1) := by decide +kernel
theorem dX1_hearAll_45 : decode cX1_hearAll 45 = .ok (.if_icmp .eq 19, 3) := by decide +kernel
theorem dX1_hearAll_48 : decode cX1_hearAll 48 = .ok (.aload_n 0, 1) := by decide +kernel
theorem dX1_hearAll_49 : decode cX1_hearAll 49 = .ok (.getfield 29, 3) := by decide +kernel
theorem dX1_hearAll_52 : decode cX1_hearAll 52 = .ok (.iconst 2, 1) := by decide +kernel
theorem dX1_hearAll_53 : decode cX1_hearAll 53 = .ok (.if_icmp .eq 11, 3) := by decide +kernel
theorem dX1_hearAll_56 : decode cX1_hearAll 56 = .ok (.aload_n 0, 1) := by decide +kernel
theorem dX1_hearAll_57 : decode cX1_hearAll 57 = .ok (.getfield 29, 3) := by decide +kernel
theorem dX1_hearAll_60 : decode cX1_hearAll 60 = .ok (.iconst 3, 1) := by decide +kernel
theorem dX1_hearAll_61 : decode cX1_hearAll 61 = .ok (.if_icmp .ne 8, 3) := by decide +kernel
theorem dX1_hearAll_64 : decode cX1_hearAll 64 = .ok (.aload_n 0, 1) := by decide +kernel
theorem dX1_hearAll_65 : decode cX1_hearAll 65 = .ok (.aload_n 2, 1) := by decide +kernel
theorem dX1_hearAll_66 : decode cX1_hearAll 66 = .ok (.invokevirtual 117, 3) := by decide +kernel
theorem dX1_hearAll_69 : decode cX1_hearAll 69 = .ok (.iinc 1 (-1), 3) := by decide +kernel
theorem dX1_hearAll_72 : decode cX1_hearAll 72 = .ok (.goto (-61), 3) := by decide +kernel
theorem dX1_hearAll_75 : decode cX1_hearAll 75 = .ok (.return_, 1) := by decide +kernel
theorem dX1_hear_0 : decode cX1_hear 0 = .ok (.aload_n 0, 1) := by decide +kernel
theorem dX1_hear_1 : decode cX1_hear 1 = .ok (.getfield 29, 3) := by decide +kernel
theorem dX1_hear_4 : decode cX1_hear 4 = .ok (.iconst 1, 1) := by decide +kernel
theorem dX1_hear_5 : decode cX1_hear 5 = .ok (.if_icmp .ne 7, 3) := by decide +kernel
theorem dX1_hear_8 : decode cX1_hear 8 = .ok (.iconst 1, 1) := by decide +kernel
theorem dX1_hear_9 : decode cX1_hear 9 = .ok (.goto 4, 3) := by decide +kernel
theorem dX1_hear_12 : decode cX1_hear 12 = .ok (.iconst 0, 1) := by decide +kernel
theorem dX1_hear_13 : decode cX1_hear 13 = .ok (.istore_n 2, 1) := by decide +kernel
theorem dX1_hear_14 : decode cX1_hear 14 = .ok (.aload_n 1, 1) := by decide +kernel
theorem dX1_hear_15 : decode cX1_hear 15 = .ok (.getfield 121, 3) := by decide +kernel
theorem dX1_hear_18 : decode cX1_hear 18 = .ok (.bipush 8, 2) := by decide +kernel
theorem dX1_hear_20 : decode cX1_hear 20 = .ok (.if_icmp .ne 11, 3) := by decide +kernel
theorem dX1_hear_23 : decode cX1_hear 23 = .ok (.aload_n 0, 1) := by decide +kernel
theorem dX1_hear_24 : decode cX1_hear 24 = .ok (.iconst 5, 1) := by decide +kernel
theorem dX1_hear_25 : decode cX1_hear 25 = .ok (.putfield 29, 3) := by decide +kernel
theorem dX1_hear_28 : decode cX1_hear 28 = .ok (.goto 106, 3) := by decide +kernel
theorem dX1_hear_31 : decode cX1_hear 31 = .ok (.aload_n 1, 1) := by decide +kernel
theorem dX1_hear_32 : decode cX1_hear 32 = .ok (.getfield 121, 3) := by decide +kernel
theorem dX1_hear_35 : decode cX1_hear 35 = .ok (.bipush 6, 2) := by decide +kernel
theorem dX1_hear_37 : decode cX1_hear 37 = .ok (.if_icmp .ne 18, 3) := by decide +kernel
theorem dX1_hear_40 : decode cX1_hear 40 = .ok (.aload_n 0, 1) := by decide +kernel
theorem dX1_hear_41 : decode cX1_hear 41 = .ok (.aload_n 1, 1) := by decide +kernel
theorem dX1_hear_42 : decode cX1_hear 42 = .ok (.getfield 124, 3) := by decide +kernel
theorem dX1_hear_45 : decode cX1_hear 45 = .ok (.invokevirtual 127, 3) := by decide +kernel
theorem dX1_hear_48 : decode cX1_hear 48 = .ok (.iconst 1, 1) := by decide +kernel
theorem dX1_hear_49 : decode cX1_hear 49 = .ok (.putfield 131, 3) := by decide +kernel
theorem dX1_hear_52 : decode cX1_hear 52 = .ok (.goto 82, 3) := by decide +kernel
theorem dX1_hear_55 : decode cX1_hear 55 = .ok (.aload_n 1, 1) := by decide +kernel
theorem dX1_hear_56 : decode cX1_hear 56 = .ok (.getfield 121, 3) := by decide +kernel
theorem dX1_hear_59 : decode cX1_hear 59 = .ok (.iconst 1, 1) := by decide +kernel
theorem dX1_hear_60 : decode cX1_hear 60 = .ok (.if_icmp .ne 32, 3) := by decide +kernel
theorem dX1_hear_63 : decode cX1_hear 63 = .ok (.iload_n 2, 1) := by decide +kernel
theorem dX1_hear_64 : decode cX1_hear 64 = .ok (.ifCond .eq 28, 3) := by decide +kernel
theorem dX1_hear_67 : decode cX1_hear 67 = .ok (.aload_n 0, 1) := by decide +kernel
theorem dX1_hear_68 : decode cX1_hear 68 = .ok (.getfield 74, 3) := by decide +kernel
theorem dX1_hear_71 : decode cX1_hear 71 = .ok (.ifCond .ne 21, 3) := by decide +kernel
theorem dX1_hear_74 : decode cX1_hear 74 = .ok (.aload_n 0, 1) := by decide +kernel
theorem dX1_hear_75 : decode cX1_hear 75 = .ok (.iconst 1, 1) := by decide +kernel
theorem dX1_hear_76 : decode cX1_hear 76 = .ok (.putfield 74, 3) := by decide +kernel
theorem dX1_hear_79 : decode cX1_hear 79 = .ok (.aload_n 0, 1) := by decide +kernel
theorem dX1_hear_80 : decode cX1_hear 80 = .ok (.bipush 10, 2) := by decide +kernel
theorem dX1_hear_82 : decode cX1_hear 82 = .ok (.putfield 36, 3) := by decide +kernel
theorem dX1_hear_85 : decode cX1_hear 85 = .ok (.aload_n 0, 1) := by decide +kernel
theorem dX1_hear_86 : decode cX1_hear 86 = .ok (.invokevirtual 56, 3) := by decide +kernel
theorem dX1_hear_89 : decode cX1_hear 89 = .ok (.goto 45, 3) := by decide +kernel
theorem dX1_hear_92 : decode cX1_hear 92 = .ok (.aload_n 1, 1) := by decide +kernel
theorem dX1_hear_93 : decode cX1_hear 93 = .ok (.getfield 121, 3) := by decide +kernel
theorem dX1_hear_96 : decode cX1_hear 96 = .ok (.iconst 2, 1) := by decide +kernel
theorem dX1_hear_97 : decode cX1_hear 97 = .ok (.if_icmp .ne 18, 3) := by decide +kernel
theorem dX1_hear_100 : decode cX1_hear 100 = .ok (.iload_n 2, 1) := by decide +kernel
theorem dX1_hear_101 : decode cX1_hear 101 = .ok (.ifCond .eq 14, 3) := by decide +kernel
theorem dX1_hear_104 : decode cX1_hear 104 = .ok (.aload_n 0, 1) := by decide +kernel
theorem dX1_hear_105 : decode cX1_hear 105 = .ok (.aload_n 1, 1) := by decide +kernel
theorem dX1_hear_106 : decode cX1_hear 106 = .ok (.getfield 134, 3) := by decide +kernel
theorem dX1_hear_109 : decode cX1_hear 109 = .ok (.invokevirtual 137, 3) := by decide +kernel
theorem dX1_hear_112 : decode cX1_hear 112 = .ok (.goto 22, 3) := by decide +kernel
theorem dX1_hear_115 : decode cX1_hear 115 = .ok (.aload_n 1, 1) := by decide +kernel
theorem dX1_hear_116 : decode cX1_hear 116 = .ok (.getfield 141, 3) := by decide +kernel
theorem dX1_hear_119 : decode cX1_hear 119 = .ok (.ifnull 15, 3) := by decide +kernel
theorem dX1_hear_122 : decode cX1_hear 122 = .ok (.iload_n 2, 1) := by decide +kernel
theorem dX1_hear_123 : decode cX1_hear 123 = .ok (.ifCond .ne 11, 3) := by decide +kernel
theorem dX1_hear_126 : decode cX1_hear 126 = .ok (.aload_n 0, 1) := by decide +kernel
theorem dX1_hear_127 : decode cX1_hear 127 = .ok (.aload_n 1, 1) := by decide +kernel
theorem dX1_hear_128 : decode cX1_hear 128 = .ok (.getfield 141, 3) := by decide +kernel
theorem dX1_hear_131 : decode cX1_hear 131 = .ok (.invokevirtual 145, 3) := by decide +kernel
theorem dX1_hear_134 : decode cX1_hear 134 = .ok (.return_, 1) := by decide +kernel
theorem dX1_hearAccept_0 : decode cX1_hearAccept 0 = .ok (.aload_n 0, 1) := by decide +kernel
theorem dX1_hearAccept_1 : decode cX1_hearAccept 1 = .ok (.iconst 2, 1) := by decide +kernel
theorem dX1_hearAccept_2 : decode cX1_hearAccept 2 = .ok (.putfield 29, 3) := by decide +kernel
theorem dX1_hearAccept_5 : decode cX1_hearAccept 5 = .ok (.aload_n 0, 1) := by decide +kernel
theorem dX1_hearAccept_6 : decode cX1_hearAccept 6 = .ok (.getfield 14, 3) := by decide +kernel
theorem dX1_hearAccept_9 : decode cX1_hearAccept 9 = .ok (.aload_n 0, 1) := by decide +kernel
theorem dX1_hearAccept_10 : decode cX1_hearAccept 10 = .ok (.getfield 45, 3) := by decide +kernel
theorem dX1_hearAccept_13 : decode cX1_hearAccept 13 = .ok (.getfield 62, 3) := by decide +kernel
theorem dX1_hearAccept_16 : decode cX1_hearAccept 16 = .ok (.aload_n 0, 1) := by decide +kernel
theorem dX1_hearAccept_17 : decode cX1_hearAccept 17 = .ok (.getfield 67, 3) := by decide +kernel
theorem dX1_hearAccept_20 : decode cX1_hearAccept 20 = .ok (.isub, 1) := by decide +kernel
theorem dX1_hearAccept_21 : decode cX1_hearAccept 21 = .ok (.invokevirtual 149, 3) := by decide +kernel
theorem dX1_hearAccept_24 : decode cX1_hearAccept 24 = .ok (.aload_n 0, 1) := by decide +kernel
theorem dX1_hearAccept_25 : decode cX1_hearAccept 25 = .ok (.getfield 152, 3) := by decide +kernel
theorem dX1_hearAccept_28 : decode cX1_hearAccept 28 = .ok (.istore_n 2, 1) := by decide +kernel
theorem dX1_hearAccept_29 : decode cX1_hearAccept 29 = .ok (.iload_n 2, 1) := by decide +kernel
theorem dX1_hearAccept_30 : decode cX1_hearAccept 30 = .ok (.aload_n 0, 1) := by decide +kernel
theorem dX1_hearAccept_31 : decode cX1_hearAccept 31 = .ok (.getfield 53, 3) := by decide +kernel
theorem dX1_hearAccept_34 : decode cX1_hearAccept 34 = .ok (.if_icmp .ge 43, 3) := by decide +kernel
theorem dX1_hearAccept_37 : decode cX1_hearAccept 37 = .ok (.iload_n 1, 1) := by decide +kernel
theorem dX1_hearAccept_38 : decode cX1_hearAccept 38 = .ok (.ifCond .ne 39, 3) := by decide +kernel
theorem dX1_hearAccept_41 : decode cX1_hearAccept 41 = .ok (.aload_n 0, 1) := by decide +kernel
theorem dX1_hearAccept_42 : decode cX1_hearAccept 42 = .ok (.iload_n 2, 1) := by decide +kernel
theorem dX1_hearAccept_43 : decode cX1_hearAccept 43 = .ok (.invokevirtual 83, 3) := by decide +kernel
theorem dX1_hearAccept_46 : decode cX1_hearAccept 46 = .ok (.astore_n 3, 1) := by decide +kernel
theorem dX1_hearAccept_47 : decode cX1_hearAccept 47 = .ok (.aload_n 3, 1) := by decide +kernel
theorem dX1_hearAccept_48 : decode cX1_hearAccept 48 = .ok (.ifnull 23, 3) := by decide +kernel
theorem dX1_hearAccept_51 : decode cX1_hearAccept 51 = .ok (.aload_n 3, 1) := by decide +kernel
theorem dX1_hearAccept_52 : decode cX1_hearAccept 52 = .ok (.getfield 155, 3) := by decide +kernel
theorem dX1_hearAccept_55 : decode cX1_hearAccept 55 = .ok (.ifCond .eq 16, 3) := by decide +kernel
theorem dX1_hearAccept_58 : decode cX1_hearAccept 58 = .ok (.aload_n 3, 1) := by decide +kernel
theorem dX1_hearAccept_59 : decode cX1_hearAccept 59 = .ok (.getfield 95, 3) := by decide +kernel
theorem dX1_hearAccept_62 : decode cX1_hearAccept 62 = .ok (.ifCond .ne 9, 3) := by decide +kernel
theorem dX1_hearAccept_65 : decode cX1_hearAccept 65 = .ok (.aload_n 0, 1) := by decide +kernel
theorem dX1_hearAccept_66 : decode cX1_hearAccept 66 = .ok (.aload_n 3, 1) := by decide +kernel
theorem dX1_hearAccept_67 : decode cX1_hearAccept 67 = .ok (.iconst 4, 1) := by decide +kernel
theorem dX1_hearAccept_68 : decode cX1_hearAccept 68 = .ok (.invokevirtual 158, 3) := by decide +kernel
theorem dX1_hearAccept_71 : decode cX1_hearAccept 71 = .ok (.iinc 2 1, 3) := by decide +kernel
theorem dX1_hearAccept_74 : decode cX1_hearAccept 74 = .ok (.goto (-45), 3) := by decide +kernel
theorem dX1_hearAccept_77 : decode cX1_hearAccept 77 = .ok (.return_, 1) := by decide +kernel
theorem dX1_leaveFlight_0 : decode cX1_leaveFlight 0 = .ok (.aload_n 1, 1) := by decide +kernel
theorem dX1_leaveFlight_1 : decode cX1_leaveFlight 1 = .ok (.iload_n 2, 1) := by decide +kernel
theorem dX1_leaveFlight_2 : decode cX1_leaveFlight 2 = .ok (.putfield 95, 3) := by decide +kernel
theorem dX1_leaveFlight_5 : decode cX1_leaveFlight 5 = .ok (.aload_n 0, 1) := by decide +kernel
theorem dX1_leaveFlight_6 : decode cX1_leaveFlight 6 = .ok (.aload_n 1, 1) := by decide +kernel
theorem dX1_leaveFlight_7 : decode cX1_leaveFlight 7 = .ok (.getfield 162, 3) := by decide +kernel
theorem dX1_leaveFlight_10 : decode cX1_leaveFlight 10 = .ok (.invokevirtual 127, 3) := by decide +kernel
theorem dX1_leaveFlight_13 : decode cX1_leaveFlight 13 = .ok (.dup, 1) := by decide +kernel
theorem dX1_leaveFlight_14 : decode cX1_leaveFlight 14 = .ok (.getfield 163, 3) := by decide +kernel
theorem dX1_leaveFlight_17 : decode cX1_leaveFlight 17 = .ok (.iconst 1, 1) := by decide +kernel
theorem dX1_leaveFlight_18 : decode cX1_leaveFlight 18 = .ok (.isub, 1) := by decide +kernel
theorem dX1_leaveFlight_19 : decode cX1_leaveFlight 19 = .ok (.putfield 163, 3) := by decide +kernel
theorem dX1_leaveFlight_22 : decode cX1_leaveFlight 22 = .ok (.aload_n 1, 1) := by decide +kernel
theorem dX1_leaveFlight_23 : decode cX1_leaveFlight 23 = .ok (.getfield 166, 3) := by decide +kernel
theorem dX1_leaveFlight_26 : decode cX1_leaveFlight 26 = .ok (.ifCond .lt 56, 3) := by decide +kernel
theorem dX1_leaveFlight_29 : decode cX1_leaveFlight 29 = .ok (.aload_n 1, 1) := by decide +kernel
theorem dX1_leaveFlight_30 : decode cX1_leaveFlight 30 = .ok (.getfield 166, 3) := by decide +kernel
theorem dX1_leaveFlight_33 : decode cX1_leaveFlight 33 = .ok (.iconst 4, 1) := by decide +kernel
theorem dX1_leaveFlight_34 : decode cX1_leaveFlight 34 = .ok (.if_icmp .ge 48, 3) := by decide +kernel
theorem dX1_leaveFlight_37 : decode cX1_leaveFlight 37 = .ok (.iload_n 2, 1) := by decide +kernel
theorem dX1_leaveFlight_38 : decode cX1_leaveFlight 38 = .ok (.iconst 1, 1) := by decide +kernel
theorem dX1_leaveFlight_39 : decode cX1_leaveFlight 39 = .ok (.if_icmp .ne 23, 3) := by decide +kernel
theorem dX1_leaveFlight_42 : decode cX1_leaveFlight 42 = .ok (.aload_n 0, 1) := by decide +kernel
theorem dX1_leaveFlight_43 : decode cX1_leaveFlight 43 = .ok (.getfield 49, 3) := by decide +kernel
theorem dX1_leaveFlight_46 : decode cX1_leaveFlight 46 = .ok (.aload_n 1, 1) := by decide +kernel
theorem dX1_leaveFlight_47 : decode cX1_leaveFlight 47 = .ok (.getfield 166, 3) := by decide +kernel
theorem dX1_leaveFlight_50 : decode cX1_leaveFlight 50 = .ok (.aaload, 1) := by decide +kernel
theorem dX1_leaveFlight_51 : decode cX1_leaveFlight 51 = .ok (.aload_n 1, 1) := by decide +kernel
theorem dX1_leaveFlight_52 : decode cX1_leaveFlight 52 = .ok (.getfield 169, 3) := by decide +kernel
theorem dX1_leaveFlight_55 : decode cX1_leaveFlight 55 = .ok (.aload_n 1, 1) := by decide +kernel
theorem dX1_leaveFlight_56 : decode cX1_leaveFlight 56 = .ok (.getfield 172, 3) := by decide +kernel
theorem dX1_leaveFlight_59 : decode cX1_leaveFlight 59 = .ok (.invokevirtual 175, 3) := by decide +kernel
theorem dX1_leaveFlight_62 : decode cX1_leaveFlight 62 = .ok (.aload_n 0, 1) := by decide +kernel
theorem dX1_leaveFlight_63 : decode cX1_leaveFlight 63 = .ok (.getfield 49, 3) := by decide +kernel
theorem dX1_leaveFlight_66 : decode cX1_leaveFlight 66 = .ok (.aload_n 1, 1) := by decide +kernel
theorem dX1_leaveFlight_67 : decode cX1_leaveFlight 67 = .ok (.getfield 166, 3) := by decide +kernel
theorem dX1_leaveFlight_70 : decode cX1_leaveFlight 70 = .ok (.aaload, 1) := by decide +kernel
theorem dX1_leaveFlight_71 : decode cX1_leaveFlight 71 = .ok (.aload_n 1, 1) := by decide +kernel
theorem dX1_leaveFlight_72 : decode cX1_leaveFlight 72 = .ok (.getfield 169, 3) := by decide +kernel
theorem dX1_leaveFlight_75 : decode cX1_leaveFlight 75 = .ok (.aload_n 1, 1) := by decide +kernel
theorem dX1_leaveFlight_76 : decode cX1_leaveFlight 76 = .ok (.getfield 172, 3) := by decide +kernel
theorem dX1_leaveFlight_79 : decode cX1_leaveFlight 79 = .ok (.invokevirtual 181, 3) := by decide +kernel
theorem dX1_leaveFlight_82 : decode cX1_leaveFlight 82 = .ok (.return_, 1) := by decide +kernel
theorem dX1_hearAck_0 : decode cX1_hearAck 0 = .ok (.aload_n 0, 1) := by decide +kernel
theorem dX1_hearAck_1 : decode cX1_hearAck 1 = .ok (.aload_n 1, 1) := by decide +kernel
theorem dX1_hearAck_2 : decode cX1_hearAck 2 = .ok (.invokevirtual 184, 3) := by decide +kernel
theorem dX1_hearAck_5 : decode cX1_hearAck 5 = .ok (.invokevirtual 83, 3) := by decide +kernel
theorem dX1_hearAck_8 : decode cX1_hearAck 8 = .ok (.astore_n 2, 1) := by decide +kernel
theorem dX1_hearAck_9 : decode cX1_hearAck 9 = .ok (.aload_n 2, 1) := by decide +kernel
theorem dX1_hearAck_10 : decode cX1_hearAck 10 = .ok (.ifnull 14, 3) := by decide +kernel
theorem dX1_hearAck_13 : decode cX1_hearAck 13 = .ok (.aload_n 2, 1) := by decide +kernel
theorem dX1_hearAck_14 : decode cX1_hearAck 14 = .ok (.getfield 95, 3) := by decide +kernel
theorem dX1_hearAck_17 : decode cX1_hearAck 17 = .ok (.ifCond .ne 7, 3) := by decide +kernel
theorem dX1_hearAck_20 : decode cX1_hearAck 20 = .ok (.iconst 1, 1) := by decide +kernel
theorem dX1_hearAck_21 : decode cX1_hearAck 21 = .ok (.goto 4, 3) := by decide +kernel
theorem dX1_hearAck_24 : decode cX1_hearAck 24 = .ok (.iconst 0, 1) := by decide +kernel
theorem dX1_hearAck_25 : decode cX1_hearAck 25 = .ok (.istore_n 3, 1) := by decide +kernel
theorem dX1_hearAck_26 : decode cX1_hearAck 26 = .ok (.aload_n 1, 1) := by decide +kernel
theorem dX1_hearAck_27 : decode cX1_hearAck 27 = .ok (.getfield 190, 3) := by decide +kernel
theorem dX1_hearAck_30 : decode cX1_hearAck 30 = .ok (.iconst 4, 1) := by decide +kernel
theorem dX1_hearAck_31 : decode cX1_hearAck 31 = .ok (.invokestatic 193, 3) := by decide +kernel
theorem dX1_hearAck_34 : decode cX1_hearAck 34 = .ok (.iconst 1, 1) := by decide +kernel
theorem dX1_hearAck_35 : decode cX1_hearAck 35 = .ok (.isub, 1) := by decide +kernel
theorem dX1_hearAck_36 : decode cX1_hearAck 36 = .ok (.istore 4, 2) := by decide +kernel
theorem dX1_hearAck_38 : decode cX1_hearAck 38 = .ok (.iload 4, 2) := by decide +kernel
theorem dX1_hearAck_40 : decode cX1_hearAck 40 = .ok (.ifCond .lt 55, 3) := by decide +kernel
theorem dX1_hearAck_43 : decode cX1_hearAck 43 = .ok (.aload_n 1, 1) := by decide +kernel
theorem dX1_hearAck_44 : decode cX1_hearAck 44 = .ok (.getfield 199, 3) := by decide +kernel
theorem dX1_hearAck_47 : decode cX1_hearAck 47 = .ok (.iload 4, 2) := by decide +kernel
theorem dX1_hearAck_49 : decode cX1_hearAck 49 = .ok (.iaload, 1) := by decide +kernel
theorem dX1_hearAck_50 : decode cX1_hearAck 50 = .ok (.istore 5, 2) := by decide +kernel
theorem dX1_hearAck_52 : decode cX1_hearAck 52 = .ok (.iload 5, 2) := by decide +kernel
theorem dX1_hearAck_54 : decode cX1_hearAck 54 = .ok (.aload_n 1, 1) := by decide +kernel
theorem dX1_hearAck_55 : decode cX1_hearAck 55 = .ok (.getfield 203, 3) := by decide +kernel
theorem dX1_hearAck_58 : decode cX1_hearAck 58 = .ok (.iload 4, 2) := by decide +kernel
theorem dX1_hearAck_60 : decode cX1_hearAck 60 = .ok (.iaload, 1) := by decide +kernel
theorem dX1_hearAck_61 : decode cX1_hearAck 61 = .ok (.if_icmp .gt 28, 3) := by decide +kernel
theorem dX1_hearAck_64 : decode cX1_hearAck 64 = .ok (.iload 5, 2) := by decide +kernel
theorem dX1_hearAck_66 : decode cX1_hearAck 66 = .ok (.aload_n 0, 1) := by decide +kernel
theorem dX1_hearAck_67 : decode cX1_hearAck 67 = .ok (.getfield 53, 3) := by decide +kernel
theorem dX1_hearAck_70 : decode cX1_hearAck 70 = .ok (.if_icmp .ge 19, 3) := by decide +kernel
theorem dX1_hearAck_73 : decode cX1_hearAck 73 = .ok (.aload_n 0, 1) := by decide +kernel
theorem dX1_hearAck_74 : decode cX1_hearAck 74 = .ok (.aload_n 0, 1) := by decide +kernel
theorem dX1_hearAck_75 : decode cX1_hearAck 75 = .ok (.iload 5, 2) := by decide +kernel
theorem dX1_hearAck_77 : decode cX1_hearAck 77 = .ok (.invokevirtual 83, 3) := by decide +kernel
theorem dX1_hearAck_80 : decode cX1_hearAck 80 = .ok (.invokevirtual 206, 3) := by decide +kernel
theorem dX1_hearAck_83 : decode cX1_hearAck 83 = .ok (.iinc 5 1, 3) := by decide +kernel
theorem dX1_hearAck_86 : decode cX1_hearAck 86 = .ok (.goto (-34), 3) := by decide +kernel
theorem dX1_hearAck_89 : decode cX1_hearAck 89 = .ok (.iinc 4 (-1), 3) := by decide +kernel
theorem dX1_hearAck_92 : decode cX1_hearAck 92 = .ok (.goto (-54), 3) := by decide +kernel
theorem dX1_hearAck_95 : decode cX1_hearAck 95 = .ok (.aload_n 2, 1) := by decide +kernel
theorem dX1_hearAck_96 : decode cX1_hearAck 96 = .ok (.ifnull 13, 3) := by decide +kernel
theorem dX1_hearAck_99 : decode cX1_hearAck 99 = .ok (.aload_n 0, 1) := by decide +kernel
theorem dX1_hearAck_100 : decode cX1_hearAck 100 = .ok (.aload_n 2, 1) := by decide +kernel
theorem dX1_hearAck_101 : decode cX1_hearAck 101 = .ok (.iload_n 3, 1) := by decide +kernel
theorem dX1_hearAck_102 : decode cX1_hearAck 102 = .ok (.aload_n 1, 1) := by decide +kernel
theorem dX1_hearAck_103 : decode cX1_hearAck 103 = .ok (.getfield 209, 3) := by decide +kernel
theorem dX1_hearAck_106 : decode cX1_hearAck 106 = .ok (.invokevirtual 212, 3) := by decide +kernel
theorem dX1_hearAck_109 : decode cX1_hearAck 109 = .ok (.aload_n 0, 1) := by decide +kernel
theorem dX1_hearAck_110 : decode cX1_hearAck 110 = .ok (.aload_n 1, 1) := by decide +kernel
theorem dX1_hearAck_111 : decode cX1_hearAck 111 = .ok (.invokevirtual 216, 3) := by decide +kernel
theorem dX1_hearAck_114 : decode cX1_hearAck 114 = .ok (.aload_n 0, 1) := by decide +kernel
theorem dX1_hearAck_115 : decode cX1_hearAck 115 = .ok (.getfield 14, 3) := by decide +kernel
theorem dX1_hearAck_118 : decode cX1_hearAck 118 = .ok (.iconst 0, 1) := by decide +kernel
theorem dX1_hearAck_119 : decode cX1_hearAck 119 = .ok (.putfield 219, 3) := by decide +kernel
theorem dX1_hearAck_122 : decode cX1_hearAck 122 = .ok (.aload_n 0, 1) := by decide +kernel
theorem dX1_hearAck_123 : decode cX1_hearAck 123 = .ok (.getfield 20, 3) := by decide +kernel
theorem dX1_hearAck_126 : decode cX1_hearAck 126 = .ok (.iconst 0, 1) := by decide +kernel
theorem dX1_hearAck_127 : decode cX1_hearAck 127 = .ok (.putfield 219, 3) := by decide +kernel
theorem dX1_hearAck_130 : decode cX1_hearAck 130 = .ok (.aload_n 0, 1) := by decide +kernel
theorem dX1_hearAck_131 : decode cX1_hearAck 131 = .ok (.aload_n 0, 1) := by decide +kernel
theorem dX1_hearAck_132 : decode cX1_hearAck 132 = .ok (.getfield 14, 3) := by decide +kernel
theorem dX1_hearAck_135 : decode cX1_hearAck 135 = .ok (.iconst 1, 1) := by decide +kernel
theorem dX1_hearAck_136 : decode cX1_hearAck 136 = .ok (.invokevirtual 222, 3) := by decide +kernel
theorem dX1_hearAck_139 : decode cX1_hearAck 139 = .ok (.aload_n 0, 1) := by decide +kernel
theorem dX1_hearAck_140 : decode cX1_hearAck 140 = .ok (.aload_n 0, 1) := by decide +kernel
theorem dX1_hearAck_141 : decode cX1_hearAck 141 = .ok (.getfield 20, 3) := by decide +kernel
theorem dX1_hearAck_144 : decode cX1_hearAck 144 = .ok (.iconst 1, 1) := by decide +kernel
theorem dX1_hearAck_145 : decode cX1_hearAck 145 = .ok (.invokevirtual 222, 3) := by decide +kernel
theorem dX1_hearAck_148 : decode cX1_hearAck 148 = .ok (.return_, 1) := by decide +kernel
theorem dX1_hearOfGreatest_0 : decode cX1_hearOfGreatest 0 = .ok (.aload_n 0, 1) := by decide +kernel
theorem dX1_hearOfGreatest_1 : decode cX1_hearOfGreatest 1 = .ok (.aload_n 1, 1) := by decide +kernel
theorem dX1_hearOfGreatest_2 : decode cX1_hearOfGreatest 2 = .ok (.getfield 162, 3) := by decide +kernel
theorem dX1_hearOfGreatest_5 : decode cX1_hearOfGreatest 5 = .ok (.invokevirtual 127, 3) := by decide +kernel
theorem dX1_hearOfGreatest_8 : decode cX1_hearOfGreatest 8 = .ok (.astore 4, 2) := by decide +kernel
theorem dX1_hearOfGreatest_10 : decode cX1_hearOfGreatest 10 = .ok (.iload_n 2, 1) := by decide +kernel
theorem dX1_hearOfGreatest_11 : decode cX1_hearOfGreatest 11 = .ok (.ifCond .eq 20, 3) := by decide +kernel
theorem dX1_hearOfGreatest_14 : decode cX1_hearOfGreatest 14 = .ok (.aload 4, 2) := by decide +kernel
theorem dX1_hearOfGreatest_16 : decode cX1_hearOfGreatest 16 = .ok (.aload_n 0, 1) := by decide +kernel
theorem dX1_hearOfGreatest_17 : decode cX1_hearOfGreatest 17 = .ok (.getfield 45, 3) := by decide +kernel
theorem dX1_hearOfGreatest_20 : decode cX1_hearOfGreatest 20 = .ok (.getfield 62, 3) := by decide +kernel
theorem dX1_hearOfGreatest_23 : decode cX1_hearOfGreatest 23 = .ok (.aload_n 1, 1) := by decide +kernel
theorem dX1_hearOfGreatest_24 : decode cX1_hearOfGreatest 24 = .ok (.getfield 226, 3) := by decide +kernel
theorem dX1_hearOfGreatest_27 : decode cX1_hearOfGreatest 27 = .ok (.isub, 1) := by decide +kernel
theorem dX1_hearOfGreatest_28 : decode cX1_hearOfGreatest 28 = .ok (.invokevirtual 149, 3) := by decide +kernel
theorem dX1_hearOfGreatest_31 : decode cX1_hearOfGreatest 31 = .ok (.iload_n 3, 1) := by decide +kernel
theorem dX1_hearOfGreatest_32 : decode cX1_hearOfGreatest 32 = .ok (.aload_n 0, 1) := by decide +kernel
theorem dX1_hearOfGreatest_33 : decode cX1_hearOfGreatest 33 = .ok (.getfield 229, 3) := by decide +kernel
theorem dX1_hearOfGreatest_36 : decode cX1_hearOfGreatest 36 = .ok (.if_icmp .le 32, 3) := by decide +kernel
theorem dX1_hearOfGreatest_39 : decode cX1_hearOfGreatest 39 = .ok (.aload_n 0, 1) := by decide +kernel
theorem dX1_hearOfGreatest_40 : decode cX1_hearOfGreatest 40 = .ok (.iload_n 3, 1) := by decide +kernel
theorem dX1_hearOfGreatest_41 : decode cX1_hearOfGreatest 41 = .ok (.putfield 229, 3) := by decide +kernel
theorem dX1_hearOfGreatest_44 : decode cX1_hearOfGreatest 44 = .ok (.aload 4, 2) := by decide +kernel
theorem dX1_hearOfGreatest_46 : decode cX1_hearOfGreatest 46 = .ok (.getfield 232, 3) := by decide +kernel
theorem dX1_hearOfGreatest_49 : decode cX1_hearOfGreatest 49 = .ok (.aload_n 1, 1) := by decide +kernel
theorem dX1_hearOfGreatest_50 : decode cX1_hearOfGreatest 50 = .ok (.getfield 236, 3) := by decide +kernel
theorem dX1_hearOfGreatest_53 : decode cX1_hearOfGreatest 53 = .ok (.iconst (-1), 1) := by decide +kernel
theorem dX1_hearOfGreatest_54 : decode cX1_hearOfGreatest 54 = .ok (.aload_n 0, 1) := by decide +kernel
theorem dX1_hearOfGreatest_55 : decode cX1_hearOfGreatest 55 = .ok (.getfield 53, 3) := by decide +kernel
theorem dX1_hearOfGreatest_58 : decode cX1_hearOfGreatest 58 = .ok (.aload_n 0, 1) := by decide +kernel
theorem dX1_hearOfGreatest_59 : decode cX1_hearOfGreatest 59 = .ok (.getfield 45, 3) := by decide +kernel
theorem dX1_hearOfGreatest_62 : decode cX1_hearOfGreatest 62 = .ok (.getfield 62, 3) := by decide +kernel
theorem dX1_hearOfGreatest_65 : decode cX1_hearOfGreatest 65 = .ok (.invokevirtual 239, 3) := by decide +kernel
theorem dX1_hearOfGreatest_68 : decode cX1_hearOfGreatest 68 = .ok (.return_, 1) := by decide +kernel
theorem dX1_acknowledge_0 : decode cX1_acknowledge 0 = .ok (.aload_n 1, 1) := by decide +kernel
theorem dX1_acknowledge_1 : decode cX1_acknowledge 1 = .ok (.ifnonnull 4, 3) := by decide +kernel
theorem dX1_acknowledge_4 : decode cX1_acknowledge 4 = .ok (.return_, 1) := by decide +kernel
theorem dX1_acknowledge_5 : decode cX1_acknowledge 5 = .ok (.aload_n 0, 1) := by decide +kernel
theorem dX1_acknowledge_6 : decode cX1_acknowledge 6 = .ok (.aload_n 1, 1) := by decide +kernel
theorem dX1_acknowledge_7 : decode cX1_acknowledge 7 = .ok (.getfield 162, 3) := by decide +kernel
theorem dX1_acknowledge_10 : decode cX1_acknowledge 10 = .ok (.invokevirtual 127, 3) := by decide +kernel
theorem dX1_acknowledge_13 : decode cX1_acknowledge 13 = .ok (.astore_n 2, 1) := by decide +kernel
theorem dX1_acknowledge_14 : decode cX1_acknowledge 14 = .ok (.aload_n 1, 1) := by decide +kernel
theorem dX1_acknowledge_15 : decode cX1_acknowledge 15 = .ok (.getfield 95, 3) := by decide +kernel
theorem dX1_acknowledge_18 : decode cX1_acknowledge 18 = .ok (.ifCond .ne 78, 3) := by decide +kernel
theorem dX1_acknowledge_21 : decode cX1_acknowledge 21 = .ok (.aload_n 0, 1) := by decide +kernel
theorem dX1_acknowledge_22 : decode cX1_acknowledge 22 = .ok (.aload_n 1, 1) := by decide +kernel
theorem dX1_acknowledge_23 : decode cX1_acknowledge 23 = .ok (.iconst 1, 1) := by decide +kernel
theorem dX1_acknowledge_24 : decode cX1_acknowledge 24 = .ok (.invokevirtual 158, 3) := by decide +kernel
theorem dX1_acknowledge_27 : decode cX1_acknowledge 27 = .ok (.aload_n 2, 1) := by decide +kernel
theorem dX1_acknowledge_28 : decode cX1_acknowledge 28 = .ok (.dup, 1) := by decide +kernel
theorem dX1_acknowledge_29 : decode cX1_acknowledge 29 = .ok (.getfield 245, 3) := by decide +kernel
theorem dX1_acknowledge_32 : decode cX1_acknowledge 32 = .ok (.iconst 1, 1) := by decide +kernel
theorem dX1_acknowledge_33 : decode cX1_acknowledge 33 = .ok (.iadd, 1) := by decide +kernel
theorem dX1_acknowledge_34 : decode cX1_acknowledge 34 = .ok (.putfield 245, 3) := by decide +kernel
theorem dX1_acknowledge_37 : decode cX1_acknowledge 37 = .ok (.aload_n 2, 1) := by decide +kernel
theorem dX1_acknowledge_38 : decode cX1_acknowledge 38 = .ok (.getfield 245, 3) := by decide +kernel
theorem dX1_acknowledge_41 : decode cX1_acknowledge 41 = .ok (.aload_n 1, 1) := by decide +kernel
theorem dX1_acknowledge_42 : decode cX1_acknowledge 42 = .ok (.getfield 248, 3) := by decide +kernel
theorem dX1_acknowledge_45 : decode cX1_acknowledge 45 = .ok (.isub, 1) := by decide +kernel
theorem dX1_acknowledge_46 : decode cX1_acknowledge 46 = .ok (.istore_n 3, 1) := by decide +kernel
theorem dX1_acknowledge_47 : decode cX1_acknowledge 47 = .ok (.aload_n 2, 1) := by decide +kernel
theorem dX1_acknowledge_48 : decode cX1_acknowledge 48 = .ok (.getfield 232, 3) := by decide +kernel
theorem dX1_acknowledge_51 : decode cX1_acknowledge 51 = .ok (.aload_n 0, 1) := by decide +kernel
theorem dX1_acknowledge_52 : decode cX1_acknowledge 52 = .ok (.getfield 45, 3) := by decide +kernel
theorem dX1_acknowledge_55 : decode cX1_acknowledge 55 = .ok (.getfield 62, 3) := by decide +kernel
theorem dX1_acknowledge_58 : decode cX1_acknowledge 58 = .ok (.iload_n 3, 1) := by decide +kernel
theorem dX1_acknowledge_59 : decode cX1_acknowledge 59 = .ok (.aload_n 0, 1) := by decide +kernel
theorem dX1_acknowledge_60 : decode cX1_acknowledge 60 = .ok (.getfield 45, 3) := by decide +kernel
theorem dX1_acknowledge_63 : decode cX1_acknowledge 63 = .ok (.getfield 62, 3) := by decide +kernel
theorem dX1_acknowledge_66 : decode cX1_acknowledge 66 = .ok (.aload_n 1, 1) := by decide +kernel
theorem dX1_acknowledge_67 : decode cX1_acknowledge 67 = .ok (.getfield 226, 3) := by decide +kernel
theorem dX1_acknowledge_70 : decode cX1_acknowledge 70 = .ok (.isub, 1) := by decide +kernel
theorem dX1_acknowledge_71 : decode cX1_acknowledge 71 = .ok (.aload_n 2, 1) := by decide +kernel
theorem dX1_acknowledge_72 : decode cX1_acknowledge 72 = .ok (.getfield 251, 3) := by decide +kernel
theorem dX1_acknowledge_75 : decode cX1_acknowledge 75 = .ok (.invokevirtual 254, 3) := by decide +kernel
theorem dX1_acknowledge_78 : decode cX1_acknowledge 78 = .ok (.aload_n 2, 1) := by decide +kernel
theorem dX1_acknowledge_79 : decode cX1_acknowledge 79 = .ok (.aload_n 2, 1) := by decide +kernel
theorem dX1_acknowledge_80 : decode cX1_acknowledge 80 = .ok (.getfield 257, 3) := by decide +kernel
theorem dX1_acknowledge_83 : decode cX1_acknowledge 83 = .ok (.aload_n 1, 1) := by decide +kernel
theorem dX1_acknowledge_84 : decode cX1_acknowledge 84 = .ok (.getfield 260, 3) := by decide +kernel
theorem dX1_acknowledge_87 : decode cX1_acknowledge 87 = .ok (.invokestatic 263, 3) := by decide +kernel
theorem dX1_acknowledge_90 : decode cX1_acknowledge 90 = .ok (.putfield 257, 3) := by decide +kernel
theorem dX1_acknowledge_93 : decode cX1_acknowledge 93 = .ok (.goto 72, 3) := by decide +kernel
theorem dX1_acknowledge_96 : decode cX1_acknowledge 96 = .ok (.aload_n 1, 1) := by decide +kernel
theorem dX1_acknowledge_97 : decode cX1_acknowledge 97 = .ok (.getfield 95, 3) := by decide +kernel
theorem dX1_acknowledge_100 : decode cX1_acknowledge 100 = .ok (.iconst 2, 1) := by decide +kernel
theorem dX1_acknowledge_101 : decode cX1_acknowledge 101 = .ok (.if_icmp .ne 64, 3) := by decide +kernel
theorem dX1_acknowledge_104 : decode cX1_acknowledge 104 = .ok (.aload_n 1, 1) := by decide +kernel
theorem dX1_acknowledge_105 : decode cX1_acknowledge 105 = .ok (.iconst 3, 1) := by decide +kernel
theorem dX1_acknowledge_106 : decode cX1_acknowledge 106 = .ok (.putfield 95, 3) := by decide +kernel
theorem dX1_acknowledge_109 : decode cX1_acknowledge 109 = .ok (.aload_n 2, 1) := by decide +kernel
theorem dX1_acknowledge_110 : decode cX1_acknowledge 110 = .ok (.dup, 1) := by decide +kernel
theorem dX1_acknowledge_111 : decode cX1_acknowledge 111 = .ok (.getfield 266, 3) := by decide +kernel
theorem dX1_acknowledge_114 : decode cX1_acknowledge 114 = .ok (.iconst 1, 1) := by decide +kernel
theorem dX1_acknowledge_115 : decode cX1_acknowledge 115 = .ok (.iadd, 1) := by decide +kernel
theorem dX1_acknowledge_116 : decode cX1_acknowledge 116 = .ok (.putfield 266, 3) := by decide +kernel
theorem dX1_acknowledge_119 : decode cX1_acknowledge 119 = .ok (.aload_n 1, 1) := by decide +kernel
theorem dX1_acknowledge_120 : decode cX1_acknowledge 120 = .ok (.getfield 166, 3) := by decide +kernel
theorem dX1_acknowledge_123 : decode cX1_acknowledge 123 = .ok (.ifCond .lt 31, 3) := by decide +kernel
theorem dX1_acknowledge_126 : decode cX1_acknowledge 126 = .ok (.aload_n 1, 1) := by decide +kernel
theorem dX1_acknowledge_127 : decode cX1_acknowledge 127 = .ok (.getfield 166, 3) := by decide +kernel
theorem dX1_acknowledge_130 : decode cX1_acknowledge 130 = .ok (.iconst 4, 1) := by decide +kernel
theorem dX1_acknowledge_131 : decode cX1_acknowledge 131 = .ok (.if_icmp .ge 23, 3) := by decide +kernel
theorem dX1_acknowledge_134 : decode cX1_acknowledge 134 = .ok (.aload_n 0, 1) := by decide +kernel
theorem dX1_acknowledge_135 : decode cX1_acknowledge 135 = .ok (.getfield 49, 3) := by decide +kernel
theorem dX1_acknowledge_138 : decode cX1_acknowledge 138 = .ok (.aload_n 1, 1) := by decide +kernel
theorem dX1_acknowledge_139 : decode cX1_acknowledge 139 = .ok (.getfield 166, 3) := by decide +kernel
theorem dX1_acknowledge_142 : decode cX1_acknowledge 142 = .ok (.aaload, 1) := by decide +kernel
theorem dX1_acknowledge_143 : decode cX1_acknowledge 143 = .ok (.aload_n 1, 1) := by decide +kernel
theorem dX1_acknowledge_144 : decode cX1_acknowledge 144 = .ok (.getfield 169, 3) := by decide +kernel
theorem dX1_acknowledge_147 : decode cX1_acknowledge 147 = .ok (.aload_n 1, 1) := by decide +kernel
theorem dX1_acknowledge_148 : decode cX1_acknowledge 148 = .ok (.getfield 172, 3) := by decide +kernel
theorem dX1_acknowledge_151 : decode cX1_acknowledge 151 = .ok (.invokevirtual 175, 3) := by decide +kernel
theorem dX1_acknowledge_154 : decode cX1_acknowledge 154 = .ok (.aload_n 2, 1) := by decide +kernel
theorem dX1_acknowledge_155 : decode cX1_acknowledge 155 = .ok (.getfield 232, 3) := by decide +kernel
theorem dX1_acknowledge_158 : decode cX1_acknowledge 158 = .ok (.aload_n 1, 1) := by decide +kernel
theorem dX1_acknowledge_159 : decode cX1_acknowledge 159 = .ok (.getfield 236, 3) := by decide +kernel
theorem dX1_acknowledge_162 : decode cX1_acknowledge 162 = .ok (.invokevirtual 269, 3) := by decide +kernel
theorem dX1_acknowledge_165 : decode cX1_acknowledge 165 = .ok (.return_, 1) := by decide +kernel
theorem dX1_takeCredits_0 : decode cX1_takeCredits 0 = .ok (.iconst 0, 1) := by decide +kernel
theorem dX1_takeCredits_1 : decode cX1_takeCredits 1 = .ok (.istore_n 2, 1) := by decide +kernel
theorem dX1_takeCredits_2 : decode cX1_takeCredits 2 = .ok (.iload_n 2, 1) := by decide +kernel
theorem dX1_takeCredits_3 : decode cX1_takeCredits 3 = .ok (.iconst 4, 1) := by decide +kernel
theorem dX1_takeCredits_4 : decode cX1_takeCredits 4 = .ok (.if_icmp .ge 36, 3) := by decide +kernel
theorem dX1_takeCredits_7 : decode cX1_takeCredits 7 = .ok (.aload_n 0, 1) := by decide +kernel
theorem dX1_takeCredits_8 : decode cX1_takeCredits 8 = .ok (.getfield 49, 3) := by decide +kernel
theorem dX1_takeCredits_11 : decode cX1_takeCredits 11 = .ok (.iload_n 2, 1) := by decide +kernel
theorem dX1_takeCredits_12 : decode cX1_takeCredits 12 = .ok (.aaload, 1) := by decide +kernel
theorem dX1_takeCredits_13 : decode cX1_takeCredits 13 = .ok (.aload_n 0, 1) := by decide +kernel
theorem dX1_takeCredits_14 : decode cX1_takeCredits 14 = .ok (.getfield 49, 3) := by decide +kernel
theorem dX1_takeCredits_17 : decode cX1_takeCredits 17 = .ok (.iload_n 2, 1) := by decide +kernel
theorem dX1_takeCredits_18 : decode cX1_takeCredits 18 = .ok (.aaload, 1) := by decide +kernel
theorem dX1_takeCredits_19 : decode cX1_takeCredits 19 = .ok (.getfield 272, 3) := by decide +kernel
theorem dX1_takeCredits_22 : decode cX1_takeCredits 22 = .ok (.aload_n 1, 1) := by decide +kernel
theorem dX1_takeCredits_23 : decode cX1_takeCredits 23 = .ok (.getfield 275, 3) := by decide +kernel
theorem dX1_takeCredits_26 : decode cX1_takeCredits 26 = .ok (.iload_n 2, 1) := by decide +kernel
theorem dX1_takeCredits_27 : decode cX1_takeCredits 27 = .ok (.iaload, 1) := by decide +kernel
theorem dX1_takeCredits_28 : decode cX1_takeCredits 28 = .ok (.invokestatic 263, 3) := by decide +kernel
theorem dX1_takeCredits_31 : decode cX1_takeCredits 31 = .ok (.putfield 272, 3) := by decide +kernel
theorem dX1_takeCredits_34 : decode cX1_takeCredits 34 = .ok (.iinc 2 1, 3) := by decide +kernel
theorem dX1_takeCredits_37 : decode cX1_takeCredits 37 = .ok (.goto (-35), 3) := by decide +kernel
theorem dX1_takeCredits_40 : decode cX1_takeCredits 40 = .ok (.aload_n 0, 1) := by decide +kernel
theorem dX1_takeCredits_41 : decode cX1_takeCredits 41 = .ok (.aload_n 0, 1) := by decide +kernel
theorem dX1_takeCredits_42 : decode cX1_takeCredits 42 = .ok (.getfield 39, 3) := by decide +kernel
theorem dX1_takeCredits_45 : decode cX1_takeCredits 45 = .ok (.aload_n 1, 1) := by decide +kernel
theorem dX1_takeCredits_46 : decode cX1_takeCredits 46 = .ok (.getfield 278, 3) := by decide +kernel
theorem dX1_takeCredits_49 : decode cX1_takeCredits 49 = .ok (.invokestatic 263, 3) := by decide +kernel
theorem dX1_takeCredits_52 : decode cX1_takeCredits 52 = .ok (.putfield 39, 3) := by decide +kernel
theorem dX1_takeCredits_55 : decode cX1_takeCredits 55 = .ok (.return_, 1) := by decide +kernel
theorem dX1_findLosses_0 : decode cX1_findLosses 0 = .ok (.aload_n 0, 1) := by decide +kernel
theorem dX1_findLosses_1 : decode cX1_findLosses 1 = .ok (.aload_n 1, 1) := by decide +kernel
theorem dX1_findLosses_2 : decode cX1_findLosses 2 = .ok (.invokevirtual 279, 3) := by decide +kernel
theorem dX1_findLosses_5 : decode cX1_findLosses 5 = .ok (.astore_n 3, 1) := by decide +kernel
theorem dX1_findLosses_6 : decode cX1_findLosses 6 = .ok (.aload_n 1, 1) := by decide +kernel
theorem dX1_findLosses_7 : decode cX1_findLosses 7 = .ok (.getfield 163, 3) := by decide +kernel
theorem dX1_findLosses_10 : decode cX1_findLosses 10 = .ok (.istore 4, 2) := by decide +kernel
theorem dX1_findLosses_12 : decode cX1_findLosses 12 = .ok (.iload 4, 2) := by decide +kernel
theorem dX1_findLosses_14 : decode cX1_findLosses 14 = .ok (.ifCond .le 103, 3) := by decide +kernel
theorem dX1_findLosses_17 : decode cX1_findLosses 17 = .ok (.aload_n 3, 1) := by decide +kernel
theorem dX1_findLosses_18 : decode cX1_findLosses 18 = .ok (.ifnull 99, 3) := by decide +kernel
theorem dX1_findLosses_21 : decode cX1_findLosses 21 = .ok (.iload_n 2, 1) := by decide +kernel
theorem dX1_findLosses_22 : decode cX1_findLosses 22 = .ok (.ifCond .eq 15, 3) := by decide +kernel
theorem dX1_findLosses_25 : decode cX1_findLosses 25 = .ok (.aload_n 1, 1) := by decide +kernel
theorem dX1_findLosses_26 : decode cX1_findLosses 26 = .ok (.aload_n 3, 1) := by decide +kernel
theorem dX1_findLosses_27 : decode cX1_findLosses 27 = .ok (.invokevirtual 283, 3) := by decide +kernel
theorem dX1_findLosses_30 : decode cX1_findLosses 30 = .ok (.ifCond .eq 7, 3) := by decide +kernel
theorem dX1_findLosses_33 : decode cX1_findLosses 33 = .ok (.iconst 1, 1) := by decide +kernel
theorem dX1_findLosses_34 : decode cX1_findLosses 34 = .ok (.goto 4, 3) := by decide +kernel
theorem dX1_findLosses_37 : decode cX1_findLosses 37 = .ok (.iconst 0, 1) := by decide +kernel
theorem dX1_findLosses_38 : decode cX1_findLosses 38 = .ok (.istore 5, 2) := by decide +kernel
theorem dX1_findLosses_40 : decode cX1_findLosses 40 = .ok (.iload 5, 2) := by decide +kernel
theorem dX1_findLosses_42 : decode cX1_findLosses 42 = .ok (.ifCond .ne 21, 3) := by decide +kernel
theorem dX1_findLosses_45 : decode cX1_findLosses 45 = .ok (.aload_n 1, 1) := by decide +kernel
theorem dX1_findLosses_46 : decode cX1_findLosses 46 = .ok (.aload_n 3, 1) := by decide +kernel
theorem dX1_findLosses_47 : decode cX1_findLosses 47 = .ok (.aload_n 0, 1) := by decide +kernel
theorem dX1_findLosses_48 : decode cX1_findLosses 48 = .ok (.getfield 45, 3) := by decide +kernel
theorem dX1_findLosses_51 : decode cX1_findLosses 51 = .ok (.getfield 62, 3) := by decide +kernel
theorem dX1_findLosses_54 : decode cX1_findLosses 54 = .ok (.invokevirtual 286, 3) := by decide +kernel
theorem dX1_findLosses_57 : decode cX1_findLosses 57 = .ok (.ifCond .ne 6, 3) := by decide +kernel
theorem dX1_findLosses_60 : decode cX1_findLosses 60 = .ok (.goto 57, 3) := by decide +kernel
theorem dX1_findLosses_63 : decode cX1_findLosses 63 = .ok (.aload_n 0, 1) := by decide +kernel
theorem dX1_findLosses_64 : decode cX1_findLosses 64 = .ok (.aload_n 3, 1) := by decide +kernel
theorem dX1_findLosses_65 : decode cX1_findLosses 65 = .ok (.iconst 2, 1) := by decide +kernel
theorem dX1_findLosses_66 : decode cX1_findLosses 66 = .ok (.invokevirtual 158, 3) := by decide +kernel
theorem dX1_findLosses_69 : decode cX1_findLosses 69 = .ok (.aload_n 1, 1) := by decide +kernel
theorem dX1_findLosses_70 : decode cX1_findLosses 70 = .ok (.dup, 1) := by decide +kernel
theorem dX1_findLosses_71 : decode cX1_findLosses 71 = .ok (.getfield 290, 3) := by decide +kernel
theorem dX1_findLosses_74 : decode cX1_findLosses 74 = .ok (.iconst 1, 1) := by decide +kernel
theorem dX1_findLosses_75 : decode cX1_findLosses 75 = .ok (.iadd, 1) := by decide +kernel
theorem dX1_findLosses_76 : decode cX1_findLosses 76 = .ok (.putfield 290, 3) := by decide +kernel
theorem dX1_findLosses_79 : decode cX1_findLosses 79 = .ok (.aload_n 1, 1) := by decide +kernel
theorem dX1_findLosses_80 : decode cX1_findLosses 80 = .ok (.getfield 232, 3) := by decide +kernel
theorem dX1_findLosses_83 : decode cX1_findLosses 83 = .ok (.aload_n 3, 1) := by decide +kernel
theorem dX1_findLosses_84 : decode cX1_findLosses 84 = .ok (.getfield 236, 3) := by decide +kernel
theorem dX1_findLosses_87 : decode cX1_findLosses 87 = .ok (.aload_n 3, 1) := by decide +kernel
theorem dX1_findLosses_88 : decode cX1_findLosses 88 = .ok (.getfield 236, 3) := by decide +kernel
theorem dX1_findLosses_91 : decode cX1_findLosses 91 = .ok (.aload_n 0, 1) := by decide +kernel
theorem dX1_findLosses_92 : decode cX1_findLosses 92 = .ok (.getfield 53, 3) := by decide +kernel
theorem dX1_findLosses_95 : decode cX1_findLosses 95 = .ok (.aload_n 0, 1) := by decide +kernel
theorem dX1_findLosses_96 : decode cX1_findLosses 96 = .ok (.getfield 45, 3) := by decide +kernel
theorem dX1_findLosses_99 : decode cX1_findLosses 99 = .ok (.getfield 62, 3) := by decide +kernel
theorem dX1_findLosses_102 : decode cX1_findLosses 102 = .ok (.invokevirtual 239, 3) := by decide +kernel
theorem dX1_findLosses_105 : decode cX1_findLosses 105 = .ok (.aload_n 0, 1) := by decide +kernel
theorem dX1_findLosses_106 : decode cX1_findLosses 106 = .ok (.aload_n 1, 1) := by decide +kernel
theorem dX1_findLosses_107 : decode cX1_findLosses 107 = .ok (.invokevirtual 279, 3) := by decide +kernel
theorem dX1_findLosses_110 : decode cX1_findLosses 110 = .ok (.astore_n 3, 1) := by decide +kernel
theorem dX1_findLosses_111 : decode cX1_findLosses 111 = .ok (.iinc 4 (-1), 3) := by decide +kernel
theorem dX1_findLosses_114 : decode cX1_findLosses 114 = .ok (.goto (-102), 3) := by decide +kernel
theorem dX1_findLosses_117 : decode cX1_findLosses 117 = .ok (.return_, 1) := by decide +kernel
theorem dX1_lowestInFlight_0 : decode cX1_lowestInFlight 0 = .ok (.aload_n 0, 1) := by decide +kernel
theorem dX1_lowestInFlight_1 : decode cX1_lowestInFlight 1 = .ok (.aload_n 0, 1) := by decide +kernel
theorem dX1_lowestInFlight_2 : decode cX1_lowestInFlight 2 = .ok (.getfield 152, 3) := by decide +kernel
theorem dX1_lowestInFlight_5 : decode cX1_lowestInFlight 5 = .ok (.invokevirtual 83, 3) := by decide +kernel
theorem dX1_lowestInFlight_8 : decode cX1_lowestInFlight 8 = .ok (.astore_n 2, 1) := by decide +kernel
theorem dX1_lowestInFlight_9 : decode cX1_lowestInFlight 9 = .ok (.aload_n 0, 1) := by decide +kernel
theorem dX1_lowestInFlight_10 : decode cX1_lowestInFlight 10 = .ok (.getfield 152, 3) := by decide +kernel
theorem dX1_lowestInFlight_13 : decode cX1_lowestInFlight 13 = .ok (.aload_n 0, 1) := by decide +kernel
theorem dX1_lowestInFlight_14 : decode cX1_lowestInFlight 14 = .ok (.getfield 53, 3) := by decide +kernel
theorem dX1_lowestInFlight_17 : decode cX1_lowestInFlight 17 = .ok (.if_icmp .ge 36, 3) := by decide +kernel
theorem dX1_lowestInFlight_20 : decode cX1_lowestInFlight 20 = .ok (.aload_n 2, 1) := by decide +kernel
theorem dX1_lowestInFlight_21 : decode cX1_lowestInFlight 21 = .ok (.ifnull 32, 3) := by decide +kernel
theorem dX1_lowestInFlight_24 : decode cX1_lowestInFlight 24 = .ok (.aload_n 2, 1) := by decide +kernel
theorem dX1_lowestInFlight_25 : decode cX1_lowestInFlight 25 = .ok (.getfield 95, 3) := by decide +kernel
theorem dX1_lowestInFlight_28 : decode cX1_lowestInFlight 28 = .ok (.ifCond .eq 25, 3) := by decide +kernel
theorem dX1_lowestInFlight_31 : decode cX1_lowestInFlight 31 = .ok (.aload_n 0, 1) := by decide +kernel
theorem dX1_lowestInFlight_32 : decode cX1_lowestInFlight 32 = .ok (.dup, 1) := by decide +kernel
theorem dX1_lowestInFlight_33 : decode cX1_lowestInFlight 33 = .ok (.getfield 152, 3) := by decide +kernel
theorem dX1_lowestInFlight_36 : decode cX1_lowestInFlight 36 = .ok (.iconst 1, 1) := by decide +kernel
theorem dX1_lowestInFlight_37 : decode cX1_lowestInFlight 37 = .ok (.iadd, 1) := by decide +kernel
theorem dX1_lowestInFlight_38 : decode cX1_lowestInFlight 38 = .ok (.putfield 152, 3) := by decide +kernel
theorem dX1_lowestInFlight_41 : decode cX1_lowestInFlight 41 = .ok (.aload_n 0, 1) := by decide +kernel
theorem dX1_lowestInFlight_42 : decode cX1_lowestInFlight 42 = .ok (.aload_n 0, 1) := by decide +kernel
theorem dX1_lowestInFlight_43 : decode cX1_lowestInFlight 43 = .ok (.getfield 152, 3) := by decide +kernel
theorem dX1_lowestInFlight_46 : decode cX1_lowestInFlight 46 = .ok (.invokevirtual 83, 3) := by decide +kernel
theorem dX1_lowestInFlight_49 : decode cX1_lowestInFlight 49 = .ok (.astore_n 2, 1) := by decide +kernel
theorem dX1_lowestInFlight_50 : decode cX1_lowestInFlight 50 = .ok (.goto (-41), 3) := by decide +kernel
theorem dX1_lowestInFlight_53 : decode cX1_lowestInFlight 53 = .ok (.aload_n 0, 1) := by decide +kernel
theorem dX1_lowestInFlight_54 : decode cX1_lowestInFlight 54 = .ok (.getfield 152, 3) := by decide +kernel
theorem dX1_lowestInFlight_57 : decode cX1_lowestInFlight 57 = .ok (.istore_n 3, 1) := by decide +kernel
theorem dX1_lowestInFlight_58 : decode cX1_lowestInFlight 58 = .ok (.iload_n 3, 1) := by decide +kernel
theorem dX1_lowestInFlight_59 : decode cX1_lowestInFlight 59 = .ok (.aload_n 0, 1) := by decide +kernel
theorem dX1_lowestInFlight_60 : decode cX1_lowestInFlight 60 = .ok (.getfield 53, 3) := by decide +kernel
theorem dX1_lowestInFlight_63 : decode cX1_lowestInFlight 63 = .ok (.if_icmp .ge 51, 3) := by decide +kernel
theorem dX1_lowestInFlight_66 : decode cX1_lowestInFlight 66 = .ok (.aload_n 1, 1) := by decide +kernel
theorem dX1_lowestInFlight_67 : decode cX1_lowestInFlight 67 = .ok (.getfield 163, 3) := by decide +kernel
theorem dX1_lowestInFlight_70 : decode cX1_lowestInFlight 70 = .ok (.ifCond .le 44, 3) := by decide +kernel
theorem dX1_lowestInFlight_73 : decode cX1_lowestInFlight 73 = .ok (.aload_n 0, 1) := by decide +kernel
theorem dX1_lowestInFlight_74 : decode cX1_lowestInFlight 74 = .ok (.iload_n 3, 1) := by decide +kernel
theorem dX1_lowestInFlight_75 : decode cX1_lowestInFlight 75 = .ok (.invokevirtual 83, 3) := by decide +kernel
theorem dX1_lowestInFlight_78 : decode cX1_lowestInFlight 78 = .ok (.astore 4, 2) := by decide +kernel
theorem dX1_lowestInFlight_80 : decode cX1_lowestInFlight 80 = .ok (.aload 4, 2) := by decide +kernel
theorem dX1_lowestInFlight_82 : decode cX1_lowestInFlight 82 = .ok (.ifnull 26, 3) := by decide +kernel
theorem dX1_lowestInFlight_85 : decode cX1_lowestInFlight 85 = .ok (.aload 4, 2) := by decide +kernel
theorem dX1_lowestInFlight_87 : decode cX1_lowestInFlight 87 = .ok (.getfield 162, 3) := by decide +kernel
theorem dX1_lowestInFlight_90 : decode cX1_lowestInFlight 90 = .ok (.aload_n 1, 1) := by decide +kernel
theorem dX1_lowestInFlight_91 : decode cX1_lowestInFlight 91 = .ok (.getfield 293, 3) := by decide +kernel
theorem dX1_lowestInFlight_94 : decode cX1_lowestInFlight 94 = .ok (.if_icmp .ne 14, 3) := by decide +kernel
theorem dX1_lowestInFlight_97 : decode cX1_lowestInFlight 97 = .ok (.aload 4, 2) := by decide +kernel
theorem dX1_lowestInFlight_99 : decode cX1_lowestInFlight 99 = .ok (.getfield 95, 3) := by decide +kernel
theorem dX1_lowestInFlight_102 : decode cX1_lowestInFlight 102 = .ok (.ifCond .ne 6, 3) := by decide +kernel
theorem dX1_lowestInFlight_105 : decode cX1_lowestInFlight 105 = .ok (.aload 4, 2) := by decide +kernel
theorem dX1_lowestInFlight_107 : decode cX1_lowestInFlight 107 = .ok (.areturn, 1) := by decide +kernel
theorem dX1_lowestInFlight_108 : decode cX1_lowestInFlight 108 = .ok (.iinc 3 1, 3) := by decide +kernel
theorem dX1_lowestInFlight_111 : decode cX1_lowestInFlight 111 = .ok (.goto (-53), 3) := by decide +kernel
theorem dX1_lowestInFlight_114 : decode cX1_lowestInFlight 114 = .ok (.aconst_null, 1) := by decide +kernel
theorem dX1_lowestInFlight_115 : decode cX1_lowestInFlight 115 = .ok (.areturn, 1) := by decide +kernel
theorem dX1_lookAfter_0 : decode cX1_lookAfter 0 = .ok (.aload_n 0, 1) := by decide +kernel
theorem dX1_lookAfter_1 : decode cX1_lookAfter 1 = .ok (.getfield 29, 3) := by decide +kernel
theorem dX1_lookAfter_4 : decode cX1_lookAfter 4 = .ok (.iconst 1, 1) := by decide +kernel
theorem dX1_lookAfter_5 : decode cX1_lookAfter 5 = .ok (.if_icmp .eq 11, 3) := by decide +kernel
theorem dX1_lookAfter_8 : decode cX1_lookAfter 8 = .ok (.aload_n 0, 1) := by decide +kernel
theorem dX1_lookAfter_9 : decode cX1_lookAfter 9 = .ok (.getfield 29, 3) := by decide +kernel
theorem dX1_lookAfter_12 : decode cX1_lookAfter 12 = .ok (.iconst 2, 1) := by decide +kernel
theorem dX1_lookAfter_13 : decode cX1_lookAfter 13 = .ok (.if_icmp .ne 37, 3) := by decide +kernel
theorem dX1_lookAfter_16 : decode cX1_lookAfter 16 = .ok (.aload_n 0, 1) := by decide +kernel
theorem dX1_lookAfter_17 : decode cX1_lookAfter 17 = .ok (.aload_n 0, 1) := by decide +kernel
theorem dX1_lookAfter_18 : decode cX1_lookAfter 18 = .ok (.getfield 14, 3) := by decide +kernel
theorem dX1_lookAfter_21 : decode cX1_lookAfter 21 = .ok (.iconst 0, 1) := by decide +kernel
theorem dX1_lookAfter_22 : decode cX1_lookAfter 22 = .ok (.invokevirtual 222, 3) := by decide +kernel
theorem dX1_lookAfter_25 : decode cX1_lookAfter 25 = .ok (.aload_n 0, 1) := by decide +kernel
theorem dX1_lookAfter_26 : decode cX1_lookAfter 26 = .ok (.aload_n 0, 1) := by decide +kernel
theorem dX1_lookAfter_27 : decode cX1_lookAfter 27 = .ok (.getfield 20, 3) := by decide +kernel
theorem dX1_lookAfter_30 : decode cX1_lookAfter 30 = .ok (.iconst 0, 1) := by decide +kernel
theorem dX1_lookAfter_31 : decode cX1_lookAfter 31 = .ok (.invokevirtual 222, 3) := by decide +kernel
theorem dX1_lookAfter_34 : decode cX1_lookAfter 34 = .ok (.aload_n 0, 1) := by decide +kernel
theorem dX1_lookAfter_35 : decode cX1_lookAfter 35 = .ok (.aload_n 0, 1) := by decide +kernel
theorem dX1_lookAfter_36 : decode cX1_lookAfter 36 = .ok (.getfield 14, 3) := by decide +kernel
theorem dX1_lookAfter_39 : decode cX1_lookAfter 39 = .ok (.invokevirtual 294, 3) := by decide +kernel
theorem dX1_lookAfter_42 : decode cX1_lookAfter 42 = .ok (.aload_n 0, 1) := by decide +kernel
theorem dX1_lookAfter_43 : decode cX1_lookAfter 43 = .ok (.aload_n 0, 1) := by decide +kernel
theorem dX1_lookAfter_44 : decode cX1_lookAfter 44 = .ok (.getfield 20, 3) := by decide +kernel
theorem dX1_lookAfter_47 : decode cX1_lookAfter 47 = .ok (.invokevirtual 294, 3) := by decide +kernel
theorem dX1_lookAfter_50 : decode cX1_lookAfter 50 = .ok (.aload_n 0, 1) := by decide +kernel
theorem dX1_lookAfter_51 : decode cX1_lookAfter 51 = .ok (.getfield 29, 3) := by decide +kernel
theorem dX1_lookAfter_54 : decode cX1_lookAfter 54 = .ok (.iconst 1, 1) := by decide +kernel
theorem dX1_lookAfter_55 : decode cX1_lookAfter 55 = .ok (.if_icmp .ne 39, 3) := by decide +kernel
theorem dX1_lookAfter_58 : decode cX1_lookAfter 58 = .ok (.aload_n 0, 1) := by decide +kernel
theorem dX1_lookAfter_59 : decode cX1_lookAfter 59 = .ok (.getfield 45, 3) := by decide +kernel
theorem dX1_lookAfter_62 : decode cX1_lookAfter 62 = .ok (.getfield 62, 3) := by decide +kernel
theorem dX1_lookAfter_65 : decode cX1_lookAfter 65 = .ok (.aload_n 0, 1) := by decide +kernel
theorem dX1_lookAfter_66 : decode cX1_lookAfter 66 = .ok (.getfield 67, 3) := by decide +kernel
theorem dX1_lookAfter_69 : decode cX1_lookAfter 69 = .ok (.isub, 1) := by decide +kernel
theorem dX1_lookAfter_70 : decode cX1_lookAfter 70 = .ok (.aload_n 0, 1) := by decide +kernel
theorem dX1_lookAfter_71 : decode cX1_lookAfter 71 = .ok (.getfield 36, 3) := by decide +kernel
theorem dX1_lookAfter_74 : decode cX1_lookAfter 74 = .ok (.if_icmp .lt 20, 3) := by decide +kernel
theorem dX1_lookAfter_77 : decode cX1_lookAfter 77 = .ok (.aload_n 0, 1) := by decide +kernel
theorem dX1_lookAfter_78 : decode cX1_lookAfter 78 = .ok (.dup, 1) := by decide +kernel
theorem dX1_lookAfter_79 : decode cX1_lookAfter 79 = .ok (.getfield 36, 3) := by decide +kernel
theorem dX1_lookAfter_82 : decode cX1_lookAfter 82 = .ok (.iconst 2, 1) := by decide +kernel
theorem dX1_lookAfter_83 : decode cX1_lookAfter 83 = .ok (.imul, 1) := by decide +kernel
theorem dX1_lookAfter_84 : decode cX1_lookAfter 84 = .ok (.putfield 36, 3) := by decide +kernel
theorem dX1_lookAfter_87 : decode cX1_lookAfter 87 = .ok (.aload_n 0, 1) := by decide +kernel
theorem dX1_lookAfter_88 : decode cX1_lookAfter 88 = .ok (.invokevirtual 56, 3) := by decide +kernel
theorem dX1_lookAfter_91 : decode cX1_lookAfter 91 = .ok (.goto 30, 3) := by decide +kernel
theorem dX1_lookAfter_94 : decode cX1_lookAfter 94 = .ok (.aload_n 0, 1) := by decide +kernel
theorem dX1_lookAfter_95 : decode cX1_lookAfter 95 = .ok (.getfield 29, 3) := by decide +kernel
theorem dX1_lookAfter_98 : decode cX1_lookAfter 98 = .ok (.iconst 3, 1) := by decide +kernel
theorem dX1_lookAfter_99 : decode cX1_lookAfter 99 = .ok (.if_icmp .ne 22, 3) := by decide +kernel
theorem dX1_lookAfter_102 : decode cX1_lookAfter 102 = .ok (.aload_n 0, 1) := by decide +kernel
theorem dX1_lookAfter_103 : decode cX1_lookAfter 103 = .ok (.getfield 45, 3) := by decide +kernel
theorem dX1_lookAfter_106 : decode cX1_lookAfter 106 = .ok (.getfield 62, 3) := by decide +kernel
theorem dX1_lookAfter_109 : decode cX1_lookAfter 109 = .ok (.aload_n 0, 1) := by decide +kernel
theorem dX1_lookAfter_110 : decode cX1_lookAfter 110 = .ok (.getfield 98, 3) := by decide +kernel
theorem dX1_lookAfter_113 : decode cX1_lookAfter 113 = .ok (.if_icmp .lt 8, 3) := by decide +kernel
theorem dX1_lookAfter_116 : decode cX1_lookAfter 116 = .ok (.aload_n 0, 1) := by decide +kernel
theorem dX1_lookAfter_117 : decode cX1_lookAfter 117 = .ok (.iconst 4, 1) := by decide +kernel
theorem dX1_lookAfter_118 : decode cX1_lookAfter 118 = .ok (.putfield 29, 3) := by decide +kernel
theorem dX1_lookAfter_121 : decode cX1_lookAfter 121 = .ok (.return_, 1) := by decide +kernel
theorem dX1_probeInTime_0 : decode cX1_probeInTime 0 = .ok (.aload_n 1, 1) := by decide +kernel
theorem dX1_probeInTime_1 : decode cX1_probeInTime 1 = .ok (.aload_n 0, 1) := by decide +kernel
theorem dX1_probeInTime_2 : decode cX1_probeInTime 2 = .ok (.getfield 45, 3) := by decide +kernel
theorem dX1_probeInTime_5 : decode cX1_probeInTime 5 = .ok (.getfield 62, 3) := by decide +kernel
theorem dX1_probeInTime_8 : decode cX1_probeInTime 8 = .ok (.invokevirtual 298, 3) := by decide +kernel
theorem dX1_probeInTime_11 : decode cX1_probeInTime 11 = .ok (.ifCond .eq 11, 3) := by decide +kernel
theorem dX1_probeInTime_14 : decode cX1_probeInTime 14 = .ok (.aload_n 0, 1) := by decide +kernel
theorem dX1_probeInTime_15 : decode cX1_probeInTime 15 = .ok (.aload_n 1, 1) := by decide +kernel
theorem dX1_probeInTime_16 : decode cX1_probeInTime 16 = .ok (.invokevirtual 279, 3) := by decide +kernel
theorem dX1_probeInTime_19 : decode cX1_probeInTime 19 = .ok (.goto 4, 3) := by decide +kernel
theorem dX1_probeInTime_22 : decode cX1_probeInTime 22 = .ok (.aconst_null, 1) := by decide +kernel
theorem dX1_probeInTime_23 : decode cX1_probeInTime 23 = .ok (.astore_n 2, 1) := by decide +kernel
theorem dX1_probeInTime_24 : decode cX1_probeInTime 24 = .ok (.aload_n 2, 1) := by decide +kernel
theorem dX1_probeInTime_25 : decode cX1_probeInTime 25 = .ok (.ifnull 51, 3) := by decide +kernel
theorem dX1_probeInTime_28 : decode cX1_probeInTime 28 = .ok (.aload_n 0, 1) := by decide +kernel
theorem dX1_probeInTime_29 : decode cX1_probeInTime 29 = .ok (.getfield 53, 3) := by decide +kernel
theorem dX1_probeInTime_32 : decode cX1_probeInTime 32 = .ok (.sipush 400, 3) := by decide +kernel
theorem dX1_probeInTime_35 : decode cX1_probeInTime 35 = .ok (.if_icmp .ge 41, 3) := by decide +kernel
theorem dX1_probeInTime_38 : decode cX1_probeInTime 38 = .ok (.aload_n 1, 1) := by decide +kernel
theorem dX1_probeInTime_39 : decode cX1_probeInTime 39 = .ok (.dup, 1) := by decide +kernel
theorem dX1_probeInTime_40 : decode cX1_probeInTime 40 = .ok (.getfield 302, 3) := by decide +kernel
theorem dX1_probeInTime_43 : decode cX1_probeInTime 43 = .ok (.iconst 1, 1) := by decide +kernel
theorem dX1_probeInTime_44 : decode cX1_probeInTime 44 = .ok (.iadd, 1) := by decide +kernel
theorem dX1_probeInTime_45 : decode cX1_probeInTime 45 = .ok (.putfield 302, 3) := by decide +kernel
theorem dX1_probeInTime_48 : decode cX1_probeInTime 48 = .ok (.aload_n 1, 1) := by decide +kernel
theorem dX1_probeInTime_49 : decode cX1_probeInTime 49 = .ok (.dup, 1) := by decide +kernel
theorem dX1_probeInTime_50 : decode cX1_probeInTime 50 = .ok (.getfield 219, 3) := by decide +kernel
theorem dX1_probeInTime_53 : decode cX1_probeInTime 53 = .ok (.iconst 1, 1) := by decide +kernel
theorem dX1_probeInTime_54 : decode cX1_probeInTime 54 = .ok (.iadd, 1) := by decide +kernel
theorem dX1_probeInTime_55 : decode cX1_probeInTime 55 = .ok (.putfield 219, 3) := by decide +kernel
theorem dX1_probeInTime_58 : decode cX1_probeInTime 58 = .ok (.aload_n 0, 1) := by decide +kernel
theorem dX1_probeInTime_59 : decode cX1_probeInTime 59 = .ok (.aload_n 1, 1) := by decide +kernel
theorem dX1_probeInTime_60 : decode cX1_probeInTime 60 = .ok (.aload_n 2, 1) := by decide +kernel
theorem dX1_probeInTime_61 : decode cX1_probeInTime 61 = .ok (.getfield 166, 3) := by decide +kernel
theorem dX1_probeInTime_64 : decode cX1_probeInTime 64 = .ok (.aload_n 2, 1) := by decide +kernel
theorem dX1_probeInTime_65 : decode cX1_probeInTime 65 = .ok (.getfield 169, 3) := by decide +kernel
theorem dX1_probeInTime_68 : decode cX1_probeInTime 68 = .ok (.aload_n 2, 1) := by decide +kernel
theorem dX1_probeInTime_69 : decode cX1_probeInTime 69 = .ok (.getfield 172, 3) := by decide +kernel
theorem dX1_probeInTime_72 : decode cX1_probeInTime 72 = .ok (.iconst 1, 1) := by decide +kernel
theorem dX1_probeInTime_73 : decode cX1_probeInTime 73 = .ok (.invokevirtual 305, 3) := by decide +kernel
theorem dX1_probeInTime_76 : decode cX1_probeInTime 76 = .ok (.return_, 1) := by decide +kernel
theorem dX1_sendData_0 : decode cX1_sendData 0 = .ok (.aload_n 0, 1) := by decide +kernel
theorem dX1_sendData_1 : decode cX1_sendData 1 = .ok (.getfield 14, 3) := by decide +kernel
theorem dX1_sendData_4 : decode cX1_sendData 4 = .ok (.iconst 0, 1) := by decide +kernel
theorem dX1_sendData_5 : decode cX1_sendData 5 = .ok (.putfield 309, 3) := by decide +kernel
theorem dX1_sendData_8 : decode cX1_sendData 8 = .ok (.aload_n 0, 1) := by decide +kernel
theorem dX1_sendData_9 : decode cX1_sendData 9 = .ok (.getfield 20, 3) := by decide +kernel
theorem dX1_sendData_12 : decode cX1_sendData 12 = .ok (.iconst 0, 1) := by decide +kernel
theorem dX1_sendData_13 : decode cX1_sendData 13 = .ok (.putfield 309, 3) := by decide +kernel
theorem dX1_sendData_16 : decode cX1_sendData 16 = .ok (.aload_n 0, 1) := by decide +kernel
theorem dX1_sendData_17 : decode cX1_sendData 17 = .ok (.getfield 29, 3) := by decide +kernel
theorem dX1_sendData_20 : decode cX1_sendData 20 = .ok (.iconst 2, 1) := by decide +kernel
theorem dX1_sendData_21 : decode cX1_sendData 21 = .ok (.if_icmp .eq 20, 3) := by decide +kernel
theorem dX1_sendData_24 : decode cX1_sendData 24 = .ok (.aload_n 0, 1) := by decide +kernel
theorem dX1_sendData_25 : decode cX1_sendData 25 = .ok (.getfield 29, 3) := by decide +kernel
theorem dX1_sendData_28 : decode cX1_sendData 28 = .ok (.iconst 1, 1) := by decide +kernel
theorem dX1_sendData_29 : decode cX1_sendData 29 = .ok (.if_icmp .ne 11, 3) := by decide +kernel
theorem dX1_sendData_32 : decode cX1_sendData 32 = .ok (.aload_n 0, 1) := by decide +kernel
theorem dX1_sendData_33 : decode cX1_sendData 33 = .ok (.getfield 33, 3) := by decide +kernel
theorem dX1_sendData_36 : decode cX1_sendData 36 = .ok (.iconst (-1), 1) := by decide +kernel
theorem dX1_sendData_37 : decode cX1_sendData 37 = .ok (.if_icmp .ne 4, 3) := by decide +kernel
theorem dX1_sendData_40 : decode cX1_sendData 40 = .ok (.return_, 1) := by decide +kernel
theorem dX1_sendData_41 : decode cX1_sendData 41 = .ok (.aload_n 0, 1) := by decide +kernel
theorem dX1_sendData_42 : decode cX1_sendData 42 = .ok (.getfield 53, 3) := by decide +kernel
theorem dX1_sendData_45 : decode cX1_sendData 45 = .ok (.istore_n 1, 1) := by decide +kernel
theorem dX1_sendData_46 : decode cX1_sendData 46 = .ok (.iload_n 1, 1) := by decide +kernel
theorem dX1_sendData_47 : decode cX1_sendData 47 = .ok (.sipush 400, 3) := by decide +kernel
theorem dX1_sendData_50 : decode cX1_sendData 50 = .ok (.if_icmp .ge 47, 3) := by decide +kernel
theorem dX1_sendData_53 : decode cX1_sendData 53 = .ok (.aload_n 0, 1) := by decide +kernel
theorem dX1_sendData_54 : decode cX1_sendData 54 = .ok (.invokevirtual 312, 3) := by decide +kernel
theorem dX1_sendData_57 : decode cX1_sendData 57 = .ok (.astore_n 2, 1) := by decide +kernel
theorem dX1_sendData_58 : decode cX1_sendData 58 = .ok (.aload_n 2, 1) := by decide +kernel
theorem dX1_sendData_59 : decode cX1_sendData 59 = .ok (.ifnull 38, 3) := by decide +kernel
theorem dX1_sendData_62 : decode cX1_sendData 62 = .ok (.aload_n 0, 1) := by decide +kernel
theorem dX1_sendData_63 : decode cX1_sendData 63 = .ok (.aload_n 2, 1) := by decide +kernel
theorem dX1_sendData_64 : decode cX1_sendData 64 = .ok (.invokevirtual 316, 3) := by decide +kernel
theorem dX1_sendData_67 : decode cX1_sendData 67 = .ok (.ifCond .ne 14, 3) := by decide +kernel
theorem dX1_sendData_70 : decode cX1_sendData 70 = .ok (.aload_n 0, 1) := by decide +kernel
theorem dX1_sendData_71 : decode cX1_sendData 71 = .ok (.aload_n 2, 1) := by decide +kernel
theorem dX1_sendData_72 : decode cX1_sendData 72 = .ok (.invokevirtual 320, 3) := by decide +kernel
theorem dX1_sendData_75 : decode cX1_sendData 75 = .ok (.ifCond .ne 6, 3) := by decide +kernel
theorem dX1_sendData_78 : decode cX1_sendData 78 = .ok (.goto 19, 3) := by decide +kernel
theorem dX1_sendData_81 : decode cX1_sendData 81 = .ok (.aload_n 2, 1) := by decide +kernel
theorem dX1_sendData_82 : decode cX1_sendData 82 = .ok (.dup, 1) := by decide +kernel
theorem dX1_sendData_83 : decode cX1_sendData 83 = .ok (.getfield 309, 3) := by decide +kernel
theorem dX1_sendData_86 : decode cX1_sendData 86 = .ok (.iconst 1, 1) := by decide +kernel
theorem dX1_sendData_87 : decode cX1_sendData 87 = .ok (.iadd, 1) := by decide +kernel
theorem dX1_sendData_88 : decode cX1_sendData 88 = .ok (.putfield 309, 3) := by decide +kernel
theorem dX1_sendData_91 : decode cX1_sendData 91 = .ok (.iinc 1 1, 3) := by decide +kernel
theorem dX1_sendData_94 : decode cX1_sendData 94 = .ok (.goto (-48), 3) := by decide +kernel
theorem dX1_sendData_97 : decode cX1_sendData 97 = .ok (.return_, 1) := by decide +kernel
theorem dX1_routeToSend_0 : decode cX1_routeToSend 0 = .ok (.aload_n 0, 1) := by decide +kernel
theorem dX1_routeToSend_1 : decode cX1_routeToSend 1 = .ok (.getfield 101, 3) := by decide +kernel
theorem dX1_routeToSend_4 : decode cX1_routeToSend 4 = .ok (.iconst 1, 1) := by decide +kernel
theorem dX1_routeToSend_5 : decode cX1_routeToSend 5 = .ok (.if_icmp .eq 17, 3) := by decide +kernel
theorem dX1_routeToSend_8 : decode cX1_routeToSend 8 = .ok (.aload_n 0, 1) := by decide +kernel
theorem dX1_routeToSend_9 : decode cX1_routeToSend 9 = .ok (.getfield 14, 3) := by decide +kernel
theorem dX1_routeToSend_12 : decode cX1_routeToSend 12 = .ok (.invokevirtual 323, 3) := by decide +kernel
theorem dX1_routeToSend_15 : decode cX1_routeToSend 15 = .ok (.ifCond .eq 7, 3) := by decide +kernel
theorem dX1_routeToSend_18 : decode cX1_routeToSend 18 = .ok (.iconst 1, 1) := by decide +kernel
theorem dX1_routeToSend_19 : decode cX1_routeToSend 19 = .ok (.goto 4, 3) := by decide +kernel
theorem dX1_routeToSend_22 : decode cX1_routeToSend 22 = .ok (.iconst 0, 1) := by decide +kernel
theorem dX1_routeToSend_23 : decode cX1_routeToSend 23 = .ok (.istore_n 1, 1) := by decide +kernel
theorem dX1_routeToSend_24 : decode cX1_routeToSend 24 = .ok (.aload_n 0, 1) := by decide +kernel
theorem dX1_routeToSend_25 : decode cX1_routeToSend 25 = .ok (.getfield 101, 3) := by decide +kernel
theorem dX1_routeToSend_28 : decode cX1_routeToSend 28 = .ok (.ifCond .eq 17, 3) := by decide +kernel
theorem dX1_routeToSend_31 : decode cX1_routeToSend 31 = .ok (.aload_n 0, 1) := by decide +kernel
theorem dX1_routeToSend_32 : decode cX1_routeToSend 32 = .ok (.getfield 20, 3) := by decide +kernel
theorem dX1_routeToSend_35 : decode cX1_routeToSend 35 = .ok (.invokevirtual 323, 3) := by decide +kernel
theorem dX1_routeToSend_38 : decode cX1_routeToSend 38 = .ok (.ifCond .eq 7, 3) := by decide +kernel
theorem dX1_routeToSend_41 : decode cX1_routeToSend 41 = .ok (.iconst 1, 1) := by decide +kernel
theorem dX1_routeToSend_42 : decode cX1_routeToSend 42 = .ok (.goto 4, 3) := by decide +kernel
theorem dX1_routeToSend_45 : decode cX1_routeToSend 45 = .ok (.iconst 0, 1) := by decide +kernel
theorem dX1_routeToSend_46 : decode cX1_routeToSend 46 = .ok (.istore_n 2, 1) := by decide +kernel
theorem dX1_routeToSend_47 : decode cX1_routeToSend 47 = .ok (.iload_n 1, 1) := by decide +kernel
theorem dX1_routeToSend_48 : decode cX1_routeToSend 48 = .ok (.ifCond .eq 36, 3) := by decide +kernel
theorem dX1_routeToSend_51 : decode cX1_routeToSend 51 = .ok (.iload_n 2, 1) := by decide +kernel
theorem dX1_routeToSend_52 : decode cX1_routeToSend 52 = .ok (.ifCond .eq 32, 3) := by decide +kernel
theorem dX1_routeToSend_55 : decode cX1_routeToSend 55 = .ok (.aload_n 0, 1) := by decide +kernel
theorem dX1_routeToSend_56 : decode cX1_routeToSend 56 = .ok (.getfield 20, 3) := by decide +kernel
theorem dX1_routeToSend_59 : decode cX1_routeToSend 59 = .ok (.getfield 163, 3) := by decide +kernel
theorem dX1_routeToSend_62 : decode cX1_routeToSend 62 = .ok (.aload_n 0, 1) := by decide +kernel
theorem dX1_routeToSend_63 : decode cX1_routeToSend 63 = .ok (.getfield 14, 3) := by decide +kernel
theorem dX1_routeToSend_66 : decode cX1_routeToSend 66 = .ok (.getfield 163, 3) := by decide +kernel
theorem dX1_routeToSend_69 : decode cX1_routeToSend 69 = .ok (.if_icmp .ge 10, 3) := by decide +kernel
theorem dX1_routeToSend_72 : decode cX1_routeToSend 72 = .ok (.aload_n 0, 1) := by decide +kernel
theorem dX1_routeToSend_73 : decode cX1_routeToSend 73 = .ok (.getfield 20, 3) := by decide +kernel
theorem dX1_routeToSend_76 : decode cX1_routeToSend 76 = .ok (.goto 7, 3) := by decide +kernel
theorem dX1_routeToSend_79 : decode cX1_routeToSend 79 = .ok (.aload_n 0, 1) := by decide +kernel
theorem dX1_routeToSend_80 : decode cX1_routeToSend 80 = .ok (.getfield 14, 3) := by decide +kernel
theorem dX1_routeToSend_83 : decode cX1_routeToSend 83 = .ok (.areturn, 1) := by decide +kernel
theorem dX1_routeToSend_84 : decode cX1_routeToSend 84 = .ok (.iload_n 1, 1) := by decide +kernel
theorem dX1_routeToSend_85 : decode cX1_routeToSend 85 = .ok (.ifCond .eq 8, 3) := by decide +kernel
theorem dX1_routeToSend_88 : decode cX1_routeToSend 88 = .ok (.aload_n 0, 1) := by decide +kernel
theorem dX1_routeToSend_89 : decode cX1_routeToSend 89 = .ok (.getfield 14, 3) := by decide +kernel
theorem dX1_routeToSend_92 : decode cX1_routeToSend 92 = .ok (.areturn, 1) := by decide +kernel
theorem dX1_routeToSend_93 : decode cX1_routeToSend 93 = .ok (.iload_n 2, 1) := by decide +kernel
theorem dX1_routeToSend_94 : decode cX1_routeToSend 94 = .ok (.ifCond .eq 10, 3) := by decide +kernel
theorem dX1_routeToSend_97 : decode cX1_routeToSend 97 = .ok (.aload_n 0, 1) := by decide +kernel
theorem dX1_routeToSend_98 : decode cX1_routeToSend 98 = .ok (.getfield 20, 3) := by decide +kernel
theorem dX1_routeToSend_101 : decode cX1_routeToSend 101 = .ok (.goto 4, 3) := by decide +kernel
theorem dX1_routeToSend_104 : decode cX1_routeToSend 104 = .ok (.aconst_null, 1) := by decide +kernel
theorem dX1_routeToSend_105 : decode cX1_routeToSend 105 = .ok (.areturn, 1) := by decide +kernel
theorem dX1_sendLost_0 : decode cX1_sendLost 0 = .ok (.iconst 0, 1) := by decide +kernel
theorem dX1_sendLost_1 : decode cX1_sendLost 1 = .ok (.istore_n 2, 1) := by decide +kernel
theorem dX1_sendLost_2 : decode cX1_sendLost 2 = .ok (.iload_n 2, 1) := by decide +kernel
theorem dX1_sendLost_3 : decode cX1_sendLost 3 = .ok (.iconst 4, 1) := by decide +kernel
theorem dX1_sendLost_4 : decode cX1_sendLost 4 = .ok (.if_icmp .ge 51, 3) := by decide +kernel
theorem dX1_sendLost_7 : decode cX1_sendLost 7 = .ok (.aload_n 0, 1) := by decide +kernel
theorem dX1_sendLost_8 : decode cX1_sendLost 8 = .ok (.getfield 49, 3) := by decide +kernel
theorem dX1_sendLost_11 : decode cX1_sendLost 11 = .ok (.iload_n 2, 1) := by decide +kernel
theorem dX1_sendLost_12 : decode cX1_sendLost 12 = .ok (.aaload, 1) := by decide +kernel
theorem dX1_sendLost_13 : decode cX1_sendLost 13 = .ok (.getfield 327, 3) := by decide +kernel
theorem dX1_sendLost_16 : decode cX1_sendLost 16 = .ok (.ifCond .le 33, 3) := by decide +kernel
theorem dX1_sendLost_19 : decode cX1_sendLost 19 = .ok (.aload_n 0, 1) := by decide +kernel
theorem dX1_sendLost_20 : decode cX1_sendLost 20 = .ok (.getfield 49, 3) := by decide +kernel
theorem dX1_sendLost_23 : decode cX1_sendLost 23 = .ok (.iload_n 2, 1) := by decide +kernel
theorem dX1_sendLost_24 : decode cX1_sendLost 24 = .ok (.aaload, 1) := by decide +kernel
theorem dX1_sendLost_25 : decode cX1_sendLost 25 = .ok (.invokevirtual 330, 3) := by decide +kernel
theorem dX1_sendLost_28 : decode cX1_sendLost 28 = .ok (.istore_n 3, 1) := by decide +kernel
theorem dX1_sendLost_29 : decode cX1_sendLost 29 = .ok (.aload_n 0, 1) := by decide +kernel
theorem dX1_sendLost_30 : decode cX1_sendLost 30 = .ok (.aload_n 1, 1) := by decide +kernel
theorem dX1_sendLost_31 : decode cX1_sendLost 31 = .ok (.iload_n 2, 1) := by decide +kernel
theorem dX1_sendLost_32 : decode cX1_sendLost 32 = .ok (.iload_n 3, 1) := by decide +kernel
theorem dX1_sendLost_33 : decode cX1_sendLost 33 = .ok (.aload_n 0, 1) := by decide +kernel
theorem dX1_sendLost_34 : decode cX1_sendLost 34 = .ok (.getfield 49, 3) := by decide +kernel
theorem dX1_sendLost_37 : decode cX1_sendLost 37 = .ok (.iload_n 2, 1) := by decide +kernel
theorem dX1_sendLost_38 : decode cX1_sendLost 38 = .ok (.aaload, 1) := by decide +kernel
theorem dX1_sendLost_39 : decode cX1_sendLost 39 = .ok (.iload_n 3, 1) := by decide +kernel
theorem dX1_sendLost_40 : decode cX1_sendLost 40 = .ok (.invokevirtual 333, 3) := by decide +kernel
theorem dX1_sendLost_43 : decode cX1_sendLost 43 = .ok (.iconst 0, 1) := by decide +kernel
theorem dX1_sendLost_44 : decode cX1_sendLost 44 = .ok (.invokevirtual 305, 3) := by decide +kernel
theorem dX1_sendLost_47 : decode cX1_sendLost 47 = .ok (.iconst 1, 1) := by decide +kernel
theorem dX1_sendLost_48 : decode cX1_sendLost 48 = .ok (.ireturn, 1) := by decide +kernel
theorem dX1_sendLost_49 : decode cX1_sendLost 49 = .ok (.iinc 2 1, 3) := by decide +kernel
theorem dX1_sendLost_52 : decode cX1_sendLost 52 = .ok (.goto (-50), 3) := by decide +kernel
theorem dX1_sendLost_55 : decode cX1_sendLost 55 = .ok (.iconst 0, 1) := by decide +kernel
theorem dX1_sendLost_56 : decode cX1_sendLost 56 = .ok (.ireturn, 1) := by decide +kernel
theorem dX1_sendNew_0 : decode cX1_sendNew 0 = .ok (.aload_n 0, 1) := by decide +kernel
theorem dX1_sendNew_1 : decode cX1_sendNew 1 = .ok (.getfield 39, 3) := by decide +kernel
theorem dX1_sendNew_4 : decode cX1_sendNew 4 = .ok (.istore_n 2, 1) := by decide +kernel
theorem dX1_sendNew_5 : decode cX1_sendNew 5 = .ok (.iconst 0, 1) := by decide +kernel
theorem dX1_sendNew_6 : decode cX1_sendNew 6 = .ok (.istore_n 3, 1) := by decide +kernel
theorem dX1_sendNew_7 : decode cX1_sendNew 7 = .ok (.iload_n 3, 1) := by decide +kernel
theorem dX1_sendNew_8 : decode cX1_sendNew 8 = .ok (.iconst 4, 1) := by decide +kernel
theorem dX1_sendNew_9 : decode cX1_sendNew 9 = .ok (.if_icmp .ge 21, 3) := by decide +kernel
theorem dX1_sendNew_12 : decode cX1_sendNew 12 = .ok (.iload_n 2, 1) := by decide +kernel
theorem dX1_sendNew_13 : decode cX1_sendNew 13 = .ok (.aload_n 0, 1) := by decide +kernel
theorem dX1_sendNew_14 : decode cX1_sendNew 14 = .ok (.getfield 49, 3) := by decide +kernel
theorem dX1_sendNew_17 : decode cX1_sendNew 17 = .ok (.iload_n 3, 1) := by decide +kernel
theorem dX1_sendNew_18 : decode cX1_sendNew 18 = .ok (.aaload, 1) := by decide +kernel
theorem dX1_sendNew_19 : decode cX1_sendNew 19 = .ok (.getfield 337, 3) := by decide +kernel
theorem dX1_sendNew_22 : decode cX1_sendNew 22 = .ok (.isub, 1) := by decide +kernel
theorem dX1_sendNew_23 : decode cX1_sendNew 23 = .ok (.istore_n 2, 1) := by decide +kernel
theorem dX1_sendNew_24 : decode cX1_sendNew 24 = .ok (.iinc 3 1, 3) := by decide +kernel
theorem dX1_sendNew_27 : decode cX1_sendNew 27 = .ok (.goto (-20), 3) := by decide +kernel
theorem dX1_sendNew_30 : decode cX1_sendNew 30 = .ok (.iconst 1, 1) := by decide +kernel
theorem dX1_sendNew_31 : decode cX1_sendNew 31 = .ok (.istore_n 3, 1) := by decide +kernel
theorem dX1_sendNew_32 : decode cX1_sendNew 32 = .ok (.iload_n 3, 1) := by decide +kernel
theorem dX1_sendNew_33 : decode cX1_sendNew 33 = .ok (.iconst 4, 1) := by decide +kernel
theorem dX1_sendNew_34 : decode cX1_sendNew 34 = .ok (.if_icmp .gt 65, 3) := by decide +kernel
theorem dX1_sendNew_37 : decode cX1_sendNew 37 = .ok (.aload_n 0, 1) := by decide +kernel
theorem dX1_sendNew_38 : decode cX1_sendNew 38 = .ok (.getfield 42, 3) := by decide +kernel
theorem dX1_sendNew_41 : decode cX1_sendNew 41 = .ok (.iload_n 3, 1) := by decide +kernel
theorem dX1_sendNew_42 : decode cX1_sendNew 42 = .ok (.iadd, 1) := by decide +kernel
theorem dX1_sendNew_43 : decode cX1_sendNew 43 = .ok (.iconst 4, 1) := by decide +kernel
theorem dX1_sendNew_44 : decode cX1_sendNew 44 = .ok (.irem, 1) := by decide +kernel
theorem dX1_sendNew_45 : decode cX1_sendNew 45 = .ok (.istore 4, 2) := by decide +kernel
theorem dX1_sendNew_47 : decode cX1_sendNew 47 = .ok (.aload_n 0, 1) := by decide +kernel
theorem dX1_sendNew_48 : decode cX1_sendNew 48 = .ok (.getfield 49, 3) := by decide +kernel
theorem dX1_sendNew_51 : decode cX1_sendNew 51 = .ok (.iload 4, 2) := by decide +kernel
theorem dX1_sendNew_53 : decode cX1_sendNew 53 = .ok (.aaload, 1) := by decide +kernel
theorem dX1_sendNew_54 : decode cX1_sendNew 54 = .ok (.iload_n 2, 1) := by decide +kernel
theorem dX1_sendNew_55 : decode cX1_sendNew 55 = .ok (.invokevirtual 338, 3) := by decide +kernel
theorem dX1_sendNew_58 : decode cX1_sendNew 58 = .ok (.istore 5, 2) := by decide +kernel
theorem dX1_sendNew_60 : decode cX1_sendNew 60 = .ok (.iload 5, 2) := by decide +kernel
theorem dX1_sendNew_62 : decode cX1_sendNew 62 = .ok (.ifCond .le 31, 3) := by decide +kernel
theorem dX1_sendNew_65 : decode cX1_sendNew 65 = .ok (.aload_n 0, 1) := by decide +kernel
theorem dX1_sendNew_66 : decode cX1_sendNew 66 = .ok (.iload 4, 2) := by decide +kernel
theorem dX1_sendNew_68 : decode cX1_sendNew 68 = .ok (.putfield 42, 3) := by decide +kernel
theorem dX1_sendNew_71 : decode cX1_sendNew 71 = .ok (.aload_n 0, 1) := by decide +kernel
theorem dX1_sendNew_72 : decode cX1_sendNew 72 = .ok (.aload_n 1, 1) := by decide +kernel
theorem dX1_sendNew_73 : decode cX1_sendNew 73 = .ok (.iload 4, 2) := by decide +kernel
theorem dX1_sendNew_75 : decode cX1_sendNew 75 = .ok (.aload_n 0, 1) := by decide +kernel
theorem dX1_sendNew_76 : decode cX1_sendNew 76 = .ok (.getfield 49, 3) := by decide +kernel
theorem dX1_sendNew_79 : decode cX1_sendNew 79 = .ok (.iload 4, 2) := by decide +kernel
theorem dX1_sendNew_81 : decode cX1_sendNew 81 = .ok (.aaload, 1) := by decide +kernel
theorem dX1_sendNew_82 : decode cX1_sendNew 82 = .ok (.getfield 337, 3) := by decide +kernel
theorem dX1_sendNew_85 : decode cX1_sendNew 85 = .ok (.iload 5, 2) := by decide +kernel
theorem dX1_sendNew_87 : decode cX1_sendNew 87 = .ok (.iconst 0, 1) := by decide +kernel
theorem dX1_sendNew_88 : decode cX1_sendNew 88 = .ok (.invokevirtual 305, 3) := by decide +kernel
theorem dX1_sendNew_91 : decode cX1_sendNew 91 = .ok (.iconst 1, 1) := by decide +kernel
theorem dX1_sendNew_92 : decode cX1_sendNew 92 = .ok (.ireturn, 1) := by decide +kernel
theorem dX1_sendNew_93 : decode cX1_sendNew 93 = .ok (.iinc 3 1, 3) := by decide +kernel
theorem dX1_sendNew_96 : decode cX1_sendNew 96 = .ok (.goto (-64), 3) := by decide +kernel
theorem dX1_sendNew_99 : decode cX1_sendNew 99 = .ok (.iconst 0, 1) := by decide +kernel
theorem dX1_sendNew_100 : decode cX1_sendNew 100 = .ok (.ireturn, 1) := by decide +kernel
theorem dX1_sendPacket_0 : decode cX1_sendPacket 0 = .ok (.aload_n 0, 1) := by decide +kernel
theorem dX1_sendPacket_1 : decode cX1_sendPacket 1 = .ok (.getfield 53, 3) := by decide +kernel
theorem dX1_sendPacket_4 : decode cX1_sendPacket 4 = .ok (.sipush 400, 3) := by decide +kernel
theorem dX1_sendPacket_7 : decode cX1_sendPacket 7 = .ok (.if_icmp .ge 12, 3) := by decide +kernel
theorem dX1_sendPacket_10 : decode cX1_sendPacket 10 = .ok (.iload_n 2, 1) := by decide +kernel
theorem dX1_sendPacket_11 : decode cX1_sendPacket 11 = .ok (.ifCond .lt 8, 3) := by decide +kernel
theorem dX1_sendPacket_14 : decode cX1_sendPacket 14 = .ok (.iload_n 2, 1) := by decide +kernel
theorem dX1_sendPacket_15 : decode cX1_sendPacket 15 = .ok (.iconst 4, 1) := by decide +kernel
theorem dX1_sendPacket_16 : decode cX1_sendPacket 16 = .ok (.if_icmp .lt 4, 3) := by decide +kernel
theorem dX1_sendPacket_19 : decode cX1_sendPacket 19 = .ok (.return_, 1) := by decide +kernel
theorem dX1_sendPacket_20 : decode cX1_sendPacket 20 = .ok (.new 23, 3) := by decide +kernel
theorem dX1_sendPacket_23 : decode cX1_sendPacket 23 = .ok (.dup, 1) := by decide +kernel
theorem dX1_sendPacket_24 : decode cX1_sendPacket 24 = .ok (.aload_n 0, 1) := by decide +kernel
theorem dX1_sendPacket_25 : decode cX1_sendPacket 25 = .ok (.getfield 53, 3) := by decide +kernel
theorem dX1_sendPacket_28 : decode cX1_sendPacket 28 = .ok (.aload_n 1, 1) := by decide +kernel
theorem dX1_sendPacket_29 : decode cX1_sendPacket 29 = .ok (.getfield 293, 3) := by decide +kernel
theorem dX1_sendPacket_32 : decode cX1_sendPacket 32 = .ok (.aload_n 0, 1) := by decide +kernel
theorem dX1_sendPacket_33 : decode cX1_sendPacket 33 = .ok (.getfield 45, 3) := by decide +kernel
theorem dX1_sendPacket_36 : decode cX1_sendPacket 36 = .ok (.getfield 62, 3) := by decide +kernel
theorem dX1_sendPacket_39 : decode cX1_sendPacket 39 = .ok (.iload_n 2, 1) := by decide +kernel
theorem dX1_sendPacket_40 : decode cX1_sendPacket 40 = .ok (.iload_n 3, 1) := by decide +kernel
theorem dX1_sendPacket_41 : decode cX1_sendPacket 41 = .ok (.iload 4, 2) := by decide +kernel
theorem dX1_sendPacket_43 : decode cX1_sendPacket 43 = .ok (.invokespecial 341, 3) := by decide +kernel
theorem dX1_sendPacket_46 : decode cX1_sendPacket 46 = .ok (.astore 6, 2) := by decide +kernel
theorem dX1_sendPacket_48 : decode cX1_sendPacket 48 = .ok (.aload 6, 2) := by decide +kernel
theorem dX1_sendPacket_50 : decode cX1_sendPacket 50 = .ok (.aload_n 0, 1) := by decide +kernel
theorem dX1_sendPacket_51 : decode cX1_sendPacket 51 = .ok (.getfield 90, 3) := by decide +kernel
theorem dX1_sendPacket_54 : decode cX1_sendPacket 54 = .ok (.putfield 87, 3) := by decide +kernel
theorem dX1_sendPacket_57 : decode cX1_sendPacket 57 = .ok (.aload 6, 2) := by decide +kernel
theorem dX1_sendPacket_59 : decode cX1_sendPacket 59 = .ok (.iload 5, 2) := by decide +kernel
theorem dX1_sendPacket_61 : decode cX1_sendPacket 61 = .ok (.putfield 344, 3) := by decide +kernel
theorem dX1_sendPacket_64 : decode cX1_sendPacket 64 = .ok (.aload 6, 2) := by decide +kernel
theorem dX1_sendPacket_66 : decode cX1_sendPacket 66 = .ok (.aload_n 0, 1) := by decide +kernel
theorem dX1_sendPacket_67 : decode cX1_sendPacket 67 = .ok (.getfield 29, 3) := by decide +kernel
theorem dX1_sendPacket_70 : decode cX1_sendPacket 70 = .ok (.iconst 1, 1) := by decide +kernel
theorem dX1_sendPacket_71 : decode cX1_sendPacket 71 = .ok (.if_icmp .ne 7, 3) := by decide +kernel
theorem dX1_sendPacket_74 : decode cX1_sendPacket 74 = .ok (.iconst 1, 1) := by decide +kernel
theorem dX1_sendPacket_75 : decode cX1_sendPacket 75 = .ok (.goto 4, 3) := by decide +kernel
theorem dX1_sendPacket_78 : decode cX1_sendPacket 78 = .ok (.iconst 0, 1) := by decide +kernel
theorem dX1_sendPacket_79 : decode cX1_sendPacket 79 = .ok (.putfield 155, 3) := by decide +kernel
theorem dX1_sendPacket_82 : decode cX1_sendPacket 82 = .ok (.aload 6, 2) := by decide +kernel
theorem dX1_sendPacket_84 : decode cX1_sendPacket 84 = .ok (.aload_n 1, 1) := by decide +kernel
theorem dX1_sendPacket_85 : decode cX1_sendPacket 85 = .ok (.getfield 347, 3) := by decide +kernel
theorem dX1_sendPacket_88 : decode cX1_sendPacket 88 = .ok (.putfield 260, 3) := by decide +kernel
theorem dX1_sendPacket_91 : decode cX1_sendPacket 91 = .ok (.aload 6, 2) := by decide +kernel
theorem dX1_sendPacket_93 : decode cX1_sendPacket 93 = .ok (.aload_n 1, 1) := by decide +kernel
theorem dX1_sendPacket_94 : decode cX1_sendPacket 94 = .ok (.getfield 245, 3) := by decide +kernel
theorem dX1_sendPacket_97 : decode cX1_sendPacket 97 = .ok (.putfield 248, 3) := by decide +kernel
theorem dX1_sendPacket_100 : decode cX1_sendPacket 100 = .ok (.aload_n 0, 1) := by decide +kernel
theorem dX1_sendPacket_101 : decode cX1_sendPacket 101 = .ok (.getfield 25, 3) := by decide +kernel
theorem dX1_sendPacket_104 : decode cX1_sendPacket 104 = .ok (.aload_n 0, 1) := by decide +kernel
theorem dX1_sendPacket_105 : decode cX1_sendPacket 105 = .ok (.getfield 53, 3) := by decide +kernel
theorem dX1_sendPacket_108 : decode cX1_sendPacket 108 = .ok (.aload 6, 2) := by decide +kernel
theorem dX1_sendPacket_110 : decode cX1_sendPacket 110 = .ok (.aastore, 1) := by decide +kernel
theorem dX1_sendPacket_111 : decode cX1_sendPacket 111 = .ok (.aload_n 0, 1) := by decide +kernel
theorem dX1_sendPacket_112 : decode cX1_sendPacket 112 = .ok (.dup, 1) := by decide +kernel
theorem dX1_sendPacket_113 : decode cX1_sendPacket 113 = .ok (.getfield 53, 3) := by decide +kernel
theorem dX1_sendPacket_116 : decode cX1_sendPacket 116 = .ok (.iconst 1, 1) := by decide +kernel
theorem dX1_sendPacket_117 : decode cX1_sendPacket 117 = .ok (.iadd, 1) := by decide +kernel
theorem dX1_sendPacket_118 : decode cX1_sendPacket 118 = .ok (.putfield 53, 3) := by decide +kernel
theorem dX1_sendPacket_121 : decode cX1_sendPacket 121 = .ok (.aload_n 1, 1) := by decide +kernel
theorem dX1_sendPacket_122 : decode cX1_sendPacket 122 = .ok (.dup, 1) := by decide +kernel
theorem dX1_sendPacket_123 : decode cX1_sendPacket 123 = .ok (.getfield 347, 3) := by decide +kernel
theorem dX1_sendPacket_126 : decode cX1_sendPacket 126 = .ok (.iconst 1, 1) := by decide +kernel
theorem dX1_sendPacket_127 : decode cX1_sendPacket 127 = .ok (.iadd, 1) := by decide +kernel
theorem dX1_sendPacket_128 : decode cX1_sendPacket 128 = .ok (.putfield 347, 3) := by decide +kernel
theorem dX1_sendPacket_131 : decode cX1_sendPacket 131 = .ok (.aload_n 1, 1) := by decide +kernel
theorem dX1_sendPacket_132 : decode cX1_sendPacket 132 = .ok (.dup, 1) := by decide +kernel
theorem dX1_sendPacket_133 : decode cX1_sendPacket 133 = .ok (.getfield 163, 3) := by decide +kernel
theorem dX1_sendPacket_136 : decode cX1_sendPacket 136 = .ok (.iconst 1, 1) := by decide +kernel
theorem dX1_sendPacket_137 : decode cX1_sendPacket 137 = .ok (.iadd, 1) := by decide +kernel
theorem dX1_sendPacket_138 : decode cX1_sendPacket 138 = .ok (.putfield 163, 3) := by decide +kernel
theorem dX1_sendPacket_141 : decode cX1_sendPacket 141 = .ok (.aload_n 1, 1) := by decide +kernel
theorem dX1_sendPacket_142 : decode cX1_sendPacket 142 = .ok (.aload_n 0, 1) := by decide +kernel
theorem dX1_sendPacket_143 : decode cX1_sendPacket 143 = .ok (.getfield 45, 3) := by decide +kernel
theorem dX1_sendPacket_146 : decode cX1_sendPacket 146 = .ok (.getfield 62, 3) := by decide +kernel
theorem dX1_sendPacket_149 : decode cX1_sendPacket 149 = .ok (.putfield 350, 3) := by decide +kernel
theorem dX1_sendPacket_152 : decode cX1_sendPacket 152 = .ok (.aload_n 0, 1) := by decide +kernel
theorem dX1_sendPacket_153 : decode cX1_sendPacket 153 = .ok (.getfield 49, 3) := by decide +kernel
theorem dX1_sendPacket_156 : decode cX1_sendPacket 156 = .ok (.iload_n 2, 1) := by decide +kernel
theorem dX1_sendPacket_157 : decode cX1_sendPacket 157 = .ok (.aaload, 1) := by decide +kernel
theorem dX1_sendPacket_158 : decode cX1_sendPacket 158 = .ok (.iload_n 3, 1) := by decide +kernel
theorem dX1_sendPacket_159 : decode cX1_sendPacket 159 = .ok (.iload 4, 2) := by decide +kernel
theorem dX1_sendPacket_161 : decode cX1_sendPacket 161 = .ok (.invokevirtual 353, 3) := by decide +kernel
theorem dX1_sendPacket_164 : decode cX1_sendPacket 164 = .ok (.new 70, 3) := by decide +kernel
theorem dX1_sendPacket_167 : decode cX1_sendPacket 167 = .ok (.dup, 1) := by decide +kernel
theorem dX1_sendPacket_168 : decode cX1_sendPacket 168 = .ok (.iconst 3, 1) := by decide +kernel
theorem dX1_sendPacket_169 : decode cX1_sendPacket 169 = .ok (.invokespecial 72, 3) := by decide +kernel
theorem dX1_sendPacket_172 : decode cX1_sendPacket 172 = .ok (.astore 7, 2) := by decide +kernel
theorem dX1_sendPacket_174 : decode cX1_sendPacket 174 = .ok (.aload 7, 2) := by decide +kernel
theorem dX1_sendPacket_176 : decode cX1_sendPacket 176 = .ok (.aload 6, 2) := by decide +kernel
theorem dX1_sendPacket_178 : decode cX1_sendPacket 178 = .ok (.putfield 356, 3) := by decide +kernel
theorem dX1_sendPacket_181 : decode cX1_sendPacket 181 = .ok (.aload_n 0, 1) := by decide +kernel
theorem dX1_sendPacket_182 : decode cX1_sendPacket 182 = .ok (.getfield 45, 3) := by decide +kernel
theorem dX1_sendPacket_185 : decode cX1_sendPacket 185 = .ok (.aload_n 1, 1) := by decide +kernel
theorem dX1_sendPacket_186 : decode cX1_sendPacket 186 = .ok (.getfield 293, 3) := by decide +kernel
theorem dX1_sendPacket_189 : decode cX1_sendPacket 189 = .ok (.aload 7, 2) := by decide +kernel
theorem dX1_sendPacket_191 : decode cX1_sendPacket 191 = .ok (.invokevirtual 79, 3) := by decide +kernel
theorem dX1_sendPacket_194 : decode cX1_sendPacket 194 = .ok (.return_, 1) := by decide +kernel
theorem dX2_init_0 : decode cX2_init 0 = .ok (.aload_n 0, 1) := by decide +kernel
theorem dX2_init_1 : decode cX2_init 1 = .ok (.invokespecial 3, 3) := by decide +kernel
theorem dX2_init_4 : decode cX2_init 4 = .ok (.aload_n 0, 1) := by decide +kernel
theorem dX2_init_5 : decode cX2_init 5 = .ok (.iconst 0, 1) := by decide +kernel
theorem dX2_init_6 : decode cX2_init 6 = .ok (.putfield 9, 3) := by decide +kernel
theorem dX2_init_9 : decode cX2_init 9 = .ok (.aload_n 0, 1) := by decide +kernel
theorem dX2_init_10 : decode cX2_init 10 = .ok (.sipush 160, 3) := by decide +kernel
theorem dX2_init_13 : decode cX2_init 13 = .ok (.putfield 15, 3) := by decide +kernel
theorem dX2_init_16 : decode cX2_init 16 = .ok (.aload_n 0, 1) := by decide +kernel
theorem dX2_init_17 : decode cX2_init 17 = .ok (.ldc 18, 2) := by decide +kernel
theorem dX2_init_19 : decode cX2_init 19 = .ok (.putfield 19, 3) := by decide +kernel
theorem dX2_init_22 : decode cX2_init 22 = .ok (.aload_n 0, 1) := by decide +kernel
theorem dX2_init_23 : decode cX2_init 23 = .ok (.sipush 160, 3) := by decide +kernel
theorem dX2_init_26 : decode cX2_init 26 = .ok (.putfield 22, 3) := by decide +kernel
theorem dX2_init_29 : decode cX2_init 29 = .ok (.aload_n 0, 1) := by decide +kernel
theorem dX2_init_30 : decode cX2_init 30 = .ok (.ldc 18, 2) := by decide +kernel
theorem dX2_init_32 : decode cX2_init 32 = .ok (.putfield 25, 3) := by decide +kernel
theorem dX2_init_35 : decode cX2_init 35 = .ok (.aload_n 0, 1) := by decide +kernel
theorem dX2_init_36 : decode cX2_init 36 = .ok (.iconst (-1), 1) := by decide +kernel
theorem dX2_init_37 : decode cX2_init 37 = .ok (.putfield 28, 3) := by decide +kernel
theorem dX2_init_40 : decode cX2_init 40 = .ok (.aload_n 0, 1) := by decide +kernel
theorem dX2_init_41 : decode cX2_init 41 = .ok (.bipush 8, 2) := by decide +kernel
theorem dX2_init_43 : decode cX2_init 43 = .ok (.newarray .int, 2) := by decide +kernel
theorem dX2_init_45 : decode cX2_init 45 = .ok (.putfield 31, 3) := by decide +kernel
theorem dX2_init_48 : decode cX2_init 48 = .ok (.return_, 1) := by decide +kernel
theorem dX2_grow_0 : decode cX2_grow 0 = .ok (.aload_n 0, 1) := by decide +kernel
theorem dX2_grow_1 : decode cX2_grow 1 = .ok (.getfield 9, 3) := by decide +kernel
theorem dX2_grow_4 : decode cX2_grow 4 = .ok (.iconst 2, 1) := by decide +kernel
theorem dX2_grow_5 : decode cX2_grow 5 = .ok (.if_icmp .ne 38, 3) := by decide +kernel
theorem dX2_grow_8 : decode cX2_grow 8 = .ok (.aload_n 0, 1) := by decide +kernel
theorem dX2_grow_9 : decode cX2_grow 9 = .ok (.bipush 16, 2) := by decide +kernel
theorem dX2_grow_11 : decode cX2_grow 11 = .ok (.iload_n 2, 1) := by decide +kernel
theorem dX2_grow_12 : decode cX2_grow 12 = .ok (.imul, 1) := by decide +kernel
theorem dX2_grow_13 : decode cX2_grow 13 = .ok (.iconst 1, 1) := by decide +kernel
theorem dX2_grow_14 : decode cX2_grow 14 = .ok (.iload_n 3, 1) := by decide +kernel
theorem dX2_grow_15 : decode cX2_grow 15 = .ok (.invokestatic 35, 3) := by decide +kernel
theorem dX2_grow_18 : decode cX2_grow 18 = .ok (.idiv, 1) := by decide +kernel
theorem dX2_grow_19 : decode cX2_grow 19 = .ok (.invokevirtual 41, 3) := by decide +kernel
theorem dX2_grow_22 : decode cX2_grow 22 = .ok (.aload_n 0, 1) := by decide +kernel
theorem dX2_grow_23 : decode cX2_grow 23 = .ok (.bipush 64, 2) := by decide +kernel
theorem dX2_grow_25 : decode cX2_grow 25 = .ok (.iconst 2, 1) := by decide +kernel
theorem dX2_grow_26 : decode cX2_grow 26 = .ok (.aload_n 0, 1) := by decide +kernel
theorem dX2_grow_27 : decode cX2_grow 27 = .ok (.invokevirtual 45, 3) := by decide +kernel
theorem dX2_grow_30 : decode cX2_grow 30 = .ok (.imul, 1) := by decide +kernel
theorem dX2_grow_31 : decode cX2_grow 31 = .ok (.iload 4, 2) := by decide +kernel
theorem dX2_grow_33 : decode cX2_grow 33 = .ok (.imul, 1) := by decide +kernel
theorem dX2_grow_34 : decode cX2_grow 34 = .ok (.invokestatic 35, 3) := by decide +kernel
theorem dX2_grow_37 : decode cX2_grow 37 = .ok (.putfield 15, 3) := by decide +kernel
theorem dX2_grow_40 : decode cX2_grow 40 = .ok (.goto 77, 3) := by decide +kernel
theorem dX2_grow_43 : decode cX2_grow 43 = .ok (.aload_n 0, 1) := by decide +kernel
theorem dX2_grow_44 : decode cX2_grow 44 = .ok (.getfield 15, 3) := by decide +kernel
theorem dX2_grow_47 : decode cX2_grow 47 = .ok (.aload_n 0, 1) := by decide +kernel
theorem dX2_grow_48 : decode cX2_grow 48 = .ok (.getfield 19, 3) := by decide +kernel
theorem dX2_grow_51 : decode cX2_grow 51 = .ok (.if_icmp .ge 17, 3) := by decide +kernel
theorem dX2_grow_54 : decode cX2_grow 54 = .ok (.aload_n 0, 1) := by decide +kernel
theorem dX2_grow_55 : decode cX2_grow 55 = .ok (.dup, 1) := by decide +kernel
theorem dX2_grow_56 : decode cX2_grow 56 = .ok (.getfield 15, 3) := by decide +kernel
theorem dX2_grow_59 : decode cX2_grow 59 = .ok (.bipush 16, 2) := by decide +kernel
theorem dX2_grow_61 : decode cX2_grow 61 = .ok (.iadd, 1) := by decide +kernel
theorem dX2_grow_62 : decode cX2_grow 62 = .ok (.putfield 15, 3) := by decide +kernel
theorem dX2_grow_65 : decode cX2_grow 65 = .ok (.goto 52, 3) := by decide +kernel
theorem dX2_grow_68 : decode cX2_grow 68 = .ok (.aload_n 0, 1) := by decide +kernel
theorem dX2_grow_69 : decode cX2_grow 69 = .ok (.getfield 9, 3) := by decide +kernel
theorem dX2_grow_72 : decode cX2_grow 72 = .ok (.ifCond .ne 31, 3) := by decide +kernel
theorem dX2_grow_75 : decode cX2_grow 75 = .ok (.aload_n 0, 1) := by decide +kernel
theorem dX2_grow_76 : decode cX2_grow 76 = .ok (.dup, 1) := by decide +kernel
theorem dX2_grow_77 : decode cX2_grow 77 = .ok (.getfield 15, 3) := by decide +kernel
theorem dX2_grow_80 : decode cX2_grow 80 = .ok (.iconst 1, 1) := by decide +kernel
theorem dX2_grow_81 : decode cX2_grow 81 = .ok (.sipush 256, 3) := by decide +kernel
theorem dX2_grow_84 : decode cX2_grow 84 = .ok (.iconst 1, 1) := by decide +kernel
theorem dX2_grow_85 : decode cX2_grow 85 = .ok (.aload_n 0, 1) := by decide +kernel
theorem dX2_grow_86 : decode cX2_grow 86 = .ok (.getfield 15, 3) := by decide +kernel
theorem dX2_grow_89 : decode cX2_grow 89 = .ok (.invokestatic 35, 3) := by decide +kernel
theorem dX2_grow_92 : decode cX2_grow 92 = .ok (.idiv, 1) := by decide +kernel
theorem dX2_grow_93 : decode cX2_grow 93 = .ok (.invokestatic 35, 3) := by decide +kernel
theorem dX2_grow_96 : decode cX2_grow 96 = .ok (.iadd, 1) := by decide +kernel
theorem dX2_grow_97 : decode cX2_grow 97 = .ok (.putfield 15, 3) := by decide +kernel
theorem dX2_grow_100 : decode cX2_grow 100 = .ok (.goto 17, 3) := by decide +kernel
theorem dX2_grow_103 : decode cX2_grow 103 = .ok (.aload_n 0, 1) := by decide +kernel
theorem dX2_grow_104 : decode cX2_grow 104 = .ok (.dup, 1) := by decide +kernel
theorem dX2_grow_105 : decode cX2_grow 105 = .ok (.getfield 15, 3) := by decide +kernel
theorem dX2_grow_108 : decode cX2_grow 108 = .ok (.aload_n 0, 1) := by decide +kernel
theorem dX2_grow_109 : decode cX2_grow 109 = .ok (.iload_n 1, 1) := by decide +kernel
theorem dX2_grow_110 : decode cX2_grow 110 = .ok (.invokevirtual 49, 3) := by decide +kernel
theorem dX2_grow_113 : decode cX2_grow 113 = .ok (.iadd, 1) := by decide +kernel
theorem dX2_grow_114 : decode cX2_grow 114 = .ok (.putfield 15, 3) := by decide +kernel
theorem dX2_grow_117 : decode cX2_grow 117 = .ok (.return_, 1) := by decide +kernel
theorem dX2_cubeStep_0 : decode cX2_cubeStep 0 = .ok (.ldc2_w 53, 3) := by decide +kernel
theorem dX2_cubeStep_3 : decode cX2_cubeStep 3 = .ok (.aload_n 0, 1) := by decide +kernel
theorem dX2_cubeStep_4 : decode cX2_cubeStep 4 = .ok (.getfield 22, 3) := by decide +kernel
theorem dX2_cubeStep_7 : decode cX2_cubeStep 7 = .ok (.i2l, 1) := by decide +kernel
theorem dX2_cubeStep_8 : decode cX2_cubeStep 8 = .ok (.lmul, 1) := by decide +kernel
theorem dX2_cubeStep_9 : decode cX2_cubeStep 9 = .ok (.ldc2_w 55, 3) := by decide +kernel
theorem dX2_cubeStep_12 : decode cX2_cubeStep 12 = .ok (.ldiv, 1) := by decide +kernel
theorem dX2_cubeStep_13 : decode cX2_cubeStep 13 = .ok (.lstore_n 2, 1) := by decide +kernel
theorem dX2_cubeStep_14 : decode cX2_cubeStep 14 = .ok (.lconst 0, 1) := by decide +kernel
theorem dX2_cubeStep_15 : decode cX2_cubeStep 15 = .ok (.lstore 4, 2) := by decide +kernel
theorem dX2_cubeStep_17 : decode cX2_cubeStep 17 = .ok (.lload 4, 2) := by decide +kernel
theorem dX2_cubeStep_19 : decode cX2_cubeStep 19 = .ok (.ldc2_w 57, 3) := by decide +kernel
theorem dX2_cubeStep_22 : decode cX2_cubeStep 22 = .ok (.lcmp, 1) := by decide +kernel
theorem dX2_cubeStep_23 : decode cX2_cubeStep 23 = .ok (.ifCond .ge 33, 3) := by decide +kernel
theorem dX2_cubeStep_26 : decode cX2_cubeStep 26 = .ok (.ldc2_w 59, 3) := by decide +kernel
theorem dX2_cubeStep_29 : decode cX2_cubeStep 29 = .ok (.lload 4, 2) := by decide +kernel
theorem dX2_cubeStep_31 : decode cX2_cubeStep 31 = .ok (.lmul, 1) := by decide +kernel
theorem dX2_cubeStep_32 : decode cX2_cubeStep 32 = .ok (.lload 4, 2) := by decide +kernel
theorem dX2_cubeStep_34 : decode cX2_cubeStep 34 = .ok (.lmul, 1) := by decide +kernel
theorem dX2_cubeStep_35 : decode cX2_cubeStep 35 = .ok (.lload 4, 2) := by decide +kernel
theorem dX2_cubeStep_37 : decode cX2_cubeStep 37 = .ok (.lmul, 1) := by decide +kernel
theorem dX2_cubeStep_38 : decode cX2_cubeStep 38 = .ok (.ldc2_w 61, 3) := by decide +kernel
theorem dX2_cubeStep_41 : decode cX2_cubeStep 41 = .ok (.ldiv, 1) := by decide +kernel
theorem dX2_cubeStep_42 : decode cX2_cubeStep 42 = .ok (.lload_n 2, 1) := by decide +kernel
theorem dX2_cubeStep_43 : decode cX2_cubeStep 43 = .ok (.lcmp, 1) := by decide +kernel
theorem dX2_cubeStep_44 : decode cX2_cubeStep 44 = .ok (.ifCond .ge 12, 3) := by decide +kernel
theorem dX2_cubeStep_47 : decode cX2_cubeStep 47 = .ok (.lload 4, 2) := by decide +kernel
theorem dX2_cubeStep_49 : decode cX2_cubeStep 49 = .ok (.lconst 1, 1) := by decide +kernel
theorem dX2_cubeStep_50 : decode cX2_cubeStep 50 = .ok (.ladd, 1) := by decide +kernel
theorem dX2_cubeStep_51 : decode cX2_cubeStep 51 = .ok (.lstore 4, 2) := by decide +kernel
theorem dX2_cubeStep_53 : decode cX2_cubeStep 53 = .ok (.goto (-36), 3) := by decide +kernel
theorem dX2_cubeStep_56 : decode cX2_cubeStep 56 = .ok (.iload_n 1, 1) := by decide +kernel
theorem dX2_cubeStep_57 : decode cX2_cubeStep 57 = .ok (.aload_n 0, 1) := by decide +kernel
theorem dX2_cubeStep_58 : decode cX2_cubeStep 58 = .ok (.getfield 63, 3) := by decide +kernel
theorem dX2_cubeStep_61 : decode cX2_cubeStep 61 = .ok (.isub, 1) := by decide +kernel
theorem dX2_cubeStep_62 : decode cX2_cubeStep 62 = .ok (.i2l, 1) := by decide +kernel
theorem dX2_cubeStep_63 : decode cX2_cubeStep 63 = .ok (.lload 4, 2) := by decide +kernel
theorem dX2_cubeStep_65 : decode cX2_cubeStep 65 = .ok (.lsub, 1) := by decide +kernel
theorem dX2_cubeStep_66 : decode cX2_cubeStep 66 = .ok (.lstore 6, 2) := by decide +kernel
theorem dX2_cubeStep_68 : decode cX2_cubeStep 68 = .ok (.aload_n 0, 1) := by decide +kernel
theorem dX2_cubeStep_69 : decode cX2_cubeStep 69 = .ok (.getfield 22, 3) := by decide +kernel
theorem dX2_cubeStep_72 : decode cX2_cubeStep 72 = .ok (.i2l, 1) := by decide +kernel
theorem dX2_cubeStep_73 : decode cX2_cubeStep 73 = .ok (.ldc2_w 59, 3) := by decide +kernel
theorem dX2_cubeStep_76 : decode cX2_cubeStep 76 = .ok (.lload 6, 2) := by decide +kernel
theorem dX2_cubeStep_78 : decode cX2_cubeStep 78 = .ok (.lmul, 1) := by decide +kernel
theorem dX2_cubeStep_79 : decode cX2_cubeStep 79 = .ok (.lload 6, 2) := by decide +kernel
theorem dX2_cubeStep_81 : decode cX2_cubeStep 81 = .ok (.lmul, 1) := by decide +kernel
theorem dX2_cubeStep_82 : decode cX2_cubeStep 82 = .ok (.lload 6, 2) := by decide +kernel
theorem dX2_cubeStep_84 : decode cX2_cubeStep 84 = .ok (.lmul, 1) := by decide +kernel
theorem dX2_cubeStep_85 : decode cX2_cubeStep 85 = .ok (.ldc2_w 61, 3) := by decide +kernel
theorem dX2_cubeStep_88 : decode cX2_cubeStep 88 = .ok (.ldiv, 1) := by decide +kernel
theorem dX2_cubeStep_89 : decode cX2_cubeStep 89 = .ok (.ladd, 1) := by decide +kernel
theorem dX2_cubeStep_90 : decode cX2_cubeStep 90 = .ok (.lstore 8, 2) := by decide +kernel
theorem dX2_cubeStep_92 : decode cX2_cubeStep 92 = .ok (.lconst 1, 1) := by decide +kernel
theorem dX2_cubeStep_93 : decode cX2_cubeStep 93 = .ok (.ldc2_w 66, 3) := by decide +kernel
theorem dX2_cubeStep_96 : decode cX2_cubeStep 96 = .ok (.lload 8, 2) := by decide +kernel
theorem dX2_cubeStep_98 : decode cX2_cubeStep 98 = .ok (.aload_n 0, 1) := by decide +kernel
theorem dX2_cubeStep_99 : decode cX2_cubeStep 99 = .ok (.getfield 15, 3) := by decide +kernel
theorem dX2_cubeStep_102 : decode cX2_cubeStep 102 = .ok (.i2l, 1) := by decide +kernel
theorem dX2_cubeStep_103 : decode cX2_cubeStep 103 = .ok (.lsub, 1) := by decide +kernel
theorem dX2_cubeStep_104 : decode cX2_cubeStep 104 = .ok (.lmul, 1) := by decide +kernel
theorem dX2_cubeStep_105 : decode cX2_cubeStep 105 = .ok (.iconst 1, 1) := by decide +kernel
theorem dX2_cubeStep_106 : decode cX2_cubeStep 106 = .ok (.aload_n 0, 1) := by decide +kernel
theorem dX2_cubeStep_107 : decode cX2_cubeStep 107 = .ok (.getfield 15, 3) := by decide +kernel
theorem dX2_cubeStep_110 : decode cX2_cubeStep 110 = .ok (.invokestatic 35, 3) := by decide +kernel
theorem dX2_cubeStep_113 : decode cX2_cubeStep 113 = .ok (.i2l, 1) := by decide +kernel
theorem dX2_cubeStep_114 : decode cX2_cubeStep 114 = .ok (.ldiv, 1) := by decide +kernel
theorem dX2_cubeStep_115 : decode cX2_cubeStep 115 = .ok (.invokestatic 68, 3) := by decide +kernel
theorem dX2_cubeStep_118 : decode cX2_cubeStep 118 = .ok (.l2i, 1) := by decide +kernel
theorem dX2_cubeStep_119 : decode cX2_cubeStep 119 = .ok (.ireturn, 1) := by decide +kernel
theorem dX2_keepRate_0 : decode cX2_keepRate 0 = .ok (.aload_n 0, 1) := by decide +kernel
theorem dX2_keepRate_1 : decode cX2_keepRate 1 = .ok (.getfield 31, 3) := by decide +kernel
theorem dX2_keepRate_4 : decode cX2_keepRate 4 = .ok (.aload_n 0, 1) := by decide +kernel
theorem dX2_keepRate_5 : decode cX2_keepRate 5 = .ok (.getfield 71, 3) := by decide +kernel
theorem dX2_keepRate_8 : decode cX2_keepRate 8 = .ok (.iload_n 1, 1) := by decide +kernel
theorem dX2_keepRate_9 : decode cX2_keepRate 9 = .ok (.iastore, 1) := by decide +kernel
theorem dX2_keepRate_10 : decode cX2_keepRate 10 = .ok (.aload_n 0, 1) := by decide +kernel
theorem dX2_keepRate_11 : decode cX2_keepRate 11 = .ok (.aload_n 0, 1) := by decide +kernel
theorem dX2_keepRate_12 : decode cX2_keepRate 12 = .ok (.getfield 71, 3) := by decide +kernel
theorem dX2_keepRate_15 : decode cX2_keepRate 15 = .ok (.iconst 1, 1) := by decide +kernel
theorem dX2_keepRate_16 : decode cX2_keepRate 16 = .ok (.iadd, 1) := by decide +kernel
theorem dX2_keepRate_17 : decode cX2_keepRate 17 = .ok (.bipush 8, 2) := by decide +kernel
theorem dX2_keepRate_19 : decode cX2_keepRate 19 = .ok (.irem, 1) := by decide +kernel
theorem dX2_keepRate_20 : decode cX2_keepRate 20 = .ok (.putfield 71, 3) := by decide +kernel
theorem dX2_keepRate_23 : decode cX2_keepRate 23 = .ok (.return_, 1) := by decide +kernel
theorem dX2_greatestRate_0 : decode cX2_greatestRate 0 = .ok (.iconst 0, 1) := by decide +kernel
theorem dX2_greatestRate_1 : decode cX2_greatestRate 1 = .ok (.istore_n 1, 1) := by decide +kernel
theorem dX2_greatestRate_2 : decode cX2_greatestRate 2 = .ok (.aload_n 0, 1) := by decide +kernel
theorem dX2_greatestRate_3 : decode cX2_greatestRate 3 = .ok (.getfield 31, 3) := by decide +kernel
theorem dX2_greatestRate_6 : decode cX2_greatestRate 6 = .ok (.astore_n 2, 1) := by decide +kernel
theorem dX2_greatestRate_7 : decode cX2_greatestRate 7 = .ok (.aload_n 2, 1) := by decide +kernel
theorem dX2_greatestRate_8 : decode cX2_greatestRate 8 = .ok (.arraylength, 1) := by decide +kernel
theorem dX2_greatestRate_9 : decode cX2_greatestRate 9 = .ok (.istore_n 3, 1) := by decide +kernel
theorem dX2_greatestRate_10 : decode cX2_greatestRate 10 = .ok (.iconst 0, 1) := by decide +kernel
theorem dX2_greatestRate_11 : decode cX2_greatestRate 11 = .ok (.istore 4, 2) := by decide +kernel
theorem dX2_greatestRate_13 : decode cX2_greatestRate 13 = .ok (.iload 4, 2) := by decide +kernel
theorem dX2_greatestRate_15 : decode cX2_greatestRate 15 = .ok (.iload_n 3, 1) := by decide +kernel
theorem dX2_greatestRate_16 : decode cX2_greatestRate 16 = .ok (.if_icmp .ge 22, 3) := by decide +kernel
theorem dX2_greatestRate_19 : decode cX2_greatestRate 19 = .ok (.aload_n 2, 1) := by decide +kernel
theorem dX2_greatestRate_20 : decode cX2_greatestRate 20 = .ok (.iload 4, 2) := by decide +kernel
theorem dX2_greatestRate_22 : decode cX2_greatestRate 22 = .ok (.iaload, 1) := by decide +kernel
theorem dX2_greatestRate_23 : decode cX2_greatestRate 23 = .ok (.istore 5, 2) := by decide +kernel
theorem dX2_greatestRate_25 : decode cX2_greatestRate 25 = .ok (.iload_n 1, 1) := by decide +kernel
theorem dX2_greatestRate_26 : decode cX2_greatestRate 26 = .ok (.iload 5, 2) := by decide +kernel
theorem dX2_greatestRate_28 : decode cX2_greatestRate 28 = .ok (.invokestatic 35, 3) := by decide +kernel
theorem dX2_greatestRate_31 : decode cX2_greatestRate 31 = .ok (.istore_n 1, 1) := by decide +kernel
theorem dX2_greatestRate_32 : decode cX2_greatestRate 32 = .ok (.iinc 4 1, 3) := by decide +kernel
theorem dX2_greatestRate_35 : decode cX2_greatestRate 35 = .ok (.goto (-22), 3) := by decide +kernel
theorem dX2_greatestRate_38 : decode cX2_greatestRate 38 = .ok (.iload_n 1, 1) := by decide +kernel
theorem dX2_greatestRate_39 : decode cX2_greatestRate 39 = .ok (.ireturn, 1) := by decide +kernel
theorem dX2_harm_0 : decode cX2_harm 0 = .ok (.iload_n 1, 1) := by decide +kernel
theorem dX2_harm_1 : decode cX2_harm 1 = .ok (.aload_n 0, 1) := by decide +kernel
theorem dX2_harm_2 : decode cX2_harm 2 = .ok (.getfield 74, 3) := by decide +kernel
theorem dX2_harm_5 : decode cX2_harm 5 = .ok (.if_icmp .ge 4, 3) := by decide +kernel
theorem dX2_harm_8 : decode cX2_harm 8 = .ok (.return_, 1) := by decide +kernel
theorem dX2_harm_9 : decode cX2_harm 9 = .ok (.aload_n 0, 1) := by decide +kernel
theorem dX2_harm_10 : decode cX2_harm 10 = .ok (.dup, 1) := by decide +kernel
theorem dX2_harm_11 : decode cX2_harm 11 = .ok (.getfield 77, 3) := by decide +kernel
theorem dX2_harm_14 : decode cX2_harm 14 = .ok (.iconst 1, 1) := by decide +kernel
theorem dX2_harm_15 : decode cX2_harm 15 = .ok (.iadd, 1) := by decide +kernel
theorem dX2_harm_16 : decode cX2_harm 16 = .ok (.putfield 77, 3) := by decide +kernel
theorem dX2_harm_19 : decode cX2_harm 19 = .ok (.aload_n 0, 1) := by decide +kernel
theorem dX2_harm_20 : decode cX2_harm 20 = .ok (.aload_n 0, 1) := by decide +kernel
theorem dX2_harm_21 : decode cX2_harm 21 = .ok (.getfield 15, 3) := by decide +kernel
theorem dX2_harm_24 : decode cX2_harm 24 = .ok (.putfield 22, 3) := by decide +kernel
theorem dX2_harm_27 : decode cX2_harm 27 = .ok (.aload_n 0, 1) := by decide +kernel
theorem dX2_harm_28 : decode cX2_harm 28 = .ok (.aload_n 0, 1) := by decide +kernel
theorem dX2_harm_29 : decode cX2_harm 29 = .ok (.getfield 19, 3) := by decide +kernel
theorem dX2_harm_32 : decode cX2_harm 32 = .ok (.putfield 25, 3) := by decide +kernel
theorem dX2_harm_35 : decode cX2_harm 35 = .ok (.aload_n 0, 1) := by decide +kernel
theorem dX2_harm_36 : decode cX2_harm 36 = .ok (.iload 4, 2) := by decide +kernel
theorem dX2_harm_38 : decode cX2_harm 38 = .ok (.putfield 63, 3) := by decide +kernel
theorem dX2_harm_41 : decode cX2_harm 41 = .ok (.aload_n 0, 1) := by decide +kernel
theorem dX2_harm_42 : decode cX2_harm 42 = .ok (.iload_n 3, 1) := by decide +kernel
theorem dX2_harm_43 : decode cX2_harm 43 = .ok (.putfield 74, 3) := by decide +kernel
theorem dX2_harm_46 : decode cX2_harm 46 = .ok (.aload_n 0, 1) := by decide +kernel
theorem dX2_harm_47 : decode cX2_harm 47 = .ok (.iload_n 2, 1) := by decide +kernel
theorem dX2_harm_48 : decode cX2_harm 48 = .ok (.putfield 28, 3) := by decide +kernel
theorem dX2_harm_51 : decode cX2_harm 51 = .ok (.aload_n 0, 1) := by decide +kernel
theorem dX2_harm_52 : decode cX2_harm 52 = .ok (.getfield 9, 3) := by decide +kernel
theorem dX2_harm_55 : decode cX2_harm 55 = .ok (.iconst 2, 1) := by decide +kernel
theorem dX2_harm_56 : decode cX2_harm 56 = .ok (.if_icmp .eq 47, 3) := by decide +kernel
theorem dX2_harm_59 : decode cX2_harm 59 = .ok (.aload_n 0, 1) := by decide +kernel
theorem dX2_harm_60 : decode cX2_harm 60 = .ok (.bipush 32, 2) := by decide +kernel
theorem dX2_harm_62 : decode cX2_harm 62 = .ok (.aload_n 0, 1) := by decide +kernel
theorem dX2_harm_63 : decode cX2_harm 63 = .ok (.getfield 9, 3) := by decide +kernel
theorem dX2_harm_66 : decode cX2_harm 66 = .ok (.iconst 1, 1) := by decide +kernel
theorem dX2_harm_67 : decode cX2_harm 67 = .ok (.if_icmp .ne 16, 3) := by decide +kernel
theorem dX2_harm_70 : decode cX2_harm 70 = .ok (.aload_n 0, 1) := by decide +kernel
theorem dX2_harm_71 : decode cX2_harm 71 = .ok (.getfield 15, 3) := by decide +kernel
theorem dX2_harm_74 : decode cX2_harm 74 = .ok (.bipush 7, 2) := by decide +kernel
theorem dX2_harm_76 : decode cX2_harm 76 = .ok (.imul, 1) := by decide +kernel
theorem dX2_harm_77 : decode cX2_harm 77 = .ok (.bipush 10, 2) := by decide +kernel
theorem dX2_harm_79 : decode cX2_harm 79 = .ok (.idiv, 1) := by decide +kernel
theorem dX2_harm_80 : decode cX2_harm 80 = .ok (.goto 9, 3) := by decide +kernel
theorem dX2_harm_83 : decode cX2_harm 83 = .ok (.aload_n 0, 1) := by decide +kernel
theorem dX2_harm_84 : decode cX2_harm 84 = .ok (.getfield 15, 3) := by decide +kernel
theorem dX2_harm_87 : decode cX2_harm 87 = .ok (.iconst 2, 1) := by decide +kernel
theorem dX2_harm_88 : decode cX2_harm 88 = .ok (.idiv, 1) := by decide +kernel
theorem dX2_harm_89 : decode cX2_harm 89 = .ok (.invokestatic 35, 3) := by decide +kernel
theorem dX2_harm_92 : decode cX2_harm 92 = .ok (.putfield 15, 3) := by decide +kernel
theorem dX2_harm_95 : decode cX2_harm 95 = .ok (.aload_n 0, 1) := by decide +kernel
theorem dX2_harm_96 : decode cX2_harm 96 = .ok (.aload_n 0, 1) := by decide +kernel
theorem dX2_harm_97 : decode cX2_harm 97 = .ok (.getfield 15, 3) := by decide +kernel
theorem dX2_harm_100 : decode cX2_harm 100 = .ok (.putfield 19, 3) := by decide +kernel
theorem dX2_harm_103 : decode cX2_harm 103 = .ok (.return_, 1) := by decide +kernel
theorem dX2_takeBackHarm_0 : decode cX2_takeBackHarm 0 = .ok (.iload_n 1, 1) := by decide +kernel
theorem dX2_takeBackHarm_1 : decode cX2_takeBackHarm 1 = .ok (.aload_n 0, 1) := by decide +kernel
theorem dX2_takeBackHarm_2 : decode cX2_takeBackHarm 2 = .ok (.getfield 28, 3) := by decide +kernel
theorem dX2_takeBackHarm_5 : decode cX2_takeBackHarm 5 = .ok (.if_icmp .ne 38, 3) := by decide +kernel
theorem dX2_takeBackHarm_8 : decode cX2_takeBackHarm 8 = .ok (.aload_n 0, 1) := by decide +kernel
theorem dX2_takeBackHarm_9 : decode cX2_takeBackHarm 9 = .ok (.iconst (-1), 1) := by decide +kernel
theorem dX2_takeBackHarm_10 : decode cX2_takeBackHarm 10 = .ok (.putfield 28, 3) := by decide +kernel
theorem dX2_takeBackHarm_13 : decode cX2_takeBackHarm 13 = .ok (.aload_n 0, 1) := by decide +kernel
theorem dX2_takeBackHarm_14 : decode cX2_takeBackHarm 14 = .ok (.aload_n 0, 1) := by decide +kernel
theorem dX2_takeBackHarm_15 : decode cX2_takeBackHarm 15 = .ok (.getfield 15, 3) := by decide +kernel
theorem dX2_takeBackHarm_18 : decode cX2_takeBackHarm 18 = .ok (.aload_n 0, 1) := by decide +kernel
theorem dX2_takeBackHarm_19 : decode cX2_takeBackHarm 19 = .ok (.getfield 22, 3) := by decide +kernel
theorem dX2_takeBackHarm_22 : decode cX2_takeBackHarm 22 = .ok (.invokestatic 35, 3) := by decide +kernel
theorem dX2_takeBackHarm_25 : decode cX2_takeBackHarm 25 = .ok (.putfield 15, 3) := by decide +kernel
theorem dX2_takeBackHarm_28 : decode cX2_takeBackHarm 28 = .ok (.aload_n 0, 1) := by decide +kernel
theorem dX2_takeBackHarm_29 : decode cX2_takeBackHarm 29 = .ok (.aload_n 0, 1) := by decide +kernel
theorem dX2_takeBackHarm_30 : decode cX2_takeBackHarm 30 = .ok (.getfield 19, 3) := by decide +kernel
theorem dX2_takeBackHarm_33 : decode cX2_takeBackHarm 33 = .ok (.aload_n 0, 1) := by decide +kernel
theorem dX2_takeBackHarm_34 : decode cX2_takeBackHarm 34 = .ok (.getfield 25, 3) := by decide +kernel
theorem dX2_takeBackHarm_37 : decode cX2_takeBackHarm 37 = .ok (.invokestatic 35, 3) := by decide +kernel
theorem dX2_takeBackHarm_40 : decode cX2_takeBackHarm 40 = .ok (.putfield 19, 3) := by decide +kernel
theorem dX2_takeBackHarm_43 : decode cX2_takeBackHarm 43 = .ok (.return_, 1) := by decide +kernel
theorem dX3_init_0 : decode cX3_init 0 = .ok (.aload_n 0, 1) := by decide +kernel
theorem dX3_init_1 : decode cX3_init 1 = .ok (.invokespecial 3, 3) := by decide +kernel
theorem dX3_init_4 : decode cX3_init 4 = .ok (.aload_n 0, 1) := by decide +kernel
theorem dX3_init_5 : decode cX3_init 5 = .ok (.iconst 5, 1) := by decide +kernel
theorem dX3_init_6 : decode cX3_init 6 = .ok (.putfield 9, 3) := by decide +kernel
theorem dX3_init_9 : decode cX3_init 9 = .ok (.aload_n 0, 1) := by decide +kernel
theorem dX3_init_10 : decode cX3_init 10 = .ok (.iconst 2, 1) := by decide +kernel
theorem dX3_init_11 : decode cX3_init 11 = .ok (.putfield 15, 3) := by decide +kernel
theorem dX3_init_14 : decode cX3_init 14 = .ok (.aload_n 0, 1) := by decide +kernel
theorem dX3_init_15 : decode cX3_init 15 = .ok (.bipush 8, 2) := by decide +kernel
theorem dX3_init_17 : decode cX3_init 17 = .ok (.putfield 18, 3) := by decide +kernel
theorem dX3_init_20 : decode cX3_init 20 = .ok (.aload_n 0, 1) := by decide +kernel
theorem dX3_init_21 : decode cX3_init 21 = .ok (.bipush 6, 2) := by decide +kernel
theorem dX3_init_23 : decode cX3_init 23 = .ok (.putfield 21, 3) := by decide +kernel
theorem dX3_init_26 : decode cX3_init 26 = .ok (.aload_n 0, 1) := by decide +kernel
theorem dX3_init_27 : decode cX3_init 27 = .ok (.iconst 1, 1) := by decide +kernel
theorem dX3_init_28 : decode cX3_init 28 = .ok (.putfield 24, 3) := by decide +kernel
theorem dX3_init_31 : decode cX3_init 31 = .ok (.aload_n 0, 1) := by decide +kernel
theorem dX3_init_32 : decode cX3_init 32 = .ok (.bipush 30, 2) := by decide +kernel
theorem dX3_init_34 : decode cX3_init 34 = .ok (.anewarray 28, 3) := by decide +kernel
theorem dX3_init_37 : decode cX3_init 37 = .ok (.putfield 30, 3) := by decide +kernel
theorem dX3_init_40 : decode cX3_init 40 = .ok (.return_, 1) := by decide +kernel
theorem dX3_letsToServer_0 : decode cX3_letsToServer 0 = .ok (.aload_n 0, 1) := by decide +kernel
theorem dX3_letsToServer_1 : decode cX3_letsToServer 1 = .ok (.getfield 24, 3) := by decide +kernel
theorem dX3_letsToServer_4 : decode cX3_letsToServer 4 = .ok (.ifCond .ne 5, 3) := by decide +kernel
theorem dX3_letsToServer_7 : decode cX3_letsToServer 7 = .ok (.iconst 0, 1) := by decide +kernel
theorem dX3_letsToServer_8 : decode cX3_letsToServer 8 = .ok (.ireturn, 1) := by decide +kernel
theorem dX3_letsToServer_9 : decode cX3_letsToServer 9 = .ok (.aload_n 0, 1) := by decide +kernel
theorem dX3_letsToServer_10 : decode cX3_letsToServer 10 = .ok (.getfield 34, 3) := by decide +kernel
theorem dX3_letsToServer_13 : decode cX3_letsToServer 13 = .ok (.ifCond .le 15, 3) := by decide +kernel
theorem dX3_letsToServer_16 : decode cX3_letsToServer 16 = .ok (.aload_n 0, 1) := by decide +kernel
theorem dX3_letsToServer_17 : decode cX3_letsToServer 17 = .ok (.dup, 1) := by decide +kernel
theorem dX3_letsToServer_18 : decode cX3_letsToServer 18 = .ok (.getfield 34, 3) := by decide +kernel
theorem dX3_letsToServer_21 : decode cX3_letsToServer 21 = .ok (.iconst 1, 1) := by decide +kernel
theorem dX3_letsToServer_22 : decode cX3_letsToServer 22 = .ok (.isub, 1) := by decide +kernel
theorem dX3_letsToServer_23 : decode cX3_letsToServer 23 = .ok (.putfield 34, 3) := by decide +kernel
theorem dX3_letsToServer_26 : decode cX3_letsToServer 26 = .ok (.iconst 0, 1) := by decide +kernel
theorem dX3_letsToServer_27 : decode cX3_letsToServer 27 = .ok (.ireturn, 1) := by decide +kernel
theorem dX3_letsToServer_28 : decode cX3_letsToServer 28 = .ok (.aload_n 0, 1) := by decide +kernel
theorem dX3_letsToServer_29 : decode cX3_letsToServer 29 = .ok (.invokevirtual 37, 3) := by decide +kernel
theorem dX3_letsToServer_32 : decode cX3_letsToServer 32 = .ok (.ireturn, 1) := by decide +kernel
theorem dX3_letsToClient_0 : decode cX3_letsToClient 0 = .ok (.aload_n 0, 1) := by decide +kernel
theorem dX3_letsToClient_1 : decode cX3_letsToClient 1 = .ok (.getfield 24, 3) := by decide +kernel
theorem dX3_letsToClient_4 : decode cX3_letsToClient 4 = .ok (.ifCond .ne 5, 3) := by decide +kernel
theorem dX3_letsToClient_7 : decode cX3_letsToClient 7 = .ok (.iconst 0, 1) := by decide +kernel
theorem dX3_letsToClient_8 : decode cX3_letsToClient 8 = .ok (.ireturn, 1) := by decide +kernel
theorem dX3_letsToClient_9 : decode cX3_letsToClient 9 = .ok (.aload_n 0, 1) := by decide +kernel
theorem dX3_letsToClient_10 : decode cX3_letsToClient 10 = .ok (.getfield 41, 3) := by decide +kernel
theorem dX3_letsToClient_13 : decode cX3_letsToClient 13 = .ok (.ifCond .le 15, 3) := by decide +kernel
theorem dX3_letsToClient_16 : decode cX3_letsToClient 16 = .ok (.aload_n 0, 1) := by decide +kernel
theorem dX3_letsToClient_17 : decode cX3_letsToClient 17 = .ok (.dup, 1) := by decide +kernel
theorem dX3_letsToClient_18 : decode cX3_letsToClient 18 = .ok (.getfield 41, 3) := by decide +kernel
theorem dX3_letsToClient_21 : decode cX3_letsToClient 21 = .ok (.iconst 1, 1) := by decide +kernel
theorem dX3_letsToClient_22 : decode cX3_letsToClient 22 = .ok (.isub, 1) := by decide +kernel
theorem dX3_letsToClient_23 : decode cX3_letsToClient 23 = .ok (.putfield 41, 3) := by decide +kernel
theorem dX3_letsToClient_26 : decode cX3_letsToClient 26 = .ok (.iconst 0, 1) := by decide +kernel
theorem dX3_letsToClient_27 : decode cX3_letsToClient 27 = .ok (.ireturn, 1) := by decide +kernel
theorem dX3_letsToClient_28 : decode cX3_letsToClient 28 = .ok (.iconst 1, 1) := by decide +kernel
theorem dX3_letsToClient_29 : decode cX3_letsToClient 29 = .ok (.ireturn, 1) := by decide +kernel
theorem dX3_hasRoom_0 : decode cX3_hasRoom 0 = .ok (.aload_n 0, 1) := by decide +kernel
theorem dX3_hasRoom_1 : decode cX3_hasRoom 1 = .ok (.getfield 44, 3) := by decide +kernel
theorem dX3_hasRoom_4 : decode cX3_hasRoom 4 = .ok (.aload_n 0, 1) := by decide +kernel
theorem dX3_hasRoom_5 : decode cX3_hasRoom 5 = .ok (.getfield 18, 3) := by decide +kernel
theorem dX3_hasRoom_8 : decode cX3_hasRoom 8 = .ok (.if_icmp .ge 16, 3) := by decide +kernel
theorem dX3_hasRoom_11 : decode cX3_hasRoom 11 = .ok (.aload_n 0, 1) := by decide +kernel
theorem dX3_hasRoom_12 : decode cX3_hasRoom 12 = .ok (.getfield 44, 3) := by decide +kernel
theorem dX3_hasRoom_15 : decode cX3_hasRoom 15 = .ok (.bipush 30, 2) := by decide +kernel
theorem dX3_hasRoom_17 : decode cX3_hasRoom 17 = .ok (.if_icmp .ge 7, 3) := by decide +kernel
theorem dX3_hasRoom_20 : decode cX3_hasRoom 20 = .ok (.iconst 1, 1) := by decide +kernel
theorem dX3_hasRoom_21 : decode cX3_hasRoom 21 = .ok (.goto 4, 3) := by decide +kernel
theorem dX3_hasRoom_24 : decode cX3_hasRoom 24 = .ok (.iconst 0, 1) := by decide +kernel
theorem dX3_hasRoom_25 : decode cX3_hasRoom 25 = .ok (.ireturn, 1) := by decide +kernel
theorem dX3_append_0 : decode cX3_append 0 = .ok (.aload_n 0, 1) := by decide +kernel
theorem dX3_append_1 : decode cX3_append 1 = .ok (.getfield 44, 3) := by decide +kernel
theorem dX3_append_4 : decode cX3_append 4 = .ok (.bipush 30, 2) := by decide +kernel
theorem dX3_append_6 : decode cX3_append 6 = .ok (.if_icmp .ge 31, 3) := by decide +kernel
theorem dX3_append_9 : decode cX3_append 9 = .ok (.aload_n 0, 1) := by decide +kernel
theorem dX3_append_10 : decode cX3_append 10 = .ok (.getfield 30, 3) := by decide +kernel
theorem dX3_append_13 : decode cX3_append 13 = .ok (.aload_n 0, 1) := by decide +kernel
theorem dX3_append_14 : decode cX3_append 14 = .ok (.getfield 47, 3) := by decide +kernel
theorem dX3_append_17 : decode cX3_append 17 = .ok (.aload_n 0, 1) := by decide +kernel
theorem dX3_append_18 : decode cX3_append 18 = .ok (.getfield 44, 3) := by decide +kernel
theorem dX3_append_21 : decode cX3_append 21 = .ok (.iadd, 1) := by decide +kernel
theorem dX3_append_22 : decode cX3_append 22 = .ok (.bipush 30, 2) := by decide +kernel
theorem dX3_append_24 : decode cX3_append 24 = .ok (.irem, 1) := by decide +kernel
theorem dX3_append_25 : decode cX3_append 25 = .ok (.aload_n 1, 1) := by decide +kernel
theorem dX3_append_26 : decode cX3_append 26 = .ok (.aastore, 1) := by decide +kernel
theorem dX3_append_27 : decode cX3_append 27 = .ok (.aload_n 0, 1) := by decide +kernel
theorem dX3_append_28 : decode cX3_append 28 = .ok (.dup, 1) := by decide +kernel
theorem dX3_append_29 : decode cX3_append 29 = .ok (.getfield 44, 3) := by decide +kernel
theorem dX3_append_32 : decode cX3_append 32 = .ok (.iconst 1, 1) := by decide +kernel
theorem dX3_append_33 : decode cX3_append 33 = .ok (.iadd, 1) := by decide +kernel
theorem dX3_append_34 : decode cX3_append 34 = .ok (.putfield 44, 3) := by decide +kernel
theorem dX3_append_37 : decode cX3_append 37 = .ok (.return_, 1) := by decide +kernel
theorem dX3_removeFirst_0 : decode cX3_removeFirst 0 = .ok (.aload_n 0, 1) := by decide +kernel
theorem dX3_removeFirst_1 : decode cX3_removeFirst 1 = .ok (.getfield 30, 3) := by decide +kernel
theorem dX3_removeFirst_4 : decode cX3_removeFirst 4 = .ok (.aload_n 0, 1) := by decide +kernel
theorem dX3_removeFirst_5 : decode cX3_removeFirst 5 = .ok (.getfield 47, 3) := by decide +kernel
theorem dX3_removeFirst_8 : decode cX3_removeFirst 8 = .ok (.aaload, 1) := by decide +kernel
theorem dX3_removeFirst_9 : decode cX3_removeFirst 9 = .ok (.astore_n 1, 1) := by decide +kernel
theorem dX3_removeFirst_10 : decode cX3_removeFirst 10 = .ok (.aload_n 0, 1) := by decide +kernel
theorem dX3_removeFirst_11 : decode cX3_removeFirst 11 = .ok (.getfield 30, 3) := by decide +kernel
theorem dX3_removeFirst_14 : decode cX3_removeFirst 14 = .ok (.aload_n 0, 1) := by decide +kernel
theorem dX3_removeFirst_15 : decode cX3_removeFirst 15 = .ok (.getfield 47, 3) := by decide +kernel
theorem dX3_removeFirst_18 : decode cX3_removeFirst 18 = .ok (.aconst_null, 1) := by decide +kernel
theorem dX3_removeFirst_19 : decode cX3_removeFirst 19 = .ok (.aastore, 1) := by decide +kernel
theorem dX3_removeFirst_20 : decode cX3_removeFirst 20 = .ok (.aload_n 0, 1) := by decide +kernel
theorem dX3_removeFirst_21 : decode cX3_removeFirst 21 = .ok (.aload_n 0, 1) := by decide +kernel
theorem dX3_removeFirst_22 : decode cX3_removeFirst 22 = .ok (.getfield 47, 3) := by decide +kernel
theorem dX3_removeFirst_25 : decode cX3_removeFirst 25 = .ok (.iconst 1, 1) := by decide +kernel
theorem dX3_removeFirst_26 : decode cX3_removeFirst 26 = .ok (.iadd, 1) := by decide +kernel
theorem dX3_removeFirst_27 : decode cX3_removeFirst 27 = .ok (.bipush 30, 2) := by decide +kernel
theorem dX3_removeFirst_29 : decode cX3_removeFirst 29 = .ok (.irem, 1) := by decide +kernel
theorem dX3_removeFirst_30 : decode cX3_removeFirst 30 = .ok (.putfield 47, 3) := by decide +kernel
theorem dX3_removeFirst_33 : decode cX3_removeFirst 33 = .ok (.aload_n 0, 1) := by decide +kernel
theorem dX3_removeFirst_34 : decode cX3_removeFirst 34 = .ok (.dup, 1) := by decide +kernel
theorem dX3_removeFirst_35 : decode cX3_removeFirst 35 = .ok (.getfield 44, 3) := by decide +kernel
theorem dX3_removeFirst_38 : decode cX3_removeFirst 38 = .ok (.iconst 1, 1) := by decide +kernel
theorem dX3_removeFirst_39 : decode cX3_removeFirst 39 = .ok (.isub, 1) := by decide +kernel
theorem dX3_removeFirst_40 : decode cX3_removeFirst 40 = .ok (.putfield 44, 3) := by decide +kernel
theorem dX3_removeFirst_43 : decode cX3_removeFirst 43 = .ok (.aload_n 1, 1) := by decide +kernel
theorem dX3_removeFirst_44 : decode cX3_removeFirst 44 = .ok (.areturn, 1) := by decide +kernel
theorem dX3_takeLateness_0 : decode cX3_takeLateness 0 = .ok (.aload_n 0, 1) := by decide +kernel
theorem dX3_takeLateness_1 : decode cX3_takeLateness 1 = .ok (.getfield 50, 3) := by decide +kernel
theorem dX3_takeLateness_4 : decode cX3_takeLateness 4 = .ok (.ifCond .gt 5, 3) := by decide +kernel
theorem dX3_takeLateness_7 : decode cX3_takeLateness 7 = .ok (.iconst 0, 1) := by decide +kernel
theorem dX3_takeLateness_8 : decode cX3_takeLateness 8 = .ok (.ireturn, 1) := by decide +kernel
theorem dX3_takeLateness_9 : decode cX3_takeLateness 9 = .ok (.aload_n 0, 1) := by decide +kernel
theorem dX3_takeLateness_10 : decode cX3_takeLateness 10 = .ok (.dup, 1) := by decide +kernel
theorem dX3_takeLateness_11 : decode cX3_takeLateness 11 = .ok (.getfield 50, 3) := by decide +kernel
theorem dX3_takeLateness_14 : decode cX3_takeLateness 14 = .ok (.iconst 1, 1) := by decide +kernel
theorem dX3_takeLateness_15 : decode cX3_takeLateness 15 = .ok (.isub, 1) := by decide +kernel
theorem dX3_takeLateness_16 : decode cX3_takeLateness 16 = .ok (.putfield 50, 3) := by decide +kernel
theorem dX3_takeLateness_19 : decode cX3_takeLateness 19 = .ok (.aload_n 0, 1) := by decide +kernel
theorem dX3_takeLateness_20 : decode cX3_takeLateness 20 = .ok (.getfield 53, 3) := by decide +kernel
theorem dX3_takeLateness_23 : decode cX3_takeLateness 23 = .ok (.ireturn, 1) := by decide +kernel
theorem dX4_init_0 : decode cX4_init 0 = .ok (.aload_n 0, 1) := by decide +kernel
theorem dX4_init_1 : decode cX4_init 1 = .ok (.invokespecial 3, 3) := by decide +kernel
theorem dX4_init_4 : decode cX4_init 4 = .ok (.aload_n 0, 1) := by decide +kernel
theorem dX4_init_5 : decode cX4_init 5 = .ok (.iconst (-1), 1) := by decide +kernel
theorem dX4_init_6 : decode cX4_init 6 = .ok (.putfield 9, 3) := by decide +kernel
theorem dX4_init_9 : decode cX4_init 9 = .ok (.aload_n 0, 1) := by decide +kernel
theorem dX4_init_10 : decode cX4_init 10 = .ok (.iload_n 1, 1) := by decide +kernel
theorem dX4_init_11 : decode cX4_init 11 = .ok (.putfield 15, 3) := by decide +kernel
theorem dX4_init_14 : decode cX4_init 14 = .ok (.return_, 1) := by decide +kernel
theorem dX5_init_0 : decode cX5_init 0 = .ok (.aload_n 0, 1) := by decide +kernel
theorem dX5_init_1 : decode cX5_init 1 = .ok (.invokespecial 3, 3) := by decide +kernel
theorem dX5_init_4 : decode cX5_init 4 = .ok (.aload_n 0, 1) := by decide +kernel
theorem dX5_init_5 : decode cX5_init 5 = .ok (.new 9, 3) := by decide +kernel
theorem dX5_init_8 : decode cX5_init 8 = .ok (.dup, 1) := by decide +kernel
theorem dX5_init_9 : decode cX5_init 9 = .ok (.invokespecial 11, 3) := by decide +kernel
theorem dX5_init_12 : decode cX5_init 12 = .ok (.putfield 12, 3) := by decide +kernel
theorem dX5_init_15 : decode cX5_init 15 = .ok (.aload_n 0, 1) := by decide +kernel
theorem dX5_init_16 : decode cX5_init 16 = .ok (.new 9, 3) := by decide +kernel
theorem dX5_init_19 : decode cX5_init 19 = .ok (.dup, 1) := by decide +kernel
theorem dX5_init_20 : decode cX5_init 20 = .ok (.invokespecial 11, 3) := by decide +kernel
theorem dX5_init_23 : decode cX5_init 23 = .ok (.putfield 18, 3) := by decide +kernel
theorem dX5_init_26 : decode cX5_init 26 = .ok (.aload_n 0, 1) := by decide +kernel
theorem dX5_init_27 : decode cX5_init 27 = .ok (.new 21, 3) := by decide +kernel
theorem dX5_init_30 : decode cX5_init 30 = .ok (.dup, 1) := by decide +kernel
theorem dX5_init_31 : decode cX5_init 31 = .ok (.sipush 1024, 3) := by decide +kernel
theorem dX5_init_34 : decode cX5_init 34 = .ok (.invokespecial 23, 3) := by decide +kernel
theorem dX5_init_37 : decode cX5_init 37 = .ok (.putfield 26, 3) := by decide +kernel
theorem dX5_init_40 : decode cX5_init 40 = .ok (.aload_n 0, 1) := by decide +kernel
theorem dX5_init_41 : decode cX5_init 41 = .ok (.new 21, 3) := by decide +kernel
theorem dX5_init_44 : decode cX5_init 44 = .ok (.dup, 1) := by decide +kernel
theorem dX5_init_45 : decode cX5_init 45 = .ok (.sipush 2048, 3) := by decide +kernel
theorem dX5_init_48 : decode cX5_init 48 = .ok (.invokespecial 23, 3) := by decide +kernel
theorem dX5_init_51 : decode cX5_init 51 = .ok (.putfield 30, 3) := by decide +kernel
theorem dX5_init_54 : decode cX5_init 54 = .ok (.aload_n 0, 1) := by decide +kernel
theorem dX5_init_55 : decode cX5_init 55 = .ok (.new 33, 3) := by decide +kernel
theorem dX5_init_58 : decode cX5_init 58 = .ok (.dup, 1) := by decide +kernel
theorem dX5_init_59 : decode cX5_init 59 = .ok (.bipush 9, 2) := by decide +kernel
theorem dX5_init_61 : decode cX5_init 61 = .ok (.invokespecial 35, 3) := by decide +kernel
theorem dX5_init_64 : decode cX5_init 64 = .ok (.putfield 36, 3) := by decide +kernel
theorem dX5_init_67 : decode cX5_init 67 = .ok (.return_, 1) := by decide +kernel
theorem dX5_laneOf_0 : decode cX5_laneOf 0 = .ok (.iload_n 1, 1) := by decide +kernel
theorem dX5_laneOf_1 : decode cX5_laneOf 1 = .ok (.ifCond .ne 10, 3) := by decide +kernel
theorem dX5_laneOf_4 : decode cX5_laneOf 4 = .ok (.aload_n 0, 1) := by decide +kernel
theorem dX5_laneOf_5 : decode cX5_laneOf 5 = .ok (.getfield 12, 3) := by decide +kernel
theorem dX5_laneOf_8 : decode cX5_laneOf 8 = .ok (.goto 7, 3) := by decide +kernel
theorem dX5_laneOf_11 : decode cX5_laneOf 11 = .ok (.aload_n 0, 1) := by decide +kernel
theorem dX5_laneOf_12 : decode cX5_laneOf 12 = .ok (.getfield 18, 3) := by decide +kernel
theorem dX5_laneOf_15 : decode cX5_laneOf 15 = .ok (.areturn, 1) := by decide +kernel
theorem dX5_putToServer_0 : decode cX5_putToServer 0 = .ok (.aload_n 0, 1) := by decide +kernel
theorem dX5_putToServer_1 : decode cX5_putToServer 1 = .ok (.iload_n 1, 1) := by decide +kernel
theorem dX5_putToServer_2 : decode cX5_putToServer 2 = .ok (.invokevirtual 40, 3) := by decide +kernel
theorem dX5_putToServer_5 : decode cX5_putToServer 5 = .ok (.astore_n 3, 1) := by decide +kernel
theorem dX5_putToServer_6 : decode cX5_putToServer 6 = .ok (.aload_n 2, 1) := by decide +kernel
theorem dX5_putToServer_7 : decode cX5_putToServer 7 = .ok (.iload_n 1, 1) := by decide +kernel
theorem dX5_putToServer_8 : decode cX5_putToServer 8 = .ok (.putfield 44, 3) := by decide +kernel
theorem dX5_putToServer_11 : decode cX5_putToServer 11 = .ok (.aload_n 3, 1) := by decide +kernel
theorem dX5_putToServer_12 : decode cX5_putToServer 12 = .ok (.invokevirtual 48, 3) := by decide +kernel
theorem dX5_putToServer_15 : decode cX5_putToServer 15 = .ok (.istore 4, 2) := by decide +kernel
theorem dX5_putToServer_17 : decode cX5_putToServer 17 = .ok (.aload_n 2, 1) := by decide +kernel
theorem dX5_putToServer_18 : decode cX5_putToServer 18 = .ok (.getfield 52, 3) := by decide +kernel
theorem dX5_putToServer_21 : decode cX5_putToServer 21 = .ok (.ifnull 44, 3) := by decide +kernel
theorem dX5_putToServer_24 : decode cX5_putToServer 24 = .ok (.aload_n 2, 1) := by decide +kernel
theorem dX5_putToServer_25 : decode cX5_putToServer 25 = .ok (.getfield 52, 3) := by decide +kernel
theorem dX5_putToServer_28 : decode cX5_putToServer 28 = .ok (.iload 4, 2) := by decide +kernel
theorem dX5_putToServer_30 : decode cX5_putToServer 30 = .ok (.ifCond .eq 18, 3) := by decide +kernel
theorem dX5_putToServer_33 : decode cX5_putToServer 33 = .ok (.aload_n 3, 1) := by decide +kernel
theorem dX5_putToServer_34 : decode cX5_putToServer 34 = .ok (.getfield 56, 3) := by decide +kernel
theorem dX5_putToServer_37 : decode cX5_putToServer 37 = .ok (.aload_n 3, 1) := by decide +kernel
theorem dX5_putToServer_38 : decode cX5_putToServer 38 = .ok (.getfield 59, 3) := by decide +kernel
theorem dX5_putToServer_41 : decode cX5_putToServer 41 = .ok (.if_icmp .lt 7, 3) := by decide +kernel
theorem dX5_putToServer_44 : decode cX5_putToServer 44 = .ok (.iconst 1, 1) := by decide +kernel
theorem dX5_putToServer_45 : decode cX5_putToServer 45 = .ok (.goto 4, 3) := by decide +kernel
theorem dX5_putToServer_48 : decode cX5_putToServer 48 = .ok (.iconst 0, 1) := by decide +kernel
theorem dX5_putToServer_49 : decode cX5_putToServer 49 = .ok (.putfield 62, 3) := by decide +kernel
theorem dX5_putToServer_52 : decode cX5_putToServer 52 = .ok (.iload 4, 2) := by decide +kernel
theorem dX5_putToServer_54 : decode cX5_putToServer 54 = .ok (.ifCond .ne 11, 3) := by decide +kernel
theorem dX5_putToServer_57 : decode cX5_putToServer 57 = .ok (.aload_n 2, 1) := by decide +kernel
theorem dX5_putToServer_58 : decode cX5_putToServer 58 = .ok (.getfield 52, 3) := by decide +kernel
theorem dX5_putToServer_61 : decode cX5_putToServer 61 = .ok (.iconst 3, 1) := by decide +kernel
theorem dX5_putToServer_62 : decode cX5_putToServer 62 = .ok (.putfield 68, 3) := by decide +kernel
theorem dX5_putToServer_65 : decode cX5_putToServer 65 = .ok (.iload 4, 2) := by decide +kernel
theorem dX5_putToServer_67 : decode cX5_putToServer 67 = .ok (.ifCond .eq 8, 3) := by decide +kernel
theorem dX5_putToServer_70 : decode cX5_putToServer 70 = .ok (.aload_n 3, 1) := by decide +kernel
theorem dX5_putToServer_71 : decode cX5_putToServer 71 = .ok (.aload_n 2, 1) := by decide +kernel
theorem dX5_putToServer_72 : decode cX5_putToServer 72 = .ok (.invokevirtual 71, 3) := by decide +kernel
theorem dX5_putToServer_75 : decode cX5_putToServer 75 = .ok (.return_, 1) := by decide +kernel
theorem dX5_putToClient_0 : decode cX5_putToClient 0 = .ok (.aload_n 0, 1) := by decide +kernel
theorem dX5_putToClient_1 : decode cX5_putToClient 1 = .ok (.iload_n 1, 1) := by decide +kernel
theorem dX5_putToClient_2 : decode cX5_putToClient 2 = .ok (.invokevirtual 40, 3) := by decide +kernel
theorem dX5_putToClient_5 : decode cX5_putToClient 5 = .ok (.astore_n 3, 1) := by decide +kernel
theorem dX5_putToClient_6 : decode cX5_putToClient 6 = .ok (.aload_n 2, 1) := by decide +kernel
theorem dX5_putToClient_7 : decode cX5_putToClient 7 = .ok (.iload_n 1, 1) := by decide +kernel
theorem dX5_putToClient_8 : decode cX5_putToClient 8 = .ok (.putfield 44, 3) := by decide +kernel
theorem dX5_putToClient_11 : decode cX5_putToClient 11 = .ok (.aload_n 3, 1) := by decide +kernel
theorem dX5_putToClient_12 : decode cX5_putToClient 12 = .ok (.invokevirtual 75, 3) := by decide +kernel
theorem dX5_putToClient_15 : decode cX5_putToClient 15 = .ok (.ifCond .eq 20, 3) := by decide +kernel
theorem dX5_putToClient_18 : decode cX5_putToClient 18 = .ok (.aload_n 0, 1) := by decide +kernel
theorem dX5_putToClient_19 : decode cX5_putToClient 19 = .ok (.getfield 30, 3) := by decide +kernel
theorem dX5_putToClient_22 : decode cX5_putToClient 22 = .ok (.aload_n 2, 1) := by decide +kernel
theorem dX5_putToClient_23 : decode cX5_putToClient 23 = .ok (.aload_n 0, 1) := by decide +kernel
theorem dX5_putToClient_24 : decode cX5_putToClient 24 = .ok (.getfield 78, 3) := by decide +kernel
theorem dX5_putToClient_27 : decode cX5_putToClient 27 = .ok (.aload_n 3, 1) := by decide +kernel
theorem dX5_putToClient_28 : decode cX5_putToClient 28 = .ok (.getfield 81, 3) := by decide +kernel
theorem dX5_putToClient_31 : decode cX5_putToClient 31 = .ok (.iadd, 1) := by decide +kernel
theorem dX5_putToClient_32 : decode cX5_putToClient 32 = .ok (.invokevirtual 84, 3) := by decide +kernel
theorem dX5_putToClient_35 : decode cX5_putToClient 35 = .ok (.return_, 1) := by decide +kernel
theorem dX5_putForeign_0 : decode cX5_putForeign 0 = .ok (.aload_n 0, 1) := by decide +kernel
theorem dX5_putForeign_1 : decode cX5_putForeign 1 = .ok (.iload_n 1, 1) := by decide +kernel
theorem dX5_putForeign_2 : decode cX5_putForeign 2 = .ok (.invokevirtual 40, 3) := by decide +kernel
theorem dX5_putForeign_5 : decode cX5_putForeign 5 = .ok (.astore_n 3, 1) := by decide +kernel
theorem dX5_putForeign_6 : decode cX5_putForeign 6 = .ok (.iconst 0, 1) := by decide +kernel
theorem dX5_putForeign_7 : decode cX5_putForeign 7 = .ok (.istore 4, 2) := by decide +kernel
theorem dX5_putForeign_9 : decode cX5_putForeign 9 = .ok (.iload 4, 2) := by decide +kernel
theorem dX5_putForeign_11 : decode cX5_putForeign 11 = .ok (.iload_n 2, 1) := by decide +kernel
theorem dX5_putForeign_12 : decode cX5_putForeign 12 = .ok (.if_icmp .ge 24, 3) := by decide +kernel
theorem dX5_putForeign_15 : decode cX5_putForeign 15 = .ok (.aload_n 3, 1) := by decide +kernel
theorem dX5_putForeign_16 : decode cX5_putForeign 16 = .ok (.invokevirtual 87, 3) := by decide +kernel
theorem dX5_putForeign_19 : decode cX5_putForeign 19 = .ok (.ifCond .eq 17, 3) := by decide +kernel
theorem dX5_putForeign_22 : decode cX5_putForeign 22 = .ok (.aload_n 3, 1) := by decide +kernel
theorem dX5_putForeign_23 : decode cX5_putForeign 23 = .ok (.aload_n 0, 1) := by decide +kernel
theorem dX5_putForeign_24 : decode cX5_putForeign 24 = .ok (.getfield 36, 3) := by decide +kernel
theorem dX5_putForeign_27 : decode cX5_putForeign 27 = .ok (.invokevirtual 71, 3) := by decide +kernel
theorem dX5_putForeign_30 : decode cX5_putForeign 30 = .ok (.iinc 4 1, 3) := by decide +kernel
theorem dX5_putForeign_33 : decode cX5_putForeign 33 = .ok (.goto (-24), 3) := by decide +kernel
theorem dX5_putForeign_36 : decode cX5_putForeign 36 = .ok (.iload 4, 2) := by decide +kernel
theorem dX5_putForeign_38 : decode cX5_putForeign 38 = .ok (.ireturn, 1) := by decide +kernel
theorem dX5_letLeave_0 : decode cX5_letLeave 0 = .ok (.aload_n 0, 1) := by decide +kernel
theorem dX5_letLeave_1 : decode cX5_letLeave 1 = .ok (.aload_n 0, 1) := by decide +kernel
theorem dX5_letLeave_2 : decode cX5_letLeave 2 = .ok (.getfield 12, 3) := by decide +kernel
theorem dX5_letLeave_5 : decode cX5_letLeave 5 = .ok (.invokevirtual 90, 3) := by decide +kernel
theorem dX5_letLeave_8 : decode cX5_letLeave 8 = .ok (.aload_n 0, 1) := by decide +kernel
theorem dX5_letLeave_9 : decode cX5_letLeave 9 = .ok (.aload_n 0, 1) := by decide +kernel
theorem dX5_letLeave_10 : decode cX5_letLeave 10 = .ok (.getfield 18, 3) := by decide +kernel
theorem dX5_letLeave_13 : decode cX5_letLeave 13 = .ok (.invokevirtual 90, 3) := by decide +kernel
theorem dX5_letLeave_16 : decode cX5_letLeave 16 = .ok (.return_, 1) := by decide +kernel
theorem dX5_letLeaveLane_0 : decode cX5_letLeaveLane 0 = .ok (.iconst 0, 1) := by decide +kernel
theorem dX5_letLeaveLane_1 : decode cX5_letLeaveLane 1 = .ok (.istore_n 2, 1) := by decide +kernel
theorem dX5_letLeaveLane_2 : decode cX5_letLeaveLane 2 = .ok (.iload_n 2, 1) := by decide +kernel
theorem dX5_letLeaveLane_3 : decode cX5_letLeaveLane 3 = .ok (.aload_n 1, 1) := by decide +kernel
theorem dX5_letLeaveLane_4 : decode cX5_letLeaveLane 4 = .ok (.getfield 94, 3) := by decide +kernel
theorem dX5_letLeaveLane_7 : decode cX5_letLeaveLane 7 = .ok (.if_icmp .ge 56, 3) := by decide +kernel
theorem dX5_letLeaveLane_10 : decode cX5_letLeaveLane 10 = .ok (.aload_n 1, 1) := by decide +kernel
theorem dX5_letLeaveLane_11 : decode cX5_letLeaveLane 11 = .ok (.getfield 56, 3) := by decide +kernel
theorem dX5_letLeaveLane_14 : decode cX5_letLeaveLane 14 = .ok (.ifCond .le 49, 3) := by decide +kernel
theorem dX5_letLeaveLane_17 : decode cX5_letLeaveLane 17 = .ok (.aload_n 1, 1) := by decide +kernel
theorem dX5_letLeaveLane_18 : decode cX5_letLeaveLane 18 = .ok (.invokevirtual 97, 3) := by decide +kernel
theorem dX5_letLeaveLane_21 : decode cX5_letLeaveLane 21 = .ok (.astore_n 3, 1) := by decide +kernel
theorem dX5_letLeaveLane_22 : decode cX5_letLeaveLane 22 = .ok (.aload_n 3, 1) := by decide +kernel
theorem dX5_letLeaveLane_23 : decode cX5_letLeaveLane 23 = .ok (.ifnull 34, 3) := by decide +kernel
theorem dX5_letLeaveLane_26 : decode cX5_letLeaveLane 26 = .ok (.aload_n 3, 1) := by decide +kernel
theorem dX5_letLeaveLane_27 : decode cX5_letLeaveLane 27 = .ok (.getfield 101, 3) := by decide +kernel
theorem dX5_letLeaveLane_30 : decode cX5_letLeaveLane 30 = .ok (.bipush 9, 2) := by decide +kernel
theorem dX5_letLeaveLane_32 : decode cX5_letLeaveLane 32 = .ok (.if_icmp .eq 25, 3) := by decide +kernel
theorem dX5_letLeaveLane_35 : decode cX5_letLeaveLane 35 = .ok (.aload_n 0, 1) := by decide +kernel
theorem dX5_letLeaveLane_36 : decode cX5_letLeaveLane 36 = .ok (.getfield 26, 3) := by decide +kernel
theorem dX5_letLeaveLane_39 : decode cX5_letLeaveLane 39 = .ok (.aload_n 3, 1) := by decide +kernel
theorem dX5_letLeaveLane_40 : decode cX5_letLeaveLane 40 = .ok (.aload_n 0, 1) := by decide +kernel
theorem dX5_letLeaveLane_41 : decode cX5_letLeaveLane 41 = .ok (.getfield 78, 3) := by decide +kernel
theorem dX5_letLeaveLane_44 : decode cX5_letLeaveLane 44 = .ok (.aload_n 1, 1) := by decide +kernel
theorem dX5_letLeaveLane_45 : decode cX5_letLeaveLane 45 = .ok (.getfield 81, 3) := by decide +kernel
theorem dX5_letLeaveLane_48 : decode cX5_letLeaveLane 48 = .ok (.iadd, 1) := by decide +kernel
theorem dX5_letLeaveLane_49 : decode cX5_letLeaveLane 49 = .ok (.aload_n 1, 1) := by decide +kernel
theorem dX5_letLeaveLane_50 : decode cX5_letLeaveLane 50 = .ok (.invokevirtual 104, 3) := by decide +kernel
theorem dX5_letLeaveLane_53 : decode cX5_letLeaveLane 53 = .ok (.iadd, 1) := by decide +kernel
theorem dX5_letLeaveLane_54 : decode cX5_letLeaveLane 54 = .ok (.invokevirtual 84, 3) := by decide +kernel
theorem dX5_letLeaveLane_57 : decode cX5_letLeaveLane 57 = .ok (.iinc 2 1, 3) := by decide +kernel
theorem dX5_letLeaveLane_60 : decode cX5_letLeaveLane 60 = .ok (.goto (-58), 3) := by decide +kernel
theorem dX5_letLeaveLane_63 : decode cX5_letLeaveLane 63 = .ok (.return_, 1) := by decide +kernel
theorem dX6_init_0 : decode cX6_init 0 = .ok (.aload_n 0, 1) := by decide +kernel
theorem dX6_init_1 : decode cX6_init 1 = .ok (.invokespecial 3, 3) := by decide +kernel
theorem dX6_init_4 : decode cX6_init 4 = .ok (.aload_n 0, 1) := by decide +kernel
theorem dX6_init_5 : decode cX6_init 5 = .ok (.iconst 0, 1) := by decide +kernel
theorem dX6_init_6 : decode cX6_init 6 = .ok (.putfield 9, 3) := by decide +kernel
theorem dX6_init_9 : decode cX6_init 9 = .ok (.aload_n 0, 1) := by decide +kernel
theorem dX6_init_10 : decode cX6_init 10 = .ok (.iload_n 1, 1) := by decide +kernel
theorem dX6_init_11 : decode cX6_init 11 = .ok (.putfield 15, 3) := by decide +kernel
theorem dX6_init_14 : decode cX6_init 14 = .ok (.aload_n 0, 1) := by decide +kernel
theorem dX6_init_15 : decode cX6_init 15 = .ok (.iload_n 2, 1) := by decide +kernel
theorem dX6_init_16 : decode cX6_init 16 = .ok (.putfield 18, 3) := by decide +kernel
theorem dX6_init_19 : decode cX6_init 19 = .ok (.aload_n 0, 1) := by decide +kernel
theorem dX6_init_20 : decode cX6_init 20 = .ok (.iload_n 3, 1) := by decide +kernel
theorem dX6_init_21 : decode cX6_init 21 = .ok (.putfield 21, 3) := by decide +kernel
theorem dX6_init_24 : decode cX6_init 24 = .ok (.aload_n 0, 1) := by decide +kernel
theorem dX6_init_25 : decode cX6_init 25 = .ok (.iload 4, 2) := by decide +kernel
theorem dX6_init_27 : decode cX6_init 27 = .ok (.putfield 24, 3) := by decide +kernel
theorem dX6_init_30 : decode cX6_init 30 = .ok (.aload_n 0, 1) := by decide +kernel
theorem dX6_init_31 : decode cX6_init 31 = .ok (.iload 5, 2) := by decide +kernel
theorem dX6_init_33 : decode cX6_init 33 = .ok (.putfield 27, 3) := by decide +kernel
theorem dX6_init_36 : decode cX6_init 36 = .ok (.aload_n 0, 1) := by decide +kernel
theorem dX6_init_37 : decode cX6_init 37 = .ok (.iload 6, 2) := by decide +kernel
theorem dX6_init_39 : decode cX6_init 39 = .ok (.putfield 30, 3) := by decide +kernel
theorem dX6_init_42 : decode cX6_init 42 = .ok (.return_, 1) := by decide +kernel
theorem dX7_init_0 : decode cX7_init 0 = .ok (.aload_n 0, 1) := by decide +kernel
theorem dX7_init_1 : decode cX7_init 1 = .ok (.invokespecial 3, 3) := by decide +kernel
theorem dX7_init_4 : decode cX7_init 4 = .ok (.aload_n 0, 1) := by decide +kernel
theorem dX7_init_5 : decode cX7_init 5 = .ok (.new 9, 3) := by decide +kernel
theorem dX7_init_8 : decode cX7_init 8 = .ok (.dup, 1) := by decide +kernel
theorem dX7_init_9 : decode cX7_init 9 = .ok (.invokespecial 11, 3) := by decide +kernel
theorem dX7_init_12 : decode cX7_init 12 = .ok (.putfield 12, 3) := by decide +kernel
theorem dX7_init_15 : decode cX7_init 15 = .ok (.aload_n 0, 1) := by decide +kernel
theorem dX7_init_16 : decode cX7_init 16 = .ok (.bipush 80, 2) := by decide +kernel
theorem dX7_init_18 : decode cX7_init 18 = .ok (.putfield 18, 3) := by decide +kernel
theorem dX7_init_21 : decode cX7_init 21 = .ok (.aload_n 0, 1) := by decide +kernel
theorem dX7_init_22 : decode cX7_init 22 = .ok (.bipush 20, 2) := by decide +kernel
theorem dX7_init_24 : decode cX7_init 24 = .ok (.putfield 22, 3) := by decide +kernel
theorem dX7_init_27 : decode cX7_init 27 = .ok (.aload_n 0, 1) := by decide +kernel
theorem dX7_init_28 : decode cX7_init 28 = .ok (.bipush 10, 2) := by decide +kernel
theorem dX7_init_30 : decode cX7_init 30 = .ok (.putfield 25, 3) := by decide +kernel
theorem dX7_init_33 : decode cX7_init 33 = .ok (.aload_n 0, 1) := by decide +kernel
theorem dX7_init_34 : decode cX7_init 34 = .ok (.bipush 10, 2) := by decide +kernel
theorem dX7_init_36 : decode cX7_init 36 = .ok (.putfield 28, 3) := by decide +kernel
theorem dX7_init_39 : decode cX7_init 39 = .ok (.aload_n 0, 1) := by decide +kernel
theorem dX7_init_40 : decode cX7_init 40 = .ok (.iconst (-1), 1) := by decide +kernel
theorem dX7_init_41 : decode cX7_init 41 = .ok (.putfield 31, 3) := by decide +kernel
theorem dX7_init_44 : decode cX7_init 44 = .ok (.aload_n 0, 1) := by decide +kernel
theorem dX7_init_45 : decode cX7_init 45 = .ok (.iload_n 1, 1) := by decide +kernel
theorem dX7_init_46 : decode cX7_init 46 = .ok (.putfield 34, 3) := by decide +kernel
theorem dX7_init_49 : decode cX7_init 49 = .ok (.aload_n 0, 1) := by decide +kernel
theorem dX7_init_50 : decode cX7_init 50 = .ok (.iload_n 1, 1) := by decide +kernel
theorem dX7_init_51 : decode cX7_init 51 = .ok (.ifCond .ne 7, 3) := by decide +kernel
theorem dX7_init_54 : decode cX7_init 54 = .ok (.iconst 1, 1) := by decide +kernel
theorem dX7_init_55 : decode cX7_init 55 = .ok (.goto 4, 3) := by decide +kernel
theorem dX7_init_58 : decode cX7_init 58 = .ok (.iconst 0, 1) := by decide +kernel
theorem dX7_init_59 : decode cX7_init 59 = .ok (.putfield 37, 3) := by decide +kernel
theorem dX7_init_62 : decode cX7_init 62 = .ok (.return_, 1) := by decide +kernel
theorem dX7_measure_0 : decode cX7_measure 0 = .ok (.aload_n 0, 1) := by decide +kernel
theorem dX7_measure_1 : decode cX7_measure 1 = .ok (.iload_n 1, 1) := by decide +kernel
theorem dX7_measure_2 : decode cX7_measure 2 = .ok (.putfield 28, 3) := by decide +kernel
theorem dX7_measure_5 : decode cX7_measure 5 = .ok (.aload_n 0, 1) := by decide +kernel
theorem dX7_measure_6 : decode cX7_measure 6 = .ok (.getfield 41, 3) := by decide +kernel
theorem dX7_measure_9 : decode cX7_measure 9 = .ok (.ifCond .eq 64, 3) := by decide +kernel
theorem dX7_measure_12 : decode cX7_measure 12 = .ok (.aload_n 0, 1) := by decide +kernel
theorem dX7_measure_13 : decode cX7_measure 13 = .ok (.aload_n 0, 1) := by decide +kernel
theorem dX7_measure_14 : decode cX7_measure 14 = .ok (.getfield 25, 3) := by decide +kernel
theorem dX7_measure_17 : decode cX7_measure 17 = .ok (.iload_n 1, 1) := by decide +kernel
theorem dX7_measure_18 : decode cX7_measure 18 = .ok (.invokestatic 44, 3) := by decide +kernel
theorem dX7_measure_21 : decode cX7_measure 21 = .ok (.putfield 25, 3) := by decide +kernel
theorem dX7_measure_24 : decode cX7_measure 24 = .ok (.aload_n 0, 1) := by decide +kernel
theorem dX7_measure_25 : decode cX7_measure 25 = .ok (.dup, 1) := by decide +kernel
theorem dX7_measure_26 : decode cX7_measure 26 = .ok (.getfield 22, 3) := by decide +kernel
theorem dX7_measure_29 : decode cX7_measure 29 = .ok (.iload_n 1, 1) := by decide +kernel
theorem dX7_measure_30 : decode cX7_measure 30 = .ok (.aload_n 0, 1) := by decide +kernel
theorem dX7_measure_31 : decode cX7_measure 31 = .ok (.getfield 18, 3) := by decide +kernel
theorem dX7_measure_34 : decode cX7_measure 34 = .ok (.bipush 8, 2) := by decide +kernel
theorem dX7_measure_36 : decode cX7_measure 36 = .ok (.idiv, 1) := by decide +kernel
theorem dX7_measure_37 : decode cX7_measure 37 = .ok (.isub, 1) := by decide +kernel
theorem dX7_measure_38 : decode cX7_measure 38 = .ok (.invokestatic 50, 3) := by decide +kernel
theorem dX7_measure_41 : decode cX7_measure 41 = .ok (.aload_n 0, 1) := by decide +kernel
theorem dX7_measure_42 : decode cX7_measure 42 = .ok (.getfield 22, 3) := by decide +kernel
theorem dX7_measure_45 : decode cX7_measure 45 = .ok (.iconst 4, 1) := by decide +kernel
theorem dX7_measure_46 : decode cX7_measure 46 = .ok (.idiv, 1) := by decide +kernel
theorem dX7_measure_47 : decode cX7_measure 47 = .ok (.isub, 1) := by decide +kernel
theorem dX7_measure_48 : decode cX7_measure 48 = .ok (.iadd, 1) := by decide +kernel
theorem dX7_measure_49 : decode cX7_measure 49 = .ok (.putfield 22, 3) := by decide +kernel
theorem dX7_measure_52 : decode cX7_measure 52 = .ok (.aload_n 0, 1) := by decide +kernel
theorem dX7_measure_53 : decode cX7_measure 53 = .ok (.dup, 1) := by decide +kernel
theorem dX7_measure_54 : decode cX7_measure 54 = .ok (.getfield 18, 3) := by decide +kernel
theorem dX7_measure_57 : decode cX7_measure 57 = .ok (.iload_n 1, 1) := by decide +kernel
theorem dX7_measure_58 : decode cX7_measure 58 = .ok (.aload_n 0, 1) := by decide +kernel
theorem dX7_measure_59 : decode cX7_measure 59 = .ok (.getfield 18, 3) := by decide +kernel
theorem dX7_measure_62 : decode cX7_measure 62 = .ok (.bipush 8, 2) := by decide +kernel
theorem dX7_measure_64 : decode cX7_measure 64 = .ok (.idiv, 1) := by decide +kernel
theorem dX7_measure_65 : decode cX7_measure 65 = .ok (.isub, 1) := by decide +kernel
theorem dX7_measure_66 : decode cX7_measure 66 = .ok (.iadd, 1) := by decide +kernel
theorem dX7_measure_67 : decode cX7_measure 67 = .ok (.putfield 18, 3) := by decide +kernel
theorem dX7_measure_70 : decode cX7_measure 70 = .ok (.goto 28, 3) := by decide +kernel
theorem dX7_measure_73 : decode cX7_measure 73 = .ok (.aload_n 0, 1) := by decide +kernel
theorem dX7_measure_74 : decode cX7_measure 74 = .ok (.iconst 1, 1) := by decide +kernel
theorem dX7_measure_75 : decode cX7_measure 75 = .ok (.putfield 41, 3) := by decide +kernel
theorem dX7_measure_78 : decode cX7_measure 78 = .ok (.aload_n 0, 1) := by decide +kernel
theorem dX7_measure_79 : decode cX7_measure 79 = .ok (.iload_n 1, 1) := by decide +kernel
theorem dX7_measure_80 : decode cX7_measure 80 = .ok (.putfield 25, 3) := by decide +kernel
theorem dX7_measure_83 : decode cX7_measure 83 = .ok (.aload_n 0, 1) := by decide +kernel
theorem dX7_measure_84 : decode cX7_measure 84 = .ok (.iconst 2, 1) := by decide +kernel
theorem dX7_measure_85 : decode cX7_measure 85 = .ok (.iload_n 1, 1) := by decide +kernel
theorem dX7_measure_86 : decode cX7_measure 86 = .ok (.imul, 1) := by decide +kernel
theorem dX7_measure_87 : decode cX7_measure 87 = .ok (.putfield 22, 3) := by decide +kernel
theorem dX7_measure_90 : decode cX7_measure 90 = .ok (.aload_n 0, 1) := by decide +kernel
theorem dX7_measure_91 : decode cX7_measure 91 = .ok (.bipush 8, 2) := by decide +kernel
theorem dX7_measure_93 : decode cX7_measure 93 = .ok (.iload_n 1, 1) := by decide +kernel
theorem dX7_measure_94 : decode cX7_measure 94 = .ok (.imul, 1) := by decide +kernel
theorem dX7_measure_95 : decode cX7_measure 95 = .ok (.putfield 18, 3) := by decide +kernel
theorem dX7_measure_98 : decode cX7_measure 98 = .ok (.return_, 1) := by decide +kernel
theorem dX7_canSend_0 : decode cX7_canSend 0 = .ok (.aload_n 0, 1) := by decide +kernel
theorem dX7_canSend_1 : decode cX7_canSend 1 = .ok (.getfield 54, 3) := by decide +kernel
theorem dX7_canSend_4 : decode cX7_canSend 4 = .ok (.iconst 1, 1) := by decide +kernel
theorem dX7_canSend_5 : decode cX7_canSend 5 = .ok (.iadd, 1) := by decide +kernel
theorem dX7_canSend_6 : decode cX7_canSend 6 = .ok (.bipush 16, 2) := by decide +kernel
theorem dX7_canSend_8 : decode cX7_canSend 8 = .ok (.imul, 1) := by decide +kernel
theorem dX7_canSend_9 : decode cX7_canSend 9 = .ok (.aload_n 0, 1) := by decide +kernel
theorem dX7_canSend_10 : decode cX7_canSend 10 = .ok (.getfield 12, 3) := by decide +kernel
theorem dX7_canSend_13 : decode cX7_canSend 13 = .ok (.getfield 57, 3) := by decide +kernel
theorem dX7_canSend_16 : decode cX7_canSend 16 = .ok (.if_icmp .gt 18, 3) := by decide +kernel
theorem dX7_canSend_19 : decode cX7_canSend 19 = .ok (.aload_n 0, 1) := by decide +kernel
theorem dX7_canSend_20 : decode cX7_canSend 20 = .ok (.getfield 60, 3) := by decide +kernel
theorem dX7_canSend_23 : decode cX7_canSend 23 = .ok (.aload_n 0, 1) := by decide +kernel
theorem dX7_canSend_24 : decode cX7_canSend 24 = .ok (.invokevirtual 63, 3) := by decide +kernel
theorem dX7_canSend_27 : decode cX7_canSend 27 = .ok (.if_icmp .ge 7, 3) := by decide +kernel
theorem dX7_canSend_30 : decode cX7_canSend 30 = .ok (.iconst 1, 1) := by decide +kernel
theorem dX7_canSend_31 : decode cX7_canSend 31 = .ok (.goto 4, 3) := by decide +kernel
theorem dX7_canSend_34 : decode cX7_canSend 34 = .ok (.iconst 0, 1) := by decide +kernel
theorem dX7_canSend_35 : decode cX7_canSend 35 = .ok (.ireturn, 1) := by decide +kernel
theorem dX7_mostPerTick_0 : decode cX7_mostPerTick 0 = .ok (.aload_n 0, 1) := by decide +kernel
theorem dX7_mostPerTick_1 : decode cX7_mostPerTick 1 = .ok (.getfield 12, 3) := by decide +kernel
theorem dX7_mostPerTick_4 : decode cX7_mostPerTick 4 = .ok (.getfield 57, 3) := by decide +kernel
theorem dX7_mostPerTick_7 : decode cX7_mostPerTick 7 = .ok (.bipush 16, 2) := by decide +kernel
theorem dX7_mostPerTick_9 : decode cX7_mostPerTick 9 = .ok (.idiv, 1) := by decide +kernel
theorem dX7_mostPerTick_10 : decode cX7_mostPerTick 10 = .ok (.iconst 2, 1) := by decide +kernel
theorem dX7_mostPerTick_11 : decode cX7_mostPerTick 11 = .ok (.imul, 1) := by decide +kernel
theorem dX7_mostPerTick_12 : decode cX7_mostPerTick 12 = .ok (.istore_n 1, 1) := by decide +kernel
theorem dX7_mostPerTick_13 : decode cX7_mostPerTick 13 = .ok (.iconst 1, 1) := by decide +kernel
theorem dX7_mostPerTick_14 : decode cX7_mostPerTick 14 = .ok (.aload_n 0, 1) := by decide +kernel
theorem dX7_mostPerTick_15 : decode cX7_mostPerTick 15 = .ok (.getfield 18, 3) := by decide +kernel
theorem dX7_mostPerTick_18 : decode cX7_mostPerTick 18 = .ok (.bipush 8, 2) := by decide +kernel
theorem dX7_mostPerTick_20 : decode cX7_mostPerTick 20 = .ok (.idiv, 1) := by decide +kernel
theorem dX7_mostPerTick_21 : decode cX7_mostPerTick 21 = .ok (.invokestatic 67, 3) := by decide +kernel
theorem dX7_mostPerTick_24 : decode cX7_mostPerTick 24 = .ok (.istore_n 2, 1) := by decide +kernel
theorem dX7_mostPerTick_25 : decode cX7_mostPerTick 25 = .ok (.iconst 2, 1) := by decide +kernel
theorem dX7_mostPerTick_26 : decode cX7_mostPerTick 26 = .ok (.iload_n 1, 1) := by decide +kernel
theorem dX7_mostPerTick_27 : decode cX7_mostPerTick 27 = .ok (.iload_n 2, 1) := by decide +kernel
theorem dX7_mostPerTick_28 : decode cX7_mostPerTick 28 = .ok (.iadd, 1) := by decide +kernel
theorem dX7_mostPerTick_29 : decode cX7_mostPerTick 29 = .ok (.iconst 1, 1) := by decide +kernel
theorem dX7_mostPerTick_30 : decode cX7_mostPerTick 30 = .ok (.isub, 1) := by decide +kernel
theorem dX7_mostPerTick_31 : decode cX7_mostPerTick 31 = .ok (.iload_n 2, 1) := by decide +kernel
theorem dX7_mostPerTick_32 : decode cX7_mostPerTick 32 = .ok (.idiv, 1) := by decide +kernel
theorem dX7_mostPerTick_33 : decode cX7_mostPerTick 33 = .ok (.invokestatic 67, 3) := by decide +kernel
theorem dX7_mostPerTick_36 : decode cX7_mostPerTick 36 = .ok (.ireturn, 1) := by decide +kernel
theorem dX7_isProbeDue_0 : decode cX7_isProbeDue 0 = .ok (.aload_n 0, 1) := by decide +kernel
theorem dX7_isProbeDue_1 : decode cX7_isProbeDue 1 = .ok (.getfield 18, 3) := by decide +kernel
theorem dX7_isProbeDue_4 : decode cX7_isProbeDue 4 = .ok (.bipush 8, 2) := by decide +kernel
theorem dX7_isProbeDue_6 : decode cX7_isProbeDue 6 = .ok (.idiv, 1) := by decide +kernel
theorem dX7_isProbeDue_7 : decode cX7_isProbeDue 7 = .ok (.iconst 1, 1) := by decide +kernel
theorem dX7_isProbeDue_8 : decode cX7_isProbeDue 8 = .ok (.aload_n 0, 1) := by decide +kernel
theorem dX7_isProbeDue_9 : decode cX7_isProbeDue 9 = .ok (.getfield 22, 3) := by decide +kernel
theorem dX7_isProbeDue_12 : decode cX7_isProbeDue 12 = .ok (.invokestatic 67, 3) := by decide +kernel
theorem dX7_isProbeDue_15 : decode cX7_isProbeDue 15 = .ok (.iadd, 1) := by decide +kernel
theorem dX7_isProbeDue_16 : decode cX7_isProbeDue 16 = .ok (.iconst 3, 1) := by decide +kernel
theorem dX7_isProbeDue_17 : decode cX7_isProbeDue 17 = .ok (.iadd, 1) := by decide +kernel
theorem dX7_isProbeDue_18 : decode cX7_isProbeDue 18 = .ok (.istore_n 2, 1) := by decide +kernel
theorem dX7_isProbeDue_19 : decode cX7_isProbeDue 19 = .ok (.aload_n 0, 1) := by decide +kernel
theorem dX7_isProbeDue_20 : decode cX7_isProbeDue 20 = .ok (.getfield 54, 3) := by decide +kernel
theorem dX7_isProbeDue_23 : decode cX7_isProbeDue 23 = .ok (.ifCond .le 27, 3) := by decide +kernel
theorem dX7_isProbeDue_26 : decode cX7_isProbeDue 26 = .ok (.iload_n 1, 1) := by decide +kernel
theorem dX7_isProbeDue_27 : decode cX7_isProbeDue 27 = .ok (.aload_n 0, 1) := by decide +kernel
theorem dX7_isProbeDue_28 : decode cX7_isProbeDue 28 = .ok (.getfield 70, 3) := by decide +kernel
theorem dX7_isProbeDue_31 : decode cX7_isProbeDue 31 = .ok (.isub, 1) := by decide +kernel
theorem dX7_isProbeDue_32 : decode cX7_isProbeDue 32 = .ok (.iload_n 2, 1) := by decide +kernel
theorem dX7_isProbeDue_33 : decode cX7_isProbeDue 33 = .ok (.aload_n 0, 1) := by decide +kernel
theorem dX7_isProbeDue_34 : decode cX7_isProbeDue 34 = .ok (.getfield 73, 3) := by decide +kernel
theorem dX7_isProbeDue_37 : decode cX7_isProbeDue 37 = .ok (.bipush 6, 2) := by decide +kernel
theorem dX7_isProbeDue_39 : decode cX7_isProbeDue 39 = .ok (.invokestatic 44, 3) := by decide +kernel
theorem dX7_isProbeDue_42 : decode cX7_isProbeDue 42 = .ok (.ishl, 1) := by decide +kernel
theorem dX7_isProbeDue_43 : decode cX7_isProbeDue 43 = .ok (.if_icmp .lt 7, 3) := by decide +kernel
theorem dX7_isProbeDue_46 : decode cX7_isProbeDue 46 = .ok (.iconst 1, 1) := by decide +kernel
theorem dX7_isProbeDue_47 : decode cX7_isProbeDue 47 = .ok (.goto 4, 3) := by decide +kernel
theorem dX7_isProbeDue_50 : decode cX7_isProbeDue 50 = .ok (.iconst 0, 1) := by decide +kernel
theorem dX7_isProbeDue_51 : decode cX7_isProbeDue 51 = .ok (.ireturn, 1) := by decide +kernel
theorem dX7_isLostByOrder_0 : decode cX7_isLostByOrder 0 = .ok (.aload_n 1, 1) := by decide +kernel
theorem dX7_isLostByOrder_1 : decode cX7_isLostByOrder 1 = .ok (.getfield 76, 3) := by decide +kernel
theorem dX7_isLostByOrder_4 : decode cX7_isLostByOrder 4 = .ok (.iconst 3, 1) := by decide +kernel
theorem dX7_isLostByOrder_5 : decode cX7_isLostByOrder 5 = .ok (.iadd, 1) := by decide +kernel
theorem dX7_isLostByOrder_6 : decode cX7_isLostByOrder 6 = .ok (.aload_n 0, 1) := by decide +kernel
theorem dX7_isLostByOrder_7 : decode cX7_isLostByOrder 7 = .ok (.getfield 31, 3) := by decide +kernel
theorem dX7_isLostByOrder_10 : decode cX7_isLostByOrder 10 = .ok (.if_icmp .gt 7, 3) := by decide +kernel
theorem dX7_isLostByOrder_13 : decode cX7_isLostByOrder 13 = .ok (.iconst 1, 1) := by decide +kernel
theorem dX7_isLostByOrder_14 : decode cX7_isLostByOrder 14 = .ok (.goto 4, 3) := by decide +kernel
theorem dX7_isLostByOrder_17 : decode cX7_isLostByOrder 17 = .ok (.iconst 0, 1) := by decide +kernel
theorem dX7_isLostByOrder_18 : decode cX7_isLostByOrder 18 = .ok (.ireturn, 1) := by decide +kernel
theorem dX7_isLostByTime_0 : decode cX7_isLostByTime 0 = .ok (.iconst 1, 1) := by decide +kernel
theorem dX7_isLostByTime_1 : decode cX7_isLostByTime 1 = .ok (.bipush 9, 2) := by decide +kernel
theorem dX7_isLostByTime_3 : decode cX7_isLostByTime 3 = .ok (.aload_n 0, 1) := by decide +kernel
theorem dX7_isLostByTime_4 : decode cX7_isLostByTime 4 = .ok (.getfield 18, 3) := by decide +kernel
theorem dX7_isLostByTime_7 : decode cX7_isLostByTime 7 = .ok (.bipush 8, 2) := by decide +kernel
theorem dX7_isLostByTime_9 : decode cX7_isLostByTime 9 = .ok (.idiv, 1) := by decide +kernel
theorem dX7_isLostByTime_10 : decode cX7_isLostByTime 10 = .ok (.aload_n 0, 1) := by decide +kernel
theorem dX7_isLostByTime_11 : decode cX7_isLostByTime 11 = .ok (.getfield 28, 3) := by decide +kernel
theorem dX7_isLostByTime_14 : decode cX7_isLostByTime 14 = .ok (.invokestatic 67, 3) := by decide +kernel
theorem dX7_isLostByTime_17 : decode cX7_isLostByTime 17 = .ok (.imul, 1) := by decide +kernel
theorem dX7_isLostByTime_18 : decode cX7_isLostByTime 18 = .ok (.bipush 8, 2) := by decide +kernel
theorem dX7_isLostByTime_20 : decode cX7_isLostByTime 20 = .ok (.idiv, 1) := by decide +kernel
theorem dX7_isLostByTime_21 : decode cX7_isLostByTime 21 = .ok (.invokestatic 67, 3) := by decide +kernel
theorem dX7_isLostByTime_24 : decode cX7_isLostByTime 24 = .ok (.istore_n 3, 1) := by decide +kernel
theorem dX7_isLostByTime_25 : decode cX7_isLostByTime 25 = .ok (.aload_n 1, 1) := by decide +kernel
theorem dX7_isLostByTime_26 : decode cX7_isLostByTime 26 = .ok (.getfield 76, 3) := by decide +kernel
theorem dX7_isLostByTime_29 : decode cX7_isLostByTime 29 = .ok (.aload_n 0, 1) := by decide +kernel
theorem dX7_isLostByTime_30 : decode cX7_isLostByTime 30 = .ok (.getfield 31, 3) := by decide +kernel
theorem dX7_isLostByTime_33 : decode cX7_isLostByTime 33 = .ok (.if_icmp .ge 17, 3) := by decide +kernel
theorem dX7_isLostByTime_36 : decode cX7_isLostByTime 36 = .ok (.iload_n 2, 1) := by decide +kernel
theorem dX7_isLostByTime_37 : decode cX7_isLostByTime 37 = .ok (.aload_n 1, 1) := by decide +kernel
theorem dX7_isLostByTime_38 : decode cX7_isLostByTime 38 = .ok (.getfield 81, 3) := by decide +kernel
theorem dX7_isLostByTime_41 : decode cX7_isLostByTime 41 = .ok (.isub, 1) := by decide +kernel
theorem dX7_isLostByTime_42 : decode cX7_isLostByTime 42 = .ok (.iload_n 3, 1) := by decide +kernel
theorem dX7_isLostByTime_43 : decode cX7_isLostByTime 43 = .ok (.if_icmp .lt 7, 3) := by decide +kernel
theorem dX7_isLostByTime_46 : decode cX7_isLostByTime 46 = .ok (.iconst 1, 1) := by decide +kernel
theorem dX7_isLostByTime_47 : decode cX7_isLostByTime 47 = .ok (.goto 4, 3) := by decide +kernel
theorem dX7_isLostByTime_50 : decode cX7_isLostByTime 50 = .ok (.iconst 0, 1) := by decide +kernel
theorem dX7_isLostByTime_51 : decode cX7_isLostByTime 51 = .ok (.ireturn, 1) := by decide +kernel
theorem dX8_init_0 : decode cX8_init 0 = .ok (.aload_n 0, 1) := by decide +kernel
theorem dX8_init_1 : decode cX8_init 1 = .ok (.invokespecial 3, 3) := by decide +kernel
theorem dX8_init_4 : decode cX8_init 4 = .ok (.aload_n 0, 1) := by decide +kernel
theorem dX8_init_5 : decode cX8_init 5 = .ok (.iconst 0, 1) := by decide +kernel
theorem dX8_init_6 : decode cX8_init 6 = .ok (.putfield 9, 3) := by decide +kernel
theorem dX8_init_9 : decode cX8_init 9 = .ok (.aload_n 0, 1) := by decide +kernel
theorem dX8_init_10 : decode cX8_init 10 = .ok (.bipush 10, 2) := by decide +kernel
theorem dX8_init_12 : decode cX8_init 12 = .ok (.newarray .boolean, 2) := by decide +kernel
theorem dX8_init_14 : decode cX8_init 14 = .ok (.putfield 15, 3) := by decide +kernel
theorem dX8_init_17 : decode cX8_init 17 = .ok (.aload_n 0, 1) := by decide +kernel
theorem dX8_init_18 : decode cX8_init 18 = .ok (.iconst (-1), 1) := by decide +kernel
theorem dX8_init_19 : decode cX8_init 19 = .ok (.putfield 19, 3) := by decide +kernel
theorem dX8_init_22 : decode cX8_init 22 = .ok (.aload_n 0, 1) := by decide +kernel
theorem dX8_init_23 : decode cX8_init 23 = .ok (.sipush 400, 3) := by decide +kernel
theorem dX8_init_26 : decode cX8_init 26 = .ok (.newarray .boolean, 2) := by decide +kernel
theorem dX8_init_28 : decode cX8_init 28 = .ok (.putfield 22, 3) := by decide +kernel
theorem dX8_init_31 : decode cX8_init 31 = .ok (.aload_n 0, 1) := by decide +kernel
theorem dX8_init_32 : decode cX8_init 32 = .ok (.iconst (-1), 1) := by decide +kernel
theorem dX8_init_33 : decode cX8_init 33 = .ok (.putfield 25, 3) := by decide +kernel
theorem dX8_init_36 : decode cX8_init 36 = .ok (.aload_n 0, 1) := by decide +kernel
theorem dX8_init_37 : decode cX8_init 37 = .ok (.iconst (-1), 1) := by decide +kernel
theorem dX8_init_38 : decode cX8_init 38 = .ok (.putfield 28, 3) := by decide +kernel
theorem dX8_init_41 : decode cX8_init 41 = .ok (.aload_n 0, 1) := by decide +kernel
theorem dX8_init_42 : decode cX8_init 42 = .ok (.iconst (-1), 1) := by decide +kernel
theorem dX8_init_43 : decode cX8_init 43 = .ok (.putfield 31, 3) := by decide +kernel
theorem dX8_init_46 : decode cX8_init 46 = .ok (.aload_n 0, 1) := by decide +kernel
theorem dX8_init_47 : decode cX8_init 47 = .ok (.aload_n 1, 1) := by decide +kernel
theorem dX8_init_48 : decode cX8_init 48 = .ok (.putfield 34, 3) := by decide +kernel
theorem dX8_init_51 : decode cX8_init 51 = .ok (.aload_n 0, 1) := by decide +kernel
theorem dX8_init_52 : decode cX8_init 52 = .ok (.aload_n 2, 1) := by decide +kernel
theorem dX8_init_53 : decode cX8_init 53 = .ok (.putfield 38, 3) := by decide +kernel
theorem dX8_init_56 : decode cX8_init 56 = .ok (.return_, 1) := by decide +kernel
theorem dX8_readBytes_0 : decode cX8_readBytes 0 = .ok (.iconst 0, 1) := by decide +kernel
theorem dX8_readBytes_1 : decode cX8_readBytes 1 = .ok (.iload_n 2, 1) := by decide +kernel
theorem dX8_readBytes_2 : decode cX8_readBytes 2 = .ok (.aload_n 1, 1) := by decide +kernel
theorem dX8_readBytes_3 : decode cX8_readBytes 3 = .ok (.getfield 42, 3) := by decide +kernel
theorem dX8_readBytes_6 : decode cX8_readBytes 6 = .ok (.aload_n 1, 1) := by decide +kernel
theorem dX8_readBytes_7 : decode cX8_readBytes 7 = .ok (.getfield 47, 3) := by decide +kernel
theorem dX8_readBytes_10 : decode cX8_readBytes 10 = .ok (.isub, 1) := by decide +kernel
theorem dX8_readBytes_11 : decode cX8_readBytes 11 = .ok (.invokestatic 50, 3) := by decide +kernel
theorem dX8_readBytes_14 : decode cX8_readBytes 14 = .ok (.invokestatic 56, 3) := by decide +kernel
theorem dX8_readBytes_17 : decode cX8_readBytes 17 = .ok (.istore_n 3, 1) := by decide +kernel
theorem dX8_readBytes_18 : decode cX8_readBytes 18 = .ok (.aload_n 1, 1) := by decide +kernel
theorem dX8_readBytes_19 : decode cX8_readBytes 19 = .ok (.dup, 1) := by decide +kernel
theorem dX8_readBytes_20 : decode cX8_readBytes 20 = .ok (.getfield 47, 3) := by decide +kernel
theorem dX8_readBytes_23 : decode cX8_readBytes 23 = .ok (.iload_n 3, 1) := by decide +kernel
theorem dX8_readBytes_24 : decode cX8_readBytes 24 = .ok (.iadd, 1) := by decide +kernel
theorem dX8_readBytes_25 : decode cX8_readBytes 25 = .ok (.putfield 47, 3) := by decide +kernel
theorem dX8_readBytes_28 : decode cX8_readBytes 28 = .ok (.iload_n 3, 1) := by decide +kernel
theorem dX8_readBytes_29 : decode cX8_readBytes 29 = .ok (.ifCond .le 7, 3) := by decide +kernel
theorem dX8_readBytes_32 : decode cX8_readBytes 32 = .ok (.aload_n 0, 1) := by decide +kernel
theorem dX8_readBytes_33 : decode cX8_readBytes 33 = .ok (.invokevirtual 59, 3) := by decide +kernel
theorem dX8_readBytes_36 : decode cX8_readBytes 36 = .ok (.iload_n 3, 1) := by decide +kernel
theorem dX8_readBytes_37 : decode cX8_readBytes 37 = .ok (.ireturn, 1) := by decide +kernel
theorem dX8_forget_0 : decode cX8_forget 0 = .ok (.aload_n 0, 1) := by decide +kernel
theorem dX8_forget_1 : decode cX8_forget 1 = .ok (.iconst 3, 1) := by decide +kernel
theorem dX8_forget_2 : decode cX8_forget 2 = .ok (.putfield 9, 3) := by decide +kernel
theorem dX8_forget_5 : decode cX8_forget 5 = .ok (.aload_n 0, 1) := by decide +kernel
theorem dX8_forget_6 : decode cX8_forget 6 = .ok (.iconst 0, 1) := by decide +kernel
theorem dX8_forget_7 : decode cX8_forget 7 = .ok (.putfield 62, 3) := by decide +kernel
theorem dX8_forget_10 : decode cX8_forget 10 = .ok (.aload_n 0, 1) := by decide +kernel
theorem dX8_forget_11 : decode cX8_forget 11 = .ok (.getfield 22, 3) := by decide +kernel
theorem dX8_forget_14 : decode cX8_forget 14 = .ok (.invokestatic 66, 3) := by decide +kernel
theorem dX8_forget_17 : decode cX8_forget 17 = .ok (.aload_n 0, 1) := by decide +kernel
theorem dX8_forget_18 : decode cX8_forget 18 = .ok (.iconst (-1), 1) := by decide +kernel
theorem dX8_forget_19 : decode cX8_forget 19 = .ok (.putfield 25, 3) := by decide +kernel
theorem dX8_forget_22 : decode cX8_forget 22 = .ok (.aload_n 0, 1) := by decide +kernel
theorem dX8_forget_23 : decode cX8_forget 23 = .ok (.iconst 0, 1) := by decide +kernel
theorem dX8_forget_24 : decode cX8_forget 24 = .ok (.putfield 70, 3) := by decide +kernel
theorem dX8_forget_27 : decode cX8_forget 27 = .ok (.aload_n 0, 1) := by decide +kernel
theorem dX8_forget_28 : decode cX8_forget 28 = .ok (.iconst 0, 1) := by decide +kernel
theorem dX8_forget_29 : decode cX8_forget 29 = .ok (.putfield 73, 3) := by decide +kernel
theorem dX8_forget_32 : decode cX8_forget 32 = .ok (.aload_n 0, 1) := by decide +kernel
theorem dX8_forget_33 : decode cX8_forget 33 = .ok (.iconst (-1), 1) := by decide +kernel
theorem dX8_forget_34 : decode cX8_forget 34 = .ok (.putfield 28, 3) := by decide +kernel
theorem dX8_forget_37 : decode cX8_forget 37 = .ok (.aload_n 0, 1) := by decide +kernel
theorem dX8_forget_38 : decode cX8_forget 38 = .ok (.iconst (-1), 1) := by decide +kernel
theorem dX8_forget_39 : decode cX8_forget 39 = .ok (.putfield 31, 3) := by decide +kernel
theorem dX8_forget_42 : decode cX8_forget 42 = .ok (.return_, 1) := by decide +kernel
theorem dX8_hearAll_0 : decode cX8_hearAll 0 = .ok (.aload_n 0, 1) := by decide +kernel
theorem dX8_hearAll_1 : decode cX8_hearAll 1 = .ok (.getfield 34, 3) := by decide +kernel
theorem dX8_hearAll_4 : decode cX8_hearAll 4 = .ok (.getfield 76, 3) := by decide +kernel
theorem dX8_hearAll_7 : decode cX8_hearAll 7 = .ok (.getfield 82, 3) := by decide +kernel
theorem dX8_hearAll_10 : decode cX8_hearAll 10 = .ok (.istore_n 1, 1) := by decide +kernel
theorem dX8_hearAll_11 : decode cX8_hearAll 11 = .ok (.iload_n 1, 1) := by decide +kernel
theorem dX8_hearAll_12 : decode cX8_hearAll 12 = .ok (.ifCond .le 39, 3) := by decide +kernel
theorem dX8_hearAll_15 : decode cX8_hearAll 15 = .ok (.aload_n 0, 1) := by decide +kernel
theorem dX8_hearAll_16 : decode cX8_hearAll 16 = .ok (.getfield 34, 3) := by decide +kernel
theorem dX8_hearAll_19 : decode cX8_hearAll 19 = .ok (.getfield 76, 3) := by decide +kernel
theorem dX8_hearAll_22 : decode cX8_hearAll 22 = .ok (.aload_n 0, 1) := by decide +kernel
theorem dX8_hearAll_23 : decode cX8_hearAll 23 = .ok (.getfield 34, 3) := by decide +kernel
theorem dX8_hearAll_26 : decode cX8_hearAll 26 = .ok (.getfield 87, 3) := by decide +kernel
theorem dX8_hearAll_29 : decode cX8_hearAll 29 = .ok (.invokevirtual 90, 3) := by decide +kernel
theorem dX8_hearAll_32 : decode cX8_hearAll 32 = .ok (.astore_n 2, 1) := by decide +kernel
theorem dX8_hearAll_33 : decode cX8_hearAll 33 = .ok (.aload_n 2, 1) := by decide +kernel
theorem dX8_hearAll_34 : decode cX8_hearAll 34 = .ok (.ifnonnull 6, 3) := by decide +kernel
theorem dX8_hearAll_37 : decode cX8_hearAll 37 = .ok (.goto 14, 3) := by decide +kernel
theorem dX8_hearAll_40 : decode cX8_hearAll 40 = .ok (.aload_n 0, 1) := by decide +kernel
theorem dX8_hearAll_41 : decode cX8_hearAll 41 = .ok (.aload_n 2, 1) := by decide +kernel
theorem dX8_hearAll_42 : decode cX8_hearAll 42 = .ok (.invokevirtual 94, 3) := by decide +kernel
theorem dX8_hearAll_45 : decode cX8_hearAll 45 = .ok (.iinc 1 (-1), 3) := by decide +kernel
theorem dX8_hearAll_48 : decode cX8_hearAll 48 = .ok (.goto (-37), 3) := by decide +kernel
theorem dX8_hearAll_51 : decode cX8_hearAll 51 = .ok (.return_, 1) := by decide +kernel
theorem dX8_hear_0 : decode cX8_hear 0 = .ok (.aload_n 1, 1) := by decide +kernel
theorem dX8_hear_1 : decode cX8_hear 1 = .ok (.getfield 98, 3) := by decide +kernel
theorem dX8_hear_4 : decode cX8_hear 4 = .ok (.ifnull 11, 3) := by decide +kernel
theorem dX8_hear_7 : decode cX8_hear 7 = .ok (.aload_n 1, 1) := by decide +kernel
theorem dX8_hear_8 : decode cX8_hear 8 = .ok (.getfield 98, 3) := by decide +kernel
theorem dX8_hear_11 : decode cX8_hear 11 = .ok (.iconst 2, 1) := by decide +kernel
theorem dX8_hear_12 : decode cX8_hear 12 = .ok (.putfield 104, 3) := by decide +kernel
theorem dX8_hear_15 : decode cX8_hear 15 = .ok (.aload_n 0, 1) := by decide +kernel
theorem dX8_hear_16 : decode cX8_hear 16 = .ok (.getfield 9, 3) := by decide +kernel
theorem dX8_hear_19 : decode cX8_hear 19 = .ok (.iconst 2, 1) := by decide +kernel
theorem dX8_hear_20 : decode cX8_hear 20 = .ok (.if_icmp .ne 4, 3) := by decide +kernel
theorem dX8_hear_23 : decode cX8_hear 23 = .ok (.return_, 1) := by decide +kernel
theorem dX8_hear_24 : decode cX8_hear 24 = .ok (.aload_n 1, 1) := by decide +kernel
theorem dX8_hear_25 : decode cX8_hear 25 = .ok (.getfield 109, 3) := by decide +kernel
theorem dX8_hear_28 : decode cX8_hear 28 = .ok (.ifCond .ne 11, 3) := by decide +kernel
theorem dX8_hear_31 : decode cX8_hear 31 = .ok (.aload_n 0, 1) := by decide +kernel
theorem dX8_hear_32 : decode cX8_hear 32 = .ok (.aload_n 1, 1) := by decide +kernel
theorem dX8_hear_33 : decode cX8_hear 33 = .ok (.invokevirtual 112, 3) := by decide +kernel
theorem dX8_hear_36 : decode cX8_hear 36 = .ok (.goto 47, 3) := by decide +kernel
theorem dX8_hear_39 : decode cX8_hear 39 = .ok (.aload_n 0, 1) := by decide +kernel
theorem dX8_hear_40 : decode cX8_hear 40 = .ok (.getfield 9, 3) := by decide +kernel
theorem dX8_hear_43 : decode cX8_hear 43 = .ok (.iconst 3, 1) := by decide +kernel
theorem dX8_hear_44 : decode cX8_hear 44 = .ok (.if_icmp .ne 26, 3) := by decide +kernel
theorem dX8_hear_47 : decode cX8_hear 47 = .ok (.aload_n 0, 1) := by decide +kernel
theorem dX8_hear_48 : decode cX8_hear 48 = .ok (.getfield 34, 3) := by decide +kernel
theorem dX8_hear_51 : decode cX8_hear 51 = .ok (.aload_n 1, 1) := by decide +kernel
theorem dX8_hear_52 : decode cX8_hear 52 = .ok (.getfield 115, 3) := by decide +kernel
theorem dX8_hear_55 : decode cX8_hear 55 = .ok (.new 99, 3) := by decide +kernel
theorem dX8_hear_58 : decode cX8_hear 58 = .ok (.dup, 1) := by decide +kernel
theorem dX8_hear_59 : decode cX8_hear 59 = .ok (.bipush 8, 2) := by decide +kernel
theorem dX8_hear_61 : decode cX8_hear 61 = .ok (.invokespecial 118, 3) := by decide +kernel
theorem dX8_hear_64 : decode cX8_hear 64 = .ok (.invokevirtual 121, 3) := by decide +kernel
theorem dX8_hear_67 : decode cX8_hear 67 = .ok (.goto 16, 3) := by decide +kernel
theorem dX8_hear_70 : decode cX8_hear 70 = .ok (.aload_n 0, 1) := by decide +kernel
theorem dX8_hear_71 : decode cX8_hear 71 = .ok (.getfield 9, 3) := by decide +kernel
theorem dX8_hear_74 : decode cX8_hear 74 = .ok (.iconst 1, 1) := by decide +kernel
theorem dX8_hear_75 : decode cX8_hear 75 = .ok (.if_icmp .ne 8, 3) := by decide +kernel
theorem dX8_hear_78 : decode cX8_hear 78 = .ok (.aload_n 0, 1) := by decide +kernel
theorem dX8_hear_79 : decode cX8_hear 79 = .ok (.aload_n 1, 1) := by decide +kernel
theorem dX8_hear_80 : decode cX8_hear 80 = .ok (.invokevirtual 125, 3) := by decide +kernel
theorem dX8_hear_83 : decode cX8_hear 83 = .ok (.return_, 1) := by decide +kernel
theorem dX8_hearHello_0 : decode cX8_hearHello 0 = .ok (.aload_n 0, 1) := by decide +kernel
theorem dX8_hearHello_1 : decode cX8_hearHello 1 = .ok (.getfield 9, 3) := by decide +kernel
theorem dX8_hearHello_4 : decode cX8_hearHello 4 = .ok (.iconst 1, 1) := by decide +kernel
theorem dX8_hearHello_5 : decode cX8_hearHello 5 = .ok (.if_icmp .eq 54, 3) := by decide +kernel
theorem dX8_hearHello_8 : decode cX8_hearHello 8 = .ok (.aload_n 0, 1) := by decide +kernel
theorem dX8_hearHello_9 : decode cX8_hearHello 9 = .ok (.getfield 128, 3) := by decide +kernel
theorem dX8_hearHello_12 : decode cX8_hearHello 12 = .ok (.ifCond .eq 30, 3) := by decide +kernel
theorem dX8_hearHello_15 : decode cX8_hearHello 15 = .ok (.aload_n 1, 1) := by decide +kernel
theorem dX8_hearHello_16 : decode cX8_hearHello 16 = .ok (.getfield 131, 3) := by decide +kernel
theorem dX8_hearHello_19 : decode cX8_hearHello 19 = .ok (.ifCond .ne 23, 3) := by decide +kernel
theorem dX8_hearHello_22 : decode cX8_hearHello 22 = .ok (.aload_n 0, 1) := by decide +kernel
theorem dX8_hearHello_23 : decode cX8_hearHello 23 = .ok (.getfield 34, 3) := by decide +kernel
theorem dX8_hearHello_26 : decode cX8_hearHello 26 = .ok (.aload_n 1, 1) := by decide +kernel
theorem dX8_hearHello_27 : decode cX8_hearHello 27 = .ok (.getfield 115, 3) := by decide +kernel
theorem dX8_hearHello_30 : decode cX8_hearHello 30 = .ok (.new 99, 3) := by decide +kernel
theorem dX8_hearHello_33 : decode cX8_hearHello 33 = .ok (.dup, 1) := by decide +kernel
theorem dX8_hearHello_34 : decode cX8_hearHello 34 = .ok (.iconst 1, 1) := by decide +kernel
theorem dX8_hearHello_35 : decode cX8_hearHello 35 = .ok (.invokespecial 118, 3) := by decide +kernel
theorem dX8_hearHello_38 : decode cX8_hearHello 38 = .ok (.invokevirtual 121, 3) := by decide +kernel
theorem dX8_hearHello_41 : decode cX8_hearHello 41 = .ok (.return_, 1) := by decide +kernel
theorem dX8_hearHello_42 : decode cX8_hearHello 42 = .ok (.aload_n 0, 1) := by decide +kernel
theorem dX8_hearHello_43 : decode cX8_hearHello 43 = .ok (.iconst 1, 1) := by decide +kernel
theorem dX8_hearHello_44 : decode cX8_hearHello 44 = .ok (.putfield 9, 3) := by decide +kernel
theorem dX8_hearHello_47 : decode cX8_hearHello 47 = .ok (.aload_n 0, 1) := by decide +kernel
theorem dX8_hearHello_48 : decode cX8_hearHello 48 = .ok (.aload_n 0, 1) := by decide +kernel
theorem dX8_hearHello_49 : decode cX8_hearHello 49 = .ok (.aload_n 1, 1) := by decide +kernel
theorem dX8_hearHello_50 : decode cX8_hearHello 50 = .ok (.getfield 134, 3) := by decide +kernel
theorem dX8_hearHello_53 : decode cX8_hearHello 53 = .ok (.invokevirtual 137, 3) := by decide +kernel
theorem dX8_hearHello_56 : decode cX8_hearHello 56 = .ok (.putfield 62, 3) := by decide +kernel
theorem dX8_hearHello_59 : decode cX8_hearHello 59 = .ok (.new 99, 3) := by decide +kernel
theorem dX8_hearHello_62 : decode cX8_hearHello 62 = .ok (.dup, 1) := by decide +kernel
theorem dX8_hearHello_63 : decode cX8_hearHello 63 = .ok (.iconst 2, 1) := by decide +kernel
theorem dX8_hearHello_64 : decode cX8_hearHello 64 = .ok (.invokespecial 118, 3) := by decide +kernel
theorem dX8_hearHello_67 : decode cX8_hearHello 67 = .ok (.astore_n 2, 1) := by decide +kernel
theorem dX8_hearHello_68 : decode cX8_hearHello 68 = .ok (.aload_n 2, 1) := by decide +kernel
theorem dX8_hearHello_69 : decode cX8_hearHello 69 = .ok (.aload_n 0, 1) := by decide +kernel
theorem dX8_hearHello_70 : decode cX8_hearHello 70 = .ok (.getfield 62, 3) := by decide +kernel
theorem dX8_hearHello_73 : decode cX8_hearHello 73 = .ok (.putfield 141, 3) := by decide +kernel
theorem dX8_hearHello_76 : decode cX8_hearHello 76 = .ok (.aload_n 0, 1) := by decide +kernel
theorem dX8_hearHello_77 : decode cX8_hearHello 77 = .ok (.getfield 34, 3) := by decide +kernel
theorem dX8_hearHello_80 : decode cX8_hearHello 80 = .ok (.aload_n 1, 1) := by decide +kernel
theorem dX8_hearHello_81 : decode cX8_hearHello 81 = .ok (.getfield 115, 3) := by decide +kernel
theorem dX8_hearHello_84 : decode cX8_hearHello 84 = .ok (.aload_n 2, 1) := by decide +kernel
theorem dX8_hearHello_85 : decode cX8_hearHello 85 = .ok (.invokevirtual 121, 3) := by decide +kernel
theorem dX8_hearHello_88 : decode cX8_hearHello 88 = .ok (.return_, 1) := by decide +kernel
theorem dX8_useTicket_0 : decode cX8_useTicket 0 = .ok (.iload_n 1, 1) := by decide +kernel
theorem dX8_useTicket_1 : decode cX8_useTicket 1 = .ok (.ifCond .lt 18, 3) := by decide +kernel
theorem dX8_useTicket_4 : decode cX8_useTicket 4 = .ok (.iload_n 1, 1) := by decide +kernel
theorem dX8_useTicket_5 : decode cX8_useTicket 5 = .ok (.bipush 10, 2) := by decide +kernel
theorem dX8_useTicket_7 : decode cX8_useTicket 7 = .ok (.if_icmp .ge 12, 3) := by decide +kernel
theorem dX8_useTicket_10 : decode cX8_useTicket 10 = .ok (.aload_n 0, 1) := by decide +kernel
theorem dX8_useTicket_11 : decode cX8_useTicket 11 = .ok (.getfield 15, 3) := by decide +kernel
theorem dX8_useTicket_14 : decode cX8_useTicket 14 = .ok (.iload_n 1, 1) := by decide +kernel
theorem dX8_useTicket_15 : decode cX8_useTicket 15 = .ok (.baload, 1) := by decide +kernel
theorem dX8_useTicket_16 : decode cX8_useTicket 16 = .ok (.ifCond .eq 5, 3) := by decide +kernel
theorem dX8_useTicket_19 : decode cX8_useTicket 19 = .ok (.iconst 0, 1) := by decide +kernel
theorem dX8_useTicket_20 : decode cX8_useTicket 20 = .ok (.ireturn, 1) := by decide +kernel
theorem dX8_useTicket_21 : decode cX8_useTicket 21 = .ok (.aload_n 0, 1) := by decide +kernel
theorem dX8_useTicket_22 : decode cX8_useTicket 22 = .ok (.getfield 15, 3) := by decide +kernel
theorem dX8_useTicket_25 : decode cX8_useTicket 25 = .ok (.iload_n 1, 1) := by decide +kernel
theorem dX8_useTicket_26 : decode cX8_useTicket 26 = .ok (.iconst 1, 1) := by decide +kernel
theorem dX8_useTicket_27 : decode cX8_useTicket 27 = .ok (.bastore, 1) := by decide +kernel
theorem dX8_useTicket_28 : decode cX8_useTicket 28 = .ok (.iconst 1, 1) := by decide +kernel
theorem dX8_useTicket_29 : decode cX8_useTicket 29 = .ok (.ireturn, 1) := by decide +kernel
theorem dX8_hearWhenEstablished_0 : decode cX8_hearWhenEstablished 0 = .ok (.aload_n 1, 1) := by decide +kernel
theorem dX8_hearWhenEstablished_1 : decode cX8_hearWhenEstablished 1 = .ok (.getfield 109, 3) := by decide +kernel
theorem dX8_hearWhenEstablished_4 : decode cX8_hearWhenEstablished 4 = .ok (.iconst 5, 1) := by decide +kernel
theorem dX8_hearWhenEstablished_5 : decode cX8_hearWhenEstablished 5 = .ok (.if_icmp .ne 26, 3) := by decide +kernel
theorem dX8_hearWhenEstablished_8 : decode cX8_hearWhenEstablished 8 = .ok (.aload_n 0, 1) := by decide +kernel
theorem dX8_hearWhenEstablished_9 : decode cX8_hearWhenEstablished 9 = .ok (.getfield 34, 3) := by decide +kernel
theorem dX8_hearWhenEstablished_12 : decode cX8_hearWhenEstablished 12 = .ok (.aload_n 1, 1) := by decide +kernel
theorem dX8_hearWhenEstablished_13 : decode cX8_hearWhenEstablished 13 = .ok (.getfield 115, 3) := by decide +kernel
theorem dX8_hearWhenEstablished_16 : decode cX8_hearWhenEstablished 16 = .ok (.new 99, 3) := by decide +kernel
theorem dX8_hearWhenEstablished_19 : decode cX8_hearWhenEstablished 19 = .ok (.dup, 1) := by decide +kernel
theorem dX8_hearWhenEstablished_20 : decode cX8_hearWhenEstablished 20 = .ok (.bipush 6, 2) := by decide +kernel
theorem dX8_hearWhenEstablished_22 : decode cX8_hearWhenEstablished 22 = .ok (.invokespecial 118, 3) := by decide +kernel
theorem dX8_hearWhenEstablished_25 : decode cX8_hearWhenEstablished 25 = .ok (.invokevirtual 121, 3) := by decide +kernel
theorem dX8_hearWhenEstablished_28 : decode cX8_hearWhenEstablished 28 = .ok (.goto 43, 3) := by decide +kernel
theorem dX8_hearWhenEstablished_31 : decode cX8_hearWhenEstablished 31 = .ok (.aload_n 1, 1) := by decide +kernel
theorem dX8_hearWhenEstablished_32 : decode cX8_hearWhenEstablished 32 = .ok (.getfield 109, 3) := by decide +kernel
theorem dX8_hearWhenEstablished_35 : decode cX8_hearWhenEstablished 35 = .ok (.bipush 7, 2) := by decide +kernel
theorem dX8_hearWhenEstablished_37 : decode cX8_hearWhenEstablished 37 = .ok (.if_icmp .ne 11, 3) := by decide +kernel
theorem dX8_hearWhenEstablished_40 : decode cX8_hearWhenEstablished 40 = .ok (.aload_n 0, 1) := by decide +kernel
theorem dX8_hearWhenEstablished_41 : decode cX8_hearWhenEstablished 41 = .ok (.iconst 2, 1) := by decide +kernel
theorem dX8_hearWhenEstablished_42 : decode cX8_hearWhenEstablished 42 = .ok (.putfield 9, 3) := by decide +kernel
theorem dX8_hearWhenEstablished_45 : decode cX8_hearWhenEstablished 45 = .ok (.goto 26, 3) := by decide +kernel
theorem dX8_hearWhenEstablished_48 : decode cX8_hearWhenEstablished 48 = .ok (.aload_n 1, 1) := by decide +kernel
theorem dX8_hearWhenEstablished_49 : decode cX8_hearWhenEstablished 49 = .ok (.getfield 98, 3) := by decide +kernel
theorem dX8_hearWhenEstablished_52 : decode cX8_hearWhenEstablished 52 = .ok (.ifnull 19, 3) := by decide +kernel
theorem dX8_hearWhenEstablished_55 : decode cX8_hearWhenEstablished 55 = .ok (.aload_n 0, 1) := by decide +kernel
theorem dX8_hearWhenEstablished_56 : decode cX8_hearWhenEstablished 56 = .ok (.aload_n 1, 1) := by decide +kernel
theorem dX8_hearWhenEstablished_57 : decode cX8_hearWhenEstablished 57 = .ok (.getfield 115, 3) := by decide +kernel
theorem dX8_hearWhenEstablished_60 : decode cX8_hearWhenEstablished 60 = .ok (.putfield 31, 3) := by decide +kernel
theorem dX8_hearWhenEstablished_63 : decode cX8_hearWhenEstablished 63 = .ok (.aload_n 0, 1) := by decide +kernel
theorem dX8_hearWhenEstablished_64 : decode cX8_hearWhenEstablished 64 = .ok (.aload_n 1, 1) := by decide +kernel
theorem dX8_hearWhenEstablished_65 : decode cX8_hearWhenEstablished 65 = .ok (.getfield 98, 3) := by decide +kernel
theorem dX8_hearWhenEstablished_68 : decode cX8_hearWhenEstablished 68 = .ok (.invokevirtual 142, 3) := by decide +kernel
theorem dX8_hearWhenEstablished_71 : decode cX8_hearWhenEstablished 71 = .ok (.return_, 1) := by decide +kernel
theorem dX8_hearData_0 : decode cX8_hearData 0 = .ok (.aload_n 1, 1) := by decide +kernel
theorem dX8_hearData_1 : decode cX8_hearData 1 = .ok (.getfield 146, 3) := by decide +kernel
theorem dX8_hearData_4 : decode cX8_hearData 4 = .ok (.ifCond .eq 14, 3) := by decide +kernel
theorem dX8_hearData_7 : decode cX8_hearData 7 = .ok (.aload_n 0, 1) := by decide +kernel
theorem dX8_hearData_8 : decode cX8_hearData 8 = .ok (.getfield 62, 3) := by decide +kernel
theorem dX8_hearData_11 : decode cX8_hearData 11 = .ok (.ifCond .ne 7, 3) := by decide +kernel
theorem dX8_hearData_14 : decode cX8_hearData 14 = .ok (.iconst 1, 1) := by decide +kernel
theorem dX8_hearData_15 : decode cX8_hearData 15 = .ok (.goto 4, 3) := by decide +kernel
theorem dX8_hearData_18 : decode cX8_hearData 18 = .ok (.iconst 0, 1) := by decide +kernel
theorem dX8_hearData_19 : decode cX8_hearData 19 = .ok (.istore_n 2, 1) := by decide +kernel
theorem dX8_hearData_20 : decode cX8_hearData 20 = .ok (.aload_n 1, 1) := by decide +kernel
theorem dX8_hearData_21 : decode cX8_hearData 21 = .ok (.getfield 149, 3) := by decide +kernel
theorem dX8_hearData_24 : decode cX8_hearData 24 = .ok (.istore_n 3, 1) := by decide +kernel
theorem dX8_hearData_25 : decode cX8_hearData 25 = .ok (.iload_n 2, 1) := by decide +kernel
theorem dX8_hearData_26 : decode cX8_hearData 26 = .ok (.ifCond .ne 25, 3) := by decide +kernel
theorem dX8_hearData_29 : decode cX8_hearData 29 = .ok (.aload_n 0, 1) := by decide +kernel
theorem dX8_hearData_30 : decode cX8_hearData 30 = .ok (.aload_n 1, 1) := by decide +kernel
theorem dX8_hearData_31 : decode cX8_hearData 31 = .ok (.getfield 152, 3) := by decide +kernel
theorem dX8_hearData_34 : decode cX8_hearData 34 = .ok (.invokevirtual 155, 3) := by decide +kernel
theorem dX8_hearData_37 : decode cX8_hearData 37 = .ok (.ifCond .eq 14, 3) := by decide +kernel
theorem dX8_hearData_40 : decode cX8_hearData 40 = .ok (.iload_n 3, 1) := by decide +kernel
theorem dX8_hearData_41 : decode cX8_hearData 41 = .ok (.ifCond .lt 10, 3) := by decide +kernel
theorem dX8_hearData_44 : decode cX8_hearData 44 = .ok (.iload_n 3, 1) := by decide +kernel
theorem dX8_hearData_45 : decode cX8_hearData 45 = .ok (.sipush 400, 3) := by decide +kernel
theorem dX8_hearData_48 : decode cX8_hearData 48 = .ok (.if_icmp .lt 4, 3) := by decide +kernel
theorem dX8_hearData_51 : decode cX8_hearData 51 = .ok (.return_, 1) := by decide +kernel
theorem dX8_hearData_52 : decode cX8_hearData 52 = .ok (.aload_n 1, 1) := by decide +kernel
theorem dX8_hearData_53 : decode cX8_hearData 53 = .ok (.iconst 1, 1) := by decide +kernel
theorem dX8_hearData_54 : decode cX8_hearData 54 = .ok (.putfield 104, 3) := by decide +kernel
theorem dX8_hearData_57 : decode cX8_hearData 57 = .ok (.aload_n 1, 1) := by decide +kernel
theorem dX8_hearData_58 : decode cX8_hearData 58 = .ok (.getfield 158, 3) := by decide +kernel
theorem dX8_hearData_61 : decode cX8_hearData 61 = .ok (.ifCond .lt 31, 3) := by decide +kernel
theorem dX8_hearData_64 : decode cX8_hearData 64 = .ok (.aload_n 1, 1) := by decide +kernel
theorem dX8_hearData_65 : decode cX8_hearData 65 = .ok (.getfield 158, 3) := by decide +kernel
theorem dX8_hearData_68 : decode cX8_hearData 68 = .ok (.iconst 4, 1) := by decide +kernel
theorem dX8_hearData_69 : decode cX8_hearData 69 = .ok (.if_icmp .ge 23, 3) := by decide +kernel
theorem dX8_hearData_72 : decode cX8_hearData 72 = .ok (.aload_n 0, 1) := by decide +kernel
theorem dX8_hearData_73 : decode cX8_hearData 73 = .ok (.getfield 38, 3) := by decide +kernel
theorem dX8_hearData_76 : decode cX8_hearData 76 = .ok (.aload_n 1, 1) := by decide +kernel
theorem dX8_hearData_77 : decode cX8_hearData 77 = .ok (.getfield 158, 3) := by decide +kernel
theorem dX8_hearData_80 : decode cX8_hearData 80 = .ok (.aaload, 1) := by decide +kernel
theorem dX8_hearData_81 : decode cX8_hearData 81 = .ok (.aload_n 1, 1) := by decide +kernel
theorem dX8_hearData_82 : decode cX8_hearData 82 = .ok (.getfield 161, 3) := by decide +kernel
theorem dX8_hearData_85 : decode cX8_hearData 85 = .ok (.aload_n 1, 1) := by decide +kernel
theorem dX8_hearData_86 : decode cX8_hearData 86 = .ok (.getfield 164, 3) := by decide +kernel
theorem dX8_hearData_89 : decode cX8_hearData 89 = .ok (.invokevirtual 167, 3) := by decide +kernel
theorem dX8_hearData_92 : decode cX8_hearData 92 = .ok (.aload_n 1, 1) := by decide +kernel
theorem dX8_hearData_93 : decode cX8_hearData 93 = .ok (.getfield 171, 3) := by decide +kernel
theorem dX8_hearData_96 : decode cX8_hearData 96 = .ok (.ifCond .ne 20, 3) := by decide +kernel
theorem dX8_hearData_99 : decode cX8_hearData 99 = .ok (.iload_n 3, 1) := by decide +kernel
theorem dX8_hearData_100 : decode cX8_hearData 100 = .ok (.aload_n 0, 1) := by decide +kernel
theorem dX8_hearData_101 : decode cX8_hearData 101 = .ok (.getfield 25, 3) := by decide +kernel
theorem dX8_hearData_104 : decode cX8_hearData 104 = .ok (.iconst 1, 1) := by decide +kernel
theorem dX8_hearData_105 : decode cX8_hearData 105 = .ok (.iadd, 1) := by decide +kernel
theorem dX8_hearData_106 : decode cX8_hearData 106 = .ok (.if_icmp .ne 10, 3) := by decide +kernel
theorem dX8_hearData_109 : decode cX8_hearData 109 = .ok (.aload_n 0, 1) := by decide +kernel
theorem dX8_hearData_110 : decode cX8_hearData 110 = .ok (.getfield 73, 3) := by decide +kernel
theorem dX8_hearData_113 : decode cX8_hearData 113 = .ok (.ifCond .le 7, 3) := by decide +kernel
theorem dX8_hearData_116 : decode cX8_hearData 116 = .ok (.iconst 1, 1) := by decide +kernel
theorem dX8_hearData_117 : decode cX8_hearData 117 = .ok (.goto 4, 3) := by decide +kernel
theorem dX8_hearData_120 : decode cX8_hearData 120 = .ok (.iconst 0, 1) := by decide +kernel
theorem dX8_hearData_121 : decode cX8_hearData 121 = .ok (.istore 4, 2) := by decide +kernel
theorem dX8_hearData_123 : decode cX8_hearData 123 = .ok (.aload_n 0, 1) := by decide +kernel
theorem dX8_hearData_124 : decode cX8_hearData 124 = .ok (.getfield 22, 3) := by decide +kernel
theorem dX8_hearData_127 : decode cX8_hearData 127 = .ok (.iload_n 3, 1) := by decide +kernel
theorem dX8_hearData_128 : decode cX8_hearData 128 = .ok (.iconst 1, 1) := by decide +kernel
theorem dX8_hearData_129 : decode cX8_hearData 129 = .ok (.bastore, 1) := by decide +kernel
theorem dX8_hearData_130 : decode cX8_hearData 130 = .ok (.aload_n 0, 1) := by decide +kernel
theorem dX8_hearData_131 : decode cX8_hearData 131 = .ok (.aload_n 0, 1) := by decide +kernel
theorem dX8_hearData_132 : decode cX8_hearData 132 = .ok (.getfield 25, 3) := by decide +kernel
theorem dX8_hearData_135 : decode cX8_hearData 135 = .ok (.iload_n 3, 1) := by decide +kernel
theorem dX8_hearData_136 : decode cX8_hearData 136 = .ok (.invokestatic 56, 3) := by decide +kernel
theorem dX8_hearData_139 : decode cX8_hearData 139 = .ok (.putfield 25, 3) := by decide +kernel
theorem dX8_hearData_142 : decode cX8_hearData 142 = .ok (.aload_n 0, 1) := by decide +kernel
theorem dX8_hearData_143 : decode cX8_hearData 143 = .ok (.dup, 1) := by decide +kernel
theorem dX8_hearData_144 : decode cX8_hearData 144 = .ok (.getfield 73, 3) := by decide +kernel
theorem dX8_hearData_147 : decode cX8_hearData 147 = .ok (.iconst 1, 1) := by decide +kernel
theorem dX8_hearData_148 : decode cX8_hearData 148 = .ok (.iadd, 1) := by decide +kernel
theorem dX8_hearData_149 : decode cX8_hearData 149 = .ok (.putfield 73, 3) := by decide +kernel
theorem dX8_hearData_152 : decode cX8_hearData 152 = .ok (.aload_n 1, 1) := by decide +kernel
theorem dX8_hearData_153 : decode cX8_hearData 153 = .ok (.getfield 174, 3) := by decide +kernel
theorem dX8_hearData_156 : decode cX8_hearData 156 = .ok (.ifCond .eq 13, 3) := by decide +kernel
theorem dX8_hearData_159 : decode cX8_hearData 159 = .ok (.aload_n 0, 1) := by decide +kernel
theorem dX8_hearData_160 : decode cX8_hearData 160 = .ok (.dup, 1) := by decide +kernel
theorem dX8_hearData_161 : decode cX8_hearData 161 = .ok (.getfield 70, 3) := by decide +kernel
theorem dX8_hearData_164 : decode cX8_hearData 164 = .ok (.iconst 1, 1) := by decide +kernel
theorem dX8_hearData_165 : decode cX8_hearData 165 = .ok (.iadd, 1) := by decide +kernel
theorem dX8_hearData_166 : decode cX8_hearData 166 = .ok (.putfield 70, 3) := by decide +kernel
theorem dX8_hearData_169 : decode cX8_hearData 169 = .ok (.iload 4, 2) := by decide +kernel
theorem dX8_hearData_171 : decode cX8_hearData 171 = .ok (.ifCond .eq 10, 3) := by decide +kernel
theorem dX8_hearData_174 : decode cX8_hearData 174 = .ok (.aload_n 0, 1) := by decide +kernel
theorem dX8_hearData_175 : decode cX8_hearData 175 = .ok (.invokevirtual 59, 3) := by decide +kernel
theorem dX8_hearData_178 : decode cX8_hearData 178 = .ok (.goto 16, 3) := by decide +kernel
theorem dX8_hearData_181 : decode cX8_hearData 181 = .ok (.aload_n 0, 1) := by decide +kernel
theorem dX8_hearData_182 : decode cX8_hearData 182 = .ok (.aload_n 0, 1) := by decide +kernel
theorem dX8_hearData_183 : decode cX8_hearData 183 = .ok (.getfield 34, 3) := by decide +kernel
theorem dX8_hearData_186 : decode cX8_hearData 186 = .ok (.getfield 87, 3) := by decide +kernel
theorem dX8_hearData_189 : decode cX8_hearData 189 = .ok (.iconst 3, 1) := by decide +kernel
theorem dX8_hearData_190 : decode cX8_hearData 190 = .ok (.iadd, 1) := by decide +kernel
theorem dX8_hearData_191 : decode cX8_hearData 191 = .ok (.putfield 28, 3) := by decide +kernel
theorem dX8_hearData_194 : decode cX8_hearData 194 = .ok (.return_, 1) := by decide +kernel
theorem dX8_takesKey_0 : decode cX8_takesKey 0 = .ok (.iload_n 1, 1) := by decide +kernel
theorem dX8_takesKey_1 : decode cX8_takesKey 1 = .ok (.aload_n 0, 1) := by decide +kernel
theorem dX8_takesKey_2 : decode cX8_takesKey 2 = .ok (.getfield 177, 3) := by decide +kernel
theorem dX8_takesKey_5 : decode cX8_takesKey 5 = .ok (.if_icmp .le 30, 3) := by decide +kernel
theorem dX8_takesKey_8 : decode cX8_takesKey 8 = .ok (.aload_n 0, 1) := by decide +kernel
theorem dX8_takesKey_9 : decode cX8_takesKey 9 = .ok (.aload_n 0, 1) := by decide +kernel
theorem dX8_takesKey_10 : decode cX8_takesKey 10 = .ok (.getfield 177, 3) := by decide +kernel
theorem dX8_takesKey_13 : decode cX8_takesKey 13 = .ok (.putfield 19, 3) := by decide +kernel
theorem dX8_takesKey_16 : decode cX8_takesKey 16 = .ok (.aload_n 0, 1) := by decide +kernel
theorem dX8_takesKey_17 : decode cX8_takesKey 17 = .ok (.aload_n 0, 1) := by decide +kernel
theorem dX8_takesKey_18 : decode cX8_takesKey 18 = .ok (.getfield 34, 3) := by decide +kernel
theorem dX8_takesKey_21 : decode cX8_takesKey 21 = .ok (.getfield 87, 3) := by decide +kernel
theorem dX8_takesKey_24 : decode cX8_takesKey 24 = .ok (.bipush 8, 2) := by decide +kernel
theorem dX8_takesKey_26 : decode cX8_takesKey 26 = .ok (.iadd, 1) := by decide +kernel
theorem dX8_takesKey_27 : decode cX8_takesKey 27 = .ok (.putfield 178, 3) := by decide +kernel
theorem dX8_takesKey_30 : decode cX8_takesKey 30 = .ok (.aload_n 0, 1) := by decide +kernel
theorem dX8_takesKey_31 : decode cX8_takesKey 31 = .ok (.iload_n 1, 1) := by decide +kernel
theorem dX8_takesKey_32 : decode cX8_takesKey 32 = .ok (.putfield 177, 3) := by decide +kernel
theorem dX8_takesKey_35 : decode cX8_takesKey 35 = .ok (.iload_n 1, 1) := by decide +kernel
theorem dX8_takesKey_36 : decode cX8_takesKey 36 = .ok (.aload_n 0, 1) := by decide +kernel
theorem dX8_takesKey_37 : decode cX8_takesKey 37 = .ok (.getfield 177, 3) := by decide +kernel
theorem dX8_takesKey_40 : decode cX8_takesKey 40 = .ok (.if_icmp .eq 25, 3) := by decide +kernel
theorem dX8_takesKey_43 : decode cX8_takesKey 43 = .ok (.iload_n 1, 1) := by decide +kernel
theorem dX8_takesKey_44 : decode cX8_takesKey 44 = .ok (.aload_n 0, 1) := by decide +kernel
theorem dX8_takesKey_45 : decode cX8_takesKey 45 = .ok (.getfield 19, 3) := by decide +kernel
theorem dX8_takesKey_48 : decode cX8_takesKey 48 = .ok (.if_icmp .ne 21, 3) := by decide +kernel
theorem dX8_takesKey_51 : decode cX8_takesKey 51 = .ok (.aload_n 0, 1) := by decide +kernel
theorem dX8_takesKey_52 : decode cX8_takesKey 52 = .ok (.getfield 34, 3) := by decide +kernel
theorem dX8_takesKey_55 : decode cX8_takesKey 55 = .ok (.getfield 87, 3) := by decide +kernel
theorem dX8_takesKey_58 : decode cX8_takesKey 58 = .ok (.aload_n 0, 1) := by decide +kernel
theorem dX8_takesKey_59 : decode cX8_takesKey 59 = .ok (.getfield 178, 3) := by decide +kernel
theorem dX8_takesKey_62 : decode cX8_takesKey 62 = .ok (.if_icmp .ge 7, 3) := by decide +kernel
theorem dX8_takesKey_65 : decode cX8_takesKey 65 = .ok (.iconst 1, 1) := by decide +kernel
theorem dX8_takesKey_66 : decode cX8_takesKey 66 = .ok (.goto 4, 3) := by decide +kernel
theorem dX8_takesKey_69 : decode cX8_takesKey 69 = .ok (.iconst 0, 1) := by decide +kernel
theorem dX8_takesKey_70 : decode cX8_takesKey 70 = .ok (.ireturn, 1) := by decide +kernel
theorem dX8_acknowledgeInTime_0 : decode cX8_acknowledgeInTime 0 = .ok (.aload_n 0, 1) := by decide +kernel
theorem dX8_acknowledgeInTime_1 : decode cX8_acknowledgeInTime 1 = .ok (.getfield 34, 3) := by decide +kernel
theorem dX8_acknowledgeInTime_4 : decode cX8_acknowledgeInTime 4 = .ok (.getfield 87, 3) := by decide +kernel
theorem dX8_acknowledgeInTime_7 : decode cX8_acknowledgeInTime 7 = .ok (.aload_n 0, 1) := by decide +kernel
theorem dX8_acknowledgeInTime_8 : decode cX8_acknowledgeInTime 8 = .ok (.getfield 28, 3) := by decide +kernel
theorem dX8_acknowledgeInTime_11 : decode cX8_acknowledgeInTime 11 = .ok (.if_icmp .eq 16, 3) := by decide +kernel
theorem dX8_acknowledgeInTime_14 : decode cX8_acknowledgeInTime 14 = .ok (.aload_n 0, 1) := by decide +kernel
theorem dX8_acknowledgeInTime_15 : decode cX8_acknowledgeInTime 15 = .ok (.getfield 34, 3) := by decide +kernel
theorem dX8_acknowledgeInTime_18 : decode cX8_acknowledgeInTime 18 = .ok (.getfield 87, 3) := by decide +kernel
theorem dX8_acknowledgeInTime_21 : decode cX8_acknowledgeInTime 21 = .ok (.bipush 20, 2) := by decide +kernel
theorem dX8_acknowledgeInTime_23 : decode cX8_acknowledgeInTime 23 = .ok (.irem, 1) := by decide +kernel
theorem dX8_acknowledgeInTime_24 : decode cX8_acknowledgeInTime 24 = .ok (.ifCond .ne 7, 3) := by decide +kernel
theorem dX8_acknowledgeInTime_27 : decode cX8_acknowledgeInTime 27 = .ok (.aload_n 0, 1) := by decide +kernel
theorem dX8_acknowledgeInTime_28 : decode cX8_acknowledgeInTime 28 = .ok (.invokevirtual 59, 3) := by decide +kernel
theorem dX8_acknowledgeInTime_31 : decode cX8_acknowledgeInTime 31 = .ok (.return_, 1) := by decide +kernel
theorem dX8_acknowledge_0 : decode cX8_acknowledge 0 = .ok (.aload_n 0, 1) := by decide +kernel
theorem dX8_acknowledge_1 : decode cX8_acknowledge 1 = .ok (.getfield 9, 3) := by decide +kernel
theorem dX8_acknowledge_4 : decode cX8_acknowledge 4 = .ok (.iconst 1, 1) := by decide +kernel
theorem dX8_acknowledge_5 : decode cX8_acknowledge 5 = .ok (.if_icmp .ne 11, 3) := by decide +kernel
theorem dX8_acknowledge_8 : decode cX8_acknowledge 8 = .ok (.aload_n 0, 1) := by decide +kernel
theorem dX8_acknowledge_9 : decode cX8_acknowledge 9 = .ok (.getfield 31, 3) := by decide +kernel
theorem dX8_acknowledge_12 : decode cX8_acknowledge 12 = .ok (.iconst (-1), 1) := by decide +kernel
theorem dX8_acknowledge_13 : decode cX8_acknowledge 13 = .ok (.if_icmp .ne 4, 3) := by decide +kernel
theorem dX8_acknowledge_16 : decode cX8_acknowledge 16 = .ok (.return_, 1) := by decide +kernel
theorem dX8_acknowledge_17 : decode cX8_acknowledge 17 = .ok (.aload_n 0, 1) := by decide +kernel
theorem dX8_acknowledge_18 : decode cX8_acknowledge 18 = .ok (.dup, 1) := by decide +kernel
theorem dX8_acknowledge_19 : decode cX8_acknowledge 19 = .ok (.getfield 181, 3) := by decide +kernel
theorem dX8_acknowledge_22 : decode cX8_acknowledge 22 = .ok (.iconst 1, 1) := by decide +kernel
theorem dX8_acknowledge_23 : decode cX8_acknowledge 23 = .ok (.iadd, 1) := by decide +kernel
theorem dX8_acknowledge_24 : decode cX8_acknowledge 24 = .ok (.putfield 181, 3) := by decide +kernel
theorem dX8_acknowledge_27 : decode cX8_acknowledge 27 = .ok (.aload_n 0, 1) := by decide +kernel
theorem dX8_acknowledge_28 : decode cX8_acknowledge 28 = .ok (.iconst 0, 1) := by decide +kernel
theorem dX8_acknowledge_29 : decode cX8_acknowledge 29 = .ok (.putfield 73, 3) := by decide +kernel
theorem dX8_acknowledge_32 : decode cX8_acknowledge 32 = .ok (.aload_n 0, 1) := by decide +kernel
theorem dX8_acknowledge_33 : decode cX8_acknowledge 33 = .ok (.iconst (-1), 1) := by decide +kernel
theorem dX8_acknowledge_34 : decode cX8_acknowledge 34 = .ok (.putfield 28, 3) := by decide +kernel
theorem dX8_acknowledge_37 : decode cX8_acknowledge 37 = .ok (.new 99, 3) := by decide +kernel
theorem dX8_acknowledge_40 : decode cX8_acknowledge 40 = .ok (.dup, 1) := by decide +kernel
theorem dX8_acknowledge_41 : decode cX8_acknowledge 41 = .ok (.iconst 4, 1) := by decide +kernel
theorem dX8_acknowledge_42 : decode cX8_acknowledge 42 = .ok (.invokespecial 118, 3) := by decide +kernel
theorem dX8_acknowledge_45 : decode cX8_acknowledge 45 = .ok (.astore_n 1, 1) := by decide +kernel
theorem dX8_acknowledge_46 : decode cX8_acknowledge 46 = .ok (.aload_n 1, 1) := by decide +kernel
theorem dX8_acknowledge_47 : decode cX8_acknowledge 47 = .ok (.aload_n 0, 1) := by decide +kernel
theorem dX8_acknowledge_48 : decode cX8_acknowledge 48 = .ok (.invokevirtual 184, 3) := by decide +kernel
theorem dX8_acknowledge_51 : decode cX8_acknowledge 51 = .ok (.putfield 188, 3) := by decide +kernel
theorem dX8_acknowledge_54 : decode cX8_acknowledge 54 = .ok (.aload_n 0, 1) := by decide +kernel
theorem dX8_acknowledge_55 : decode cX8_acknowledge 55 = .ok (.getfield 34, 3) := by decide +kernel
theorem dX8_acknowledge_58 : decode cX8_acknowledge 58 = .ok (.aload_n 0, 1) := by decide +kernel
theorem dX8_acknowledge_59 : decode cX8_acknowledge 59 = .ok (.getfield 31, 3) := by decide +kernel
theorem dX8_acknowledge_62 : decode cX8_acknowledge 62 = .ok (.aload_n 1, 1) := by decide +kernel
theorem dX8_acknowledge_63 : decode cX8_acknowledge 63 = .ok (.invokevirtual 121, 3) := by decide +kernel
theorem dX8_acknowledge_66 : decode cX8_acknowledge 66 = .ok (.return_, 1) := by decide +kernel
theorem dX8_makeAck_0 : decode cX8_makeAck 0 = .ok (.new 192, 3) := by decide +kernel
theorem dX8_makeAck_3 : decode cX8_makeAck 3 = .ok (.dup, 1) := by decide +kernel
theorem dX8_makeAck_4 : decode cX8_makeAck 4 = .ok (.invokespecial 194, 3) := by decide +kernel
theorem dX8_makeAck_7 : decode cX8_makeAck 7 = .ok (.astore_n 1, 1) := by decide +kernel
theorem dX8_makeAck_8 : decode cX8_makeAck 8 = .ok (.aload_n 0, 1) := by decide +kernel
theorem dX8_makeAck_9 : decode cX8_makeAck 9 = .ok (.aload_n 0, 1) := by decide +kernel
theorem dX8_makeAck_10 : decode cX8_makeAck 10 = .ok (.getfield 25, 3) := by decide +kernel
theorem dX8_makeAck_13 : decode cX8_makeAck 13 = .ok (.iconst 1, 1) := by decide +kernel
theorem dX8_makeAck_14 : decode cX8_makeAck 14 = .ok (.invokevirtual 195, 3) := by decide +kernel
theorem dX8_makeAck_17 : decode cX8_makeAck 17 = .ok (.istore_n 2, 1) := by decide +kernel
theorem dX8_makeAck_18 : decode cX8_makeAck 18 = .ok (.iconst 0, 1) := by decide +kernel
theorem dX8_makeAck_19 : decode cX8_makeAck 19 = .ok (.istore_n 3, 1) := by decide +kernel
theorem dX8_makeAck_20 : decode cX8_makeAck 20 = .ok (.iload_n 3, 1) := by decide +kernel
theorem dX8_makeAck_21 : decode cX8_makeAck 21 = .ok (.iconst 4, 1) := by decide +kernel
theorem dX8_makeAck_22 : decode cX8_makeAck 22 = .ok (.if_icmp .ge 38, 3) := by decide +kernel
theorem dX8_makeAck_25 : decode cX8_makeAck 25 = .ok (.iload_n 2, 1) := by decide +kernel
theorem dX8_makeAck_26 : decode cX8_makeAck 26 = .ok (.ifCond .lt 34, 3) := by decide +kernel
theorem dX8_makeAck_29 : decode cX8_makeAck 29 = .ok (.aload_n 0, 1) := by decide +kernel
theorem dX8_makeAck_30 : decode cX8_makeAck 30 = .ok (.iload_n 2, 1) := by decide +kernel
theorem dX8_makeAck_31 : decode cX8_makeAck 31 = .ok (.iconst 0, 1) := by decide +kernel
theorem dX8_makeAck_32 : decode cX8_makeAck 32 = .ok (.invokevirtual 195, 3) := by decide +kernel
theorem dX8_makeAck_35 : decode cX8_makeAck 35 = .ok (.istore 4, 2) := by decide +kernel
theorem dX8_makeAck_37 : decode cX8_makeAck 37 = .ok (.aload_n 1, 1) := by decide +kernel
theorem dX8_makeAck_38 : decode cX8_makeAck 38 = .ok (.iload 4, 2) := by decide +kernel
theorem dX8_makeAck_40 : decode cX8_makeAck 40 = .ok (.iconst 1, 1) := by decide +kernel
theorem dX8_makeAck_41 : decode cX8_makeAck 41 = .ok (.iadd, 1) := by decide +kernel
theorem dX8_makeAck_42 : decode cX8_makeAck 42 = .ok (.iload_n 2, 1) := by decide +kernel
theorem dX8_makeAck_43 : decode cX8_makeAck 43 = .ok (.invokevirtual 199, 3) := by decide +kernel
theorem dX8_makeAck_46 : decode cX8_makeAck 46 = .ok (.aload_n 0, 1) := by decide +kernel
theorem dX8_makeAck_47 : decode cX8_makeAck 47 = .ok (.iload 4, 2) := by decide +kernel
theorem dX8_makeAck_49 : decode cX8_makeAck 49 = .ok (.iconst 1, 1) := by decide +kernel
theorem dX8_makeAck_50 : decode cX8_makeAck 50 = .ok (.invokevirtual 195, 3) := by decide +kernel
theorem dX8_makeAck_53 : decode cX8_makeAck 53 = .ok (.istore_n 2, 1) := by decide +kernel
theorem dX8_makeAck_54 : decode cX8_makeAck 54 = .ok (.iinc 3 1, 3) := by decide +kernel
theorem dX8_makeAck_57 : decode cX8_makeAck 57 = .ok (.goto (-37), 3) := by decide +kernel
theorem dX8_makeAck_60 : decode cX8_makeAck 60 = .ok (.aload_n 1, 1) := by decide +kernel
theorem dX8_makeAck_61 : decode cX8_makeAck 61 = .ok (.aload_n 0, 1) := by decide +kernel
theorem dX8_makeAck_62 : decode cX8_makeAck 62 = .ok (.getfield 70, 3) := by decide +kernel
theorem dX8_makeAck_65 : decode cX8_makeAck 65 = .ok (.putfield 202, 3) := by decide +kernel
theorem dX8_makeAck_68 : decode cX8_makeAck 68 = .ok (.iconst 0, 1) := by decide +kernel
theorem dX8_makeAck_69 : decode cX8_makeAck 69 = .ok (.istore_n 3, 1) := by decide +kernel
theorem dX8_makeAck_70 : decode cX8_makeAck 70 = .ok (.iconst 0, 1) := by decide +kernel
theorem dX8_makeAck_71 : decode cX8_makeAck 71 = .ok (.istore 4, 2) := by decide +kernel
theorem dX8_makeAck_73 : decode cX8_makeAck 73 = .ok (.iload 4, 2) := by decide +kernel
theorem dX8_makeAck_75 : decode cX8_makeAck 75 = .ok (.iconst 4, 1) := by decide +kernel
theorem dX8_makeAck_76 : decode cX8_makeAck 76 = .ok (.if_icmp .ge 42, 3) := by decide +kernel
theorem dX8_makeAck_79 : decode cX8_makeAck 79 = .ok (.aload_n 1, 1) := by decide +kernel
theorem dX8_makeAck_80 : decode cX8_makeAck 80 = .ok (.getfield 205, 3) := by decide +kernel
theorem dX8_makeAck_83 : decode cX8_makeAck 83 = .ok (.iload 4, 2) := by decide +kernel
theorem dX8_makeAck_85 : decode cX8_makeAck 85 = .ok (.bipush 40, 2) := by decide +kernel
theorem dX8_makeAck_87 : decode cX8_makeAck 87 = .ok (.aload_n 0, 1) := by decide +kernel
theorem dX8_makeAck_88 : decode cX8_makeAck 88 = .ok (.getfield 38, 3) := by decide +kernel
theorem dX8_makeAck_91 : decode cX8_makeAck 91 = .ok (.iload 4, 2) := by decide +kernel
theorem dX8_makeAck_93 : decode cX8_makeAck 93 = .ok (.aaload, 1) := by decide +kernel
theorem dX8_makeAck_94 : decode cX8_makeAck 94 = .ok (.getfield 47, 3) := by decide +kernel
theorem dX8_makeAck_97 : decode cX8_makeAck 97 = .ok (.iadd, 1) := by decide +kernel
theorem dX8_makeAck_98 : decode cX8_makeAck 98 = .ok (.iastore, 1) := by decide +kernel
theorem dX8_makeAck_99 : decode cX8_makeAck 99 = .ok (.iload_n 3, 1) := by decide +kernel
theorem dX8_makeAck_100 : decode cX8_makeAck 100 = .ok (.aload_n 0, 1) := by decide +kernel
theorem dX8_makeAck_101 : decode cX8_makeAck 101 = .ok (.getfield 38, 3) := by decide +kernel
theorem dX8_makeAck_104 : decode cX8_makeAck 104 = .ok (.iload 4, 2) := by decide +kernel
theorem dX8_makeAck_106 : decode cX8_makeAck 106 = .ok (.aaload, 1) := by decide +kernel
theorem dX8_makeAck_107 : decode cX8_makeAck 107 = .ok (.getfield 47, 3) := by decide +kernel
theorem dX8_makeAck_110 : decode cX8_makeAck 110 = .ok (.iadd, 1) := by decide +kernel
theorem dX8_makeAck_111 : decode cX8_makeAck 111 = .ok (.istore_n 3, 1) := by decide +kernel
theorem dX8_makeAck_112 : decode cX8_makeAck 112 = .ok (.iinc 4 1, 3) := by decide +kernel
theorem dX8_makeAck_115 : decode cX8_makeAck 115 = .ok (.goto (-42), 3) := by decide +kernel
theorem dX8_makeAck_118 : decode cX8_makeAck 118 = .ok (.aload_n 1, 1) := by decide +kernel
theorem dX8_makeAck_119 : decode cX8_makeAck 119 = .ok (.bipush 100, 2) := by decide +kernel
theorem dX8_makeAck_121 : decode cX8_makeAck 121 = .ok (.iload_n 3, 1) := by decide +kernel
theorem dX8_makeAck_122 : decode cX8_makeAck 122 = .ok (.iadd, 1) := by decide +kernel
theorem dX8_makeAck_123 : decode cX8_makeAck 123 = .ok (.putfield 209, 3) := by decide +kernel
theorem dX8_makeAck_126 : decode cX8_makeAck 126 = .ok (.aload_n 1, 1) := by decide +kernel
theorem dX8_makeAck_127 : decode cX8_makeAck 127 = .ok (.areturn, 1) := by decide +kernel
theorem dX8_nextTaken_0 : decode cX8_nextTaken 0 = .ok (.iload_n 1, 1) := by decide +kernel
theorem dX8_nextTaken_1 : decode cX8_nextTaken 1 = .ok (.istore_n 3, 1) := by decide +kernel
theorem dX8_nextTaken_2 : decode cX8_nextTaken 2 = .ok (.iload_n 3, 1) := by decide +kernel
theorem dX8_nextTaken_3 : decode cX8_nextTaken 3 = .ok (.ifCond .lt 26, 3) := by decide +kernel
theorem dX8_nextTaken_6 : decode cX8_nextTaken 6 = .ok (.iload_n 3, 1) := by decide +kernel
theorem dX8_nextTaken_7 : decode cX8_nextTaken 7 = .ok (.sipush 400, 3) := by decide +kernel
theorem dX8_nextTaken_10 : decode cX8_nextTaken 10 = .ok (.if_icmp .ge 19, 3) := by decide +kernel
theorem dX8_nextTaken_13 : decode cX8_nextTaken 13 = .ok (.aload_n 0, 1) := by decide +kernel
theorem dX8_nextTaken_14 : decode cX8_nextTaken 14 = .ok (.getfield 22, 3) := by decide +kernel
theorem dX8_nextTaken_17 : decode cX8_nextTaken 17 = .ok (.iload_n 3, 1) := by decide +kernel
theorem dX8_nextTaken_18 : decode cX8_nextTaken 18 = .ok (.baload, 1) := by decide +kernel
theorem dX8_nextTaken_19 : decode cX8_nextTaken 19 = .ok (.iload_n 2, 1) := by decide +kernel
theorem dX8_nextTaken_20 : decode cX8_nextTaken 20 = .ok (.if_icmp .eq 9, 3) := by decide +kernel
theorem dX8_nextTaken_23 : decode cX8_nextTaken 23 = .ok (.iinc 3 (-1), 3) := by decide +kernel
theorem dX8_nextTaken_26 : decode cX8_nextTaken 26 = .ok (.goto (-24), 3) := by decide +kernel
theorem dX8_nextTaken_29 : decode cX8_nextTaken 29 = .ok (.iload_n 3, 1) := by decide +kernel
theorem dX8_nextTaken_30 : decode cX8_nextTaken 30 = .ok (.ireturn, 1) := by decide +kernel
theorem dX9_init_0 : decode cX9_init 0 = .ok (.aload_n 0, 1) := by decide +kernel
theorem dX9_init_1 : decode cX9_init 1 = .ok (.invokespecial 3, 3) := by decide +kernel
theorem dX9_init_4 : decode cX9_init 4 = .ok (.aload_n 0, 1) := by decide +kernel
theorem dX9_init_5 : decode cX9_init 5 = .ok (.bipush 40, 2) := by decide +kernel
theorem dX9_init_7 : decode cX9_init 7 = .ok (.putfield 9, 3) := by decide +kernel
theorem dX9_init_10 : decode cX9_init 10 = .ok (.aload_n 0, 1) := by decide +kernel
theorem dX9_init_11 : decode cX9_init 11 = .ok (.sipush 200, 3) := by decide +kernel
theorem dX9_init_14 : decode cX9_init 14 = .ok (.newarray .boolean, 2) := by decide +kernel
theorem dX9_init_16 : decode cX9_init 16 = .ok (.putfield 15, 3) := by decide +kernel
theorem dX9_init_19 : decode cX9_init 19 = .ok (.aload_n 0, 1) := by decide +kernel
theorem dX9_init_20 : decode cX9_init 20 = .ok (.sipush 200, 3) := by decide +kernel
theorem dX9_init_23 : decode cX9_init 23 = .ok (.newarray .int, 2) := by decide +kernel
theorem dX9_init_25 : decode cX9_init 25 = .ok (.putfield 19, 3) := by decide +kernel
theorem dX9_init_28 : decode cX9_init 28 = .ok (.aload_n 0, 1) := by decide +kernel
theorem dX9_init_29 : decode cX9_init 29 = .ok (.sipush 200, 3) := by decide +kernel
theorem dX9_init_32 : decode cX9_init 32 = .ok (.newarray .boolean, 2) := by decide +kernel
theorem dX9_init_34 : decode cX9_init 34 = .ok (.putfield 23, 3) := by decide +kernel
theorem dX9_init_37 : decode cX9_init 37 = .ok (.return_, 1) := by decide +kernel
theorem dX9_isLost_0 : decode cX9_isLost 0 = .ok (.iload_n 1, 1) := by decide +kernel
theorem dX9_isLost_1 : decode cX9_isLost 1 = .ok (.ifCond .lt 40, 3) := by decide +kernel
theorem dX9_isLost_4 : decode cX9_isLost 4 = .ok (.iload_n 1, 1) := by decide +kernel
theorem dX9_isLost_5 : decode cX9_isLost 5 = .ok (.aload_n 0, 1) := by decide +kernel
theorem dX9_isLost_6 : decode cX9_isLost 6 = .ok (.getfield 26, 3) := by decide +kernel
theorem dX9_isLost_9 : decode cX9_isLost 9 = .ok (.if_icmp .ge 32, 3) := by decide +kernel
theorem dX9_isLost_12 : decode cX9_isLost 12 = .ok (.iload_n 1, 1) := by decide +kernel
theorem dX9_isLost_13 : decode cX9_isLost 13 = .ok (.sipush 200, 3) := by decide +kernel
theorem dX9_isLost_16 : decode cX9_isLost 16 = .ok (.if_icmp .ge 25, 3) := by decide +kernel
theorem dX9_isLost_19 : decode cX9_isLost 19 = .ok (.aload_n 0, 1) := by decide +kernel
theorem dX9_isLost_20 : decode cX9_isLost 20 = .ok (.getfield 15, 3) := by decide +kernel
theorem dX9_isLost_23 : decode cX9_isLost 23 = .ok (.iload_n 1, 1) := by decide +kernel
theorem dX9_isLost_24 : decode cX9_isLost 24 = .ok (.baload, 1) := by decide +kernel
theorem dX9_isLost_25 : decode cX9_isLost 25 = .ok (.ifCond .ne 16, 3) := by decide +kernel
theorem dX9_isLost_28 : decode cX9_isLost 28 = .ok (.aload_n 0, 1) := by decide +kernel
theorem dX9_isLost_29 : decode cX9_isLost 29 = .ok (.getfield 19, 3) := by decide +kernel
theorem dX9_isLost_32 : decode cX9_isLost 32 = .ok (.iload_n 1, 1) := by decide +kernel
theorem dX9_isLost_33 : decode cX9_isLost 33 = .ok (.iaload, 1) := by decide +kernel
theorem dX9_isLost_34 : decode cX9_isLost 34 = .ok (.ifCond .ne 7, 3) := by decide +kernel
theorem dX9_isLost_37 : decode cX9_isLost 37 = .ok (.iconst 1, 1) := by decide +kernel
theorem dX9_isLost_38 : decode cX9_isLost 38 = .ok (.goto 4, 3) := by decide +kernel
theorem dX9_isLost_41 : decode cX9_isLost 41 = .ok (.iconst 0, 1) := by decide +kernel
theorem dX9_isLost_42 : decode cX9_isLost 42 = .ok (.ireturn, 1) := by decide +kernel
theorem dX9_lowestLost_0 : decode cX9_lowestLost 0 = .ok (.iconst 0, 1) := by decide +kernel
theorem dX9_lowestLost_1 : decode cX9_lowestLost 1 = .ok (.istore_n 1, 1) := by decide +kernel
theorem dX9_lowestLost_2 : decode cX9_lowestLost 2 = .ok (.iload_n 1, 1) := by decide +kernel
theorem dX9_lowestLost_3 : decode cX9_lowestLost 3 = .ok (.sipush 200, 3) := by decide +kernel
theorem dX9_lowestLost_6 : decode cX9_lowestLost 6 = .ok (.if_icmp .ge 17, 3) := by decide +kernel
theorem dX9_lowestLost_9 : decode cX9_lowestLost 9 = .ok (.aload_n 0, 1) := by decide +kernel
theorem dX9_lowestLost_10 : decode cX9_lowestLost 10 = .ok (.iload_n 1, 1) := by decide +kernel
theorem dX9_lowestLost_11 : decode cX9_lowestLost 11 = .ok (.invokevirtual 29, 3) := by decide +kernel
theorem dX9_lowestLost_14 : decode cX9_lowestLost 14 = .ok (.ifCond .ne 9, 3) := by decide +kernel
theorem dX9_lowestLost_17 : decode cX9_lowestLost 17 = .ok (.iinc 1 1, 3) := by decide +kernel
theorem dX9_lowestLost_20 : decode cX9_lowestLost 20 = .ok (.goto (-18), 3) := by decide +kernel
theorem dX9_lowestLost_23 : decode cX9_lowestLost 23 = .ok (.iload_n 1, 1) := by decide +kernel
theorem dX9_lowestLost_24 : decode cX9_lowestLost 24 = .ok (.ireturn, 1) := by decide +kernel
theorem dX9_lostInARow_0 : decode cX9_lostInARow 0 = .ok (.iconst 0, 1) := by decide +kernel
theorem dX9_lostInARow_1 : decode cX9_lostInARow 1 = .ok (.istore_n 2, 1) := by decide +kernel
theorem dX9_lostInARow_2 : decode cX9_lostInARow 2 = .ok (.iload_n 2, 1) := by decide +kernel
theorem dX9_lostInARow_3 : decode cX9_lostInARow 3 = .ok (.bipush 10, 2) := by decide +kernel
theorem dX9_lostInARow_5 : decode cX9_lostInARow 5 = .ok (.if_icmp .ge 19, 3) := by decide +kernel
theorem dX9_lostInARow_8 : decode cX9_lostInARow 8 = .ok (.aload_n 0, 1) := by decide +kernel
theorem dX9_lostInARow_9 : decode cX9_lostInARow 9 = .ok (.iload_n 1, 1) := by decide +kernel
theorem dX9_lostInARow_10 : decode cX9_lostInARow 10 = .ok (.iload_n 2, 1) := by decide +kernel
theorem dX9_lostInARow_11 : decode cX9_lostInARow 11 = .ok (.iadd, 1) := by decide +kernel
theorem dX9_lostInARow_12 : decode cX9_lostInARow 12 = .ok (.invokevirtual 29, 3) := by decide +kernel
theorem dX9_lostInARow_15 : decode cX9_lostInARow 15 = .ok (.ifCond .eq 9, 3) := by decide +kernel
theorem dX9_lostInARow_18 : decode cX9_lostInARow 18 = .ok (.iinc 2 1, 3) := by decide +kernel
theorem dX9_lostInARow_21 : decode cX9_lostInARow 21 = .ok (.goto (-19), 3) := by decide +kernel
theorem dX9_lostInARow_24 : decode cX9_lostInARow 24 = .ok (.iload_n 2, 1) := by decide +kernel
theorem dX9_lostInARow_25 : decode cX9_lostInARow 25 = .ok (.ireturn, 1) := by decide +kernel
theorem dX9_canSendAnew_0 : decode cX9_canSendAnew 0 = .ok (.aload_n 0, 1) := by decide +kernel
theorem dX9_canSendAnew_1 : decode cX9_canSendAnew 1 = .ok (.getfield 33, 3) := by decide +kernel
theorem dX9_canSendAnew_4 : decode cX9_canSendAnew 4 = .ok (.aload_n 0, 1) := by decide +kernel
theorem dX9_canSendAnew_5 : decode cX9_canSendAnew 5 = .ok (.getfield 9, 3) := by decide +kernel
theorem dX9_canSendAnew_8 : decode cX9_canSendAnew 8 = .ok (.invokestatic 36, 3) := by decide +kernel
theorem dX9_canSendAnew_11 : decode cX9_canSendAnew 11 = .ok (.aload_n 0, 1) := by decide +kernel
theorem dX9_canSendAnew_12 : decode cX9_canSendAnew 12 = .ok (.getfield 26, 3) := by decide +kernel
theorem dX9_canSendAnew_15 : decode cX9_canSendAnew 15 = .ok (.isub, 1) := by decide +kernel
theorem dX9_canSendAnew_16 : decode cX9_canSendAnew 16 = .ok (.iload_n 1, 1) := by decide +kernel
theorem dX9_canSendAnew_17 : decode cX9_canSendAnew 17 = .ok (.invokestatic 36, 3) := by decide +kernel
theorem dX9_canSendAnew_20 : decode cX9_canSendAnew 20 = .ok (.istore_n 2, 1) := by decide +kernel
theorem dX9_canSendAnew_21 : decode cX9_canSendAnew 21 = .ok (.iconst 0, 1) := by decide +kernel
theorem dX9_canSendAnew_22 : decode cX9_canSendAnew 22 = .ok (.iload_n 2, 1) := by decide +kernel
theorem dX9_canSendAnew_23 : decode cX9_canSendAnew 23 = .ok (.bipush 10, 2) := by decide +kernel
theorem dX9_canSendAnew_25 : decode cX9_canSendAnew 25 = .ok (.invokestatic 36, 3) := by decide +kernel
theorem dX9_canSendAnew_28 : decode cX9_canSendAnew 28 = .ok (.invokestatic 42, 3) := by decide +kernel
theorem dX9_canSendAnew_31 : decode cX9_canSendAnew 31 = .ok (.ireturn, 1) := by decide +kernel
theorem dX9_takeOff_0 : decode cX9_takeOff 0 = .ok (.iconst 0, 1) := by decide +kernel
theorem dX9_takeOff_1 : decode cX9_takeOff 1 = .ok (.iload_n 1, 1) := by decide +kernel
theorem dX9_takeOff_2 : decode cX9_takeOff 2 = .ok (.invokestatic 42, 3) := by decide +kernel
theorem dX9_takeOff_5 : decode cX9_takeOff 5 = .ok (.istore_n 3, 1) := by decide +kernel
theorem dX9_takeOff_6 : decode cX9_takeOff 6 = .ok (.iload_n 3, 1) := by decide +kernel
theorem dX9_takeOff_7 : decode cX9_takeOff 7 = .ok (.iload_n 1, 1) := by decide +kernel
theorem dX9_takeOff_8 : decode cX9_takeOff 8 = .ok (.iload_n 2, 1) := by decide +kernel
theorem dX9_takeOff_9 : decode cX9_takeOff 9 = .ok (.iadd, 1) := by decide +kernel
theorem dX9_takeOff_10 : decode cX9_takeOff 10 = .ok (.if_icmp .ge 44, 3) := by decide +kernel
theorem dX9_takeOff_13 : decode cX9_takeOff 13 = .ok (.iload_n 3, 1) := by decide +kernel
theorem dX9_takeOff_14 : decode cX9_takeOff 14 = .ok (.sipush 200, 3) := by decide +kernel
theorem dX9_takeOff_17 : decode cX9_takeOff 17 = .ok (.if_icmp .ge 37, 3) := by decide +kernel
theorem dX9_takeOff_20 : decode cX9_takeOff 20 = .ok (.aload_n 0, 1) := by decide +kernel
theorem dX9_takeOff_21 : decode cX9_takeOff 21 = .ok (.iload_n 3, 1) := by decide +kernel
theorem dX9_takeOff_22 : decode cX9_takeOff 22 = .ok (.invokevirtual 29, 3) := by decide +kernel
theorem dX9_takeOff_25 : decode cX9_takeOff 25 = .ok (.ifCond .eq 13, 3) := by decide +kernel
theorem dX9_takeOff_28 : decode cX9_takeOff 28 = .ok (.aload_n 0, 1) := by decide +kernel
theorem dX9_takeOff_29 : decode cX9_takeOff 29 = .ok (.dup, 1) := by decide +kernel
theorem dX9_takeOff_30 : decode cX9_takeOff 30 = .ok (.getfield 45, 3) := by decide +kernel
theorem dX9_takeOff_33 : decode cX9_takeOff 33 = .ok (.iconst 1, 1) := by decide +kernel
theorem dX9_takeOff_34 : decode cX9_takeOff 34 = .ok (.isub, 1) := by decide +kernel
theorem dX9_takeOff_35 : decode cX9_takeOff 35 = .ok (.putfield 45, 3) := by decide +kernel
theorem dX9_takeOff_38 : decode cX9_takeOff 38 = .ok (.aload_n 0, 1) := by decide +kernel
theorem dX9_takeOff_39 : decode cX9_takeOff 39 = .ok (.getfield 19, 3) := by decide +kernel
theorem dX9_takeOff_42 : decode cX9_takeOff 42 = .ok (.iload_n 3, 1) := by decide +kernel
theorem dX9_takeOff_43 : decode cX9_takeOff 43 = .ok (.dup2, 1) := by decide +kernel
theorem dX9_takeOff_44 : decode cX9_takeOff 44 = .ok (.iaload, 1) := by decide +kernel
theorem dX9_takeOff_45 : decode cX9_takeOff 45 = .ok (.iconst 1, 1) := by decide +kernel
theorem dX9_takeOff_46 : decode cX9_takeOff 46 = .ok (.iadd, 1) := by decide +kernel
theorem dX9_takeOff_47 : decode cX9_takeOff 47 = .ok (.iastore, 1) := by decide +kernel
theorem dX9_takeOff_48 : decode cX9_takeOff 48 = .ok (.iinc 3 1, 3) := by decide +kernel
theorem dX9_takeOff_51 : decode cX9_takeOff 51 = .ok (.goto (-45), 3) := by decide +kernel
theorem dX9_takeOff_54 : decode cX9_takeOff 54 = .ok (.aload_n 0, 1) := by decide +kernel
