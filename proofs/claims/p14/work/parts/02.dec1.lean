theorem dX9_takeOff_55 : decode cX9_takeOff 55 = .ok (.aload_n 0, 1) := by decide +kernel
theorem dX9_takeOff_56 : decode cX9_takeOff 56 = .ok (.getfield 26, 3) := by decide +kernel
theorem dX9_takeOff_59 : decode cX9_takeOff 59 = .ok (.iload_n 1, 1) := by decide +kernel
theorem dX9_takeOff_60 : decode cX9_takeOff 60 = .ok (.iload_n 2, 1) := by decide +kernel
theorem dX9_takeOff_61 : decode cX9_takeOff 61 = .ok (.iadd, 1) := by decide +kernel
theorem dX9_takeOff_62 : decode cX9_takeOff 62 = .ok (.invokestatic 42, 3) := by decide +kernel
theorem dX9_takeOff_65 : decode cX9_takeOff 65 = .ok (.putfield 26, 3) := by decide +kernel
theorem dX9_takeOff_68 : decode cX9_takeOff 68 = .ok (.return_, 1) := by decide +kernel
theorem dX9_land_0 : decode cX9_land 0 = .ok (.iconst 0, 1) := by decide +kernel
theorem dX9_land_1 : decode cX9_land 1 = .ok (.iload_n 1, 1) := by decide +kernel
theorem dX9_land_2 : decode cX9_land 2 = .ok (.invokestatic 42, 3) := by decide +kernel
theorem dX9_land_5 : decode cX9_land 5 = .ok (.istore_n 3, 1) := by decide +kernel
theorem dX9_land_6 : decode cX9_land 6 = .ok (.iload_n 3, 1) := by decide +kernel
theorem dX9_land_7 : decode cX9_land 7 = .ok (.iload_n 1, 1) := by decide +kernel
theorem dX9_land_8 : decode cX9_land 8 = .ok (.iload_n 2, 1) := by decide +kernel
theorem dX9_land_9 : decode cX9_land 9 = .ok (.iadd, 1) := by decide +kernel
theorem dX9_land_10 : decode cX9_land 10 = .ok (.if_icmp .ge 44, 3) := by decide +kernel
theorem dX9_land_13 : decode cX9_land 13 = .ok (.iload_n 3, 1) := by decide +kernel
theorem dX9_land_14 : decode cX9_land 14 = .ok (.sipush 200, 3) := by decide +kernel
theorem dX9_land_17 : decode cX9_land 17 = .ok (.if_icmp .ge 37, 3) := by decide +kernel
theorem dX9_land_20 : decode cX9_land 20 = .ok (.aload_n 0, 1) := by decide +kernel
theorem dX9_land_21 : decode cX9_land 21 = .ok (.getfield 19, 3) := by decide +kernel
theorem dX9_land_24 : decode cX9_land 24 = .ok (.iload_n 3, 1) := by decide +kernel
theorem dX9_land_25 : decode cX9_land 25 = .ok (.dup2, 1) := by decide +kernel
theorem dX9_land_26 : decode cX9_land 26 = .ok (.iaload, 1) := by decide +kernel
theorem dX9_land_27 : decode cX9_land 27 = .ok (.iconst 1, 1) := by decide +kernel
theorem dX9_land_28 : decode cX9_land 28 = .ok (.isub, 1) := by decide +kernel
theorem dX9_land_29 : decode cX9_land 29 = .ok (.iastore, 1) := by decide +kernel
theorem dX9_land_30 : decode cX9_land 30 = .ok (.aload_n 0, 1) := by decide +kernel
theorem dX9_land_31 : decode cX9_land 31 = .ok (.iload_n 3, 1) := by decide +kernel
theorem dX9_land_32 : decode cX9_land 32 = .ok (.invokevirtual 29, 3) := by decide +kernel
theorem dX9_land_35 : decode cX9_land 35 = .ok (.ifCond .eq 13, 3) := by decide +kernel
theorem dX9_land_38 : decode cX9_land 38 = .ok (.aload_n 0, 1) := by decide +kernel
theorem dX9_land_39 : decode cX9_land 39 = .ok (.dup, 1) := by decide +kernel
theorem dX9_land_40 : decode cX9_land 40 = .ok (.getfield 45, 3) := by decide +kernel
theorem dX9_land_43 : decode cX9_land 43 = .ok (.iconst 1, 1) := by decide +kernel
theorem dX9_land_44 : decode cX9_land 44 = .ok (.iadd, 1) := by decide +kernel
theorem dX9_land_45 : decode cX9_land 45 = .ok (.putfield 45, 3) := by decide +kernel
theorem dX9_land_48 : decode cX9_land 48 = .ok (.iinc 3 1, 3) := by decide +kernel
theorem dX9_land_51 : decode cX9_land 51 = .ok (.goto (-45), 3) := by decide +kernel
theorem dX9_land_54 : decode cX9_land 54 = .ok (.return_, 1) := by decide +kernel
theorem dX9_acknowledge_0 : decode cX9_acknowledge 0 = .ok (.iconst 0, 1) := by decide +kernel
theorem dX9_acknowledge_1 : decode cX9_acknowledge 1 = .ok (.iload_n 1, 1) := by decide +kernel
theorem dX9_acknowledge_2 : decode cX9_acknowledge 2 = .ok (.invokestatic 42, 3) := by decide +kernel
theorem dX9_acknowledge_5 : decode cX9_acknowledge 5 = .ok (.istore_n 3, 1) := by decide +kernel
theorem dX9_acknowledge_6 : decode cX9_acknowledge 6 = .ok (.iload_n 3, 1) := by decide +kernel
theorem dX9_acknowledge_7 : decode cX9_acknowledge 7 = .ok (.iload_n 1, 1) := by decide +kernel
theorem dX9_acknowledge_8 : decode cX9_acknowledge 8 = .ok (.iload_n 2, 1) := by decide +kernel
theorem dX9_acknowledge_9 : decode cX9_acknowledge 9 = .ok (.iadd, 1) := by decide +kernel
theorem dX9_acknowledge_10 : decode cX9_acknowledge 10 = .ok (.if_icmp .ge 60, 3) := by decide +kernel
theorem dX9_acknowledge_13 : decode cX9_acknowledge 13 = .ok (.iload_n 3, 1) := by decide +kernel
theorem dX9_acknowledge_14 : decode cX9_acknowledge 14 = .ok (.sipush 200, 3) := by decide +kernel
theorem dX9_acknowledge_17 : decode cX9_acknowledge 17 = .ok (.if_icmp .ge 53, 3) := by decide +kernel
theorem dX9_acknowledge_20 : decode cX9_acknowledge 20 = .ok (.aload_n 0, 1) := by decide +kernel
theorem dX9_acknowledge_21 : decode cX9_acknowledge 21 = .ok (.iload_n 3, 1) := by decide +kernel
theorem dX9_acknowledge_22 : decode cX9_acknowledge 22 = .ok (.invokevirtual 29, 3) := by decide +kernel
theorem dX9_acknowledge_25 : decode cX9_acknowledge 25 = .ok (.ifCond .eq 13, 3) := by decide +kernel
theorem dX9_acknowledge_28 : decode cX9_acknowledge 28 = .ok (.aload_n 0, 1) := by decide +kernel
theorem dX9_acknowledge_29 : decode cX9_acknowledge 29 = .ok (.dup, 1) := by decide +kernel
theorem dX9_acknowledge_30 : decode cX9_acknowledge 30 = .ok (.getfield 45, 3) := by decide +kernel
theorem dX9_acknowledge_33 : decode cX9_acknowledge 33 = .ok (.iconst 1, 1) := by decide +kernel
theorem dX9_acknowledge_34 : decode cX9_acknowledge 34 = .ok (.isub, 1) := by decide +kernel
theorem dX9_acknowledge_35 : decode cX9_acknowledge 35 = .ok (.putfield 45, 3) := by decide +kernel
theorem dX9_acknowledge_38 : decode cX9_acknowledge 38 = .ok (.aload_n 0, 1) := by decide +kernel
theorem dX9_acknowledge_39 : decode cX9_acknowledge 39 = .ok (.getfield 15, 3) := by decide +kernel
theorem dX9_acknowledge_42 : decode cX9_acknowledge 42 = .ok (.iload_n 3, 1) := by decide +kernel
theorem dX9_acknowledge_43 : decode cX9_acknowledge 43 = .ok (.baload, 1) := by decide +kernel
theorem dX9_acknowledge_44 : decode cX9_acknowledge 44 = .ok (.ifCond .ne 20, 3) := by decide +kernel
theorem dX9_acknowledge_47 : decode cX9_acknowledge 47 = .ok (.aload_n 0, 1) := by decide +kernel
theorem dX9_acknowledge_48 : decode cX9_acknowledge 48 = .ok (.getfield 15, 3) := by decide +kernel
theorem dX9_acknowledge_51 : decode cX9_acknowledge 51 = .ok (.iload_n 3, 1) := by decide +kernel
theorem dX9_acknowledge_52 : decode cX9_acknowledge 52 = .ok (.iconst 1, 1) := by decide +kernel
theorem dX9_acknowledge_53 : decode cX9_acknowledge 53 = .ok (.bastore, 1) := by decide +kernel
theorem dX9_acknowledge_54 : decode cX9_acknowledge 54 = .ok (.aload_n 0, 1) := by decide +kernel
theorem dX9_acknowledge_55 : decode cX9_acknowledge 55 = .ok (.dup, 1) := by decide +kernel
theorem dX9_acknowledge_56 : decode cX9_acknowledge 56 = .ok (.getfield 48, 3) := by decide +kernel
theorem dX9_acknowledge_59 : decode cX9_acknowledge 59 = .ok (.iconst 1, 1) := by decide +kernel
theorem dX9_acknowledge_60 : decode cX9_acknowledge 60 = .ok (.iadd, 1) := by decide +kernel
theorem dX9_acknowledge_61 : decode cX9_acknowledge 61 = .ok (.putfield 48, 3) := by decide +kernel
theorem dX9_acknowledge_64 : decode cX9_acknowledge 64 = .ok (.iinc 3 1, 3) := by decide +kernel
theorem dX9_acknowledge_67 : decode cX9_acknowledge 67 = .ok (.goto (-61), 3) := by decide +kernel
theorem dX9_acknowledge_70 : decode cX9_acknowledge 70 = .ok (.return_, 1) := by decide +kernel
theorem dX9_arrive_0 : decode cX9_arrive 0 = .ok (.aload_n 0, 1) := by decide +kernel
theorem dX9_arrive_1 : decode cX9_arrive 1 = .ok (.getfield 23, 3) := by decide +kernel
theorem dX9_arrive_4 : decode cX9_arrive 4 = .ok (.iload_n 1, 1) := by decide +kernel
theorem dX9_arrive_5 : decode cX9_arrive 5 = .ok (.iload_n 2, 1) := by decide +kernel
theorem dX9_arrive_6 : decode cX9_arrive 6 = .ok (.invokestatic 51, 3) := by decide +kernel
theorem dX9_arrive_9 : decode cX9_arrive 9 = .ok (.aload_n 0, 1) := by decide +kernel
theorem dX9_arrive_10 : decode cX9_arrive 10 = .ok (.aload_n 0, 1) := by decide +kernel
theorem dX9_arrive_11 : decode cX9_arrive 11 = .ok (.getfield 23, 3) := by decide +kernel
theorem dX9_arrive_14 : decode cX9_arrive 14 = .ok (.aload_n 0, 1) := by decide +kernel
theorem dX9_arrive_15 : decode cX9_arrive 15 = .ok (.getfield 55, 3) := by decide +kernel
theorem dX9_arrive_18 : decode cX9_arrive 18 = .ok (.invokestatic 58, 3) := by decide +kernel
theorem dX9_arrive_21 : decode cX9_arrive 21 = .ok (.putfield 55, 3) := by decide +kernel
theorem dX9_arrive_24 : decode cX9_arrive 24 = .ok (.return_, 1) := by decide +kernel
theorem dX10_init_0 : decode cX10_init 0 = .ok (.aload_n 0, 1) := by decide +kernel
theorem dX10_init_1 : decode cX10_init 1 = .ok (.invokespecial 1, 3) := by decide +kernel
theorem dX10_init_4 : decode cX10_init 4 = .ok (.aload_n 0, 1) := by decide +kernel
theorem dX10_init_5 : decode cX10_init 5 = .ok (.iconst 0, 1) := by decide +kernel
theorem dX10_init_6 : decode cX10_init 6 = .ok (.iload_n 1, 1) := by decide +kernel
theorem dX10_init_7 : decode cX10_init 7 = .ok (.invokestatic 7, 3) := by decide +kernel
theorem dX10_init_10 : decode cX10_init 10 = .ok (.anewarray 13, 3) := by decide +kernel
theorem dX10_init_13 : decode cX10_init 13 = .ok (.putfield 15, 3) := by decide +kernel
theorem dX10_init_16 : decode cX10_init 16 = .ok (.return_, 1) := by decide +kernel
theorem dX10_append_0 : decode cX10_append 0 = .ok (.aload_n 0, 1) := by decide +kernel
theorem dX10_append_1 : decode cX10_append 1 = .ok (.getfield 21, 3) := by decide +kernel
theorem dX10_append_4 : decode cX10_append 4 = .ok (.aload_n 0, 1) := by decide +kernel
theorem dX10_append_5 : decode cX10_append 5 = .ok (.getfield 15, 3) := by decide +kernel
theorem dX10_append_8 : decode cX10_append 8 = .ok (.arraylength, 1) := by decide +kernel
theorem dX10_append_9 : decode cX10_append 9 = .ok (.if_icmp .ge 28, 3) := by decide +kernel
theorem dX10_append_12 : decode cX10_append 12 = .ok (.aload_n 1, 1) := by decide +kernel
theorem dX10_append_13 : decode cX10_append 13 = .ok (.iload_n 2, 1) := by decide +kernel
theorem dX10_append_14 : decode cX10_append 14 = .ok (.putfield 25, 3) := by decide +kernel
theorem dX10_append_17 : decode cX10_append 17 = .ok (.aload_n 0, 1) := by decide +kernel
theorem dX10_append_18 : decode cX10_append 18 = .ok (.getfield 15, 3) := by decide +kernel
theorem dX10_append_21 : decode cX10_append 21 = .ok (.aload_n 0, 1) := by decide +kernel
theorem dX10_append_22 : decode cX10_append 22 = .ok (.getfield 21, 3) := by decide +kernel
theorem dX10_append_25 : decode cX10_append 25 = .ok (.aload_n 1, 1) := by decide +kernel
theorem dX10_append_26 : decode cX10_append 26 = .ok (.aastore, 1) := by decide +kernel
theorem dX10_append_27 : decode cX10_append 27 = .ok (.aload_n 0, 1) := by decide +kernel
theorem dX10_append_28 : decode cX10_append 28 = .ok (.dup, 1) := by decide +kernel
theorem dX10_append_29 : decode cX10_append 29 = .ok (.getfield 21, 3) := by decide +kernel
theorem dX10_append_32 : decode cX10_append 32 = .ok (.iconst 1, 1) := by decide +kernel
theorem dX10_append_33 : decode cX10_append 33 = .ok (.iadd, 1) := by decide +kernel
theorem dX10_append_34 : decode cX10_append 34 = .ok (.putfield 21, 3) := by decide +kernel
theorem dX10_append_37 : decode cX10_append 37 = .ok (.return_, 1) := by decide +kernel
theorem dX10_takeDue_0 : decode cX10_takeDue 0 = .ok (.iconst 0, 1) := by decide +kernel
theorem dX10_takeDue_1 : decode cX10_takeDue 1 = .ok (.istore_n 2, 1) := by decide +kernel
theorem dX10_takeDue_2 : decode cX10_takeDue 2 = .ok (.iload_n 2, 1) := by decide +kernel
theorem dX10_takeDue_3 : decode cX10_takeDue 3 = .ok (.aload_n 0, 1) := by decide +kernel
theorem dX10_takeDue_4 : decode cX10_takeDue 4 = .ok (.getfield 21, 3) := by decide +kernel
theorem dX10_takeDue_7 : decode cX10_takeDue 7 = .ok (.if_icmp .ge 82, 3) := by decide +kernel
theorem dX10_takeDue_10 : decode cX10_takeDue 10 = .ok (.iload_n 2, 1) := by decide +kernel
theorem dX10_takeDue_11 : decode cX10_takeDue 11 = .ok (.aload_n 0, 1) := by decide +kernel
theorem dX10_takeDue_12 : decode cX10_takeDue 12 = .ok (.getfield 15, 3) := by decide +kernel
theorem dX10_takeDue_15 : decode cX10_takeDue 15 = .ok (.arraylength, 1) := by decide +kernel
theorem dX10_takeDue_16 : decode cX10_takeDue 16 = .ok (.if_icmp .ge 73, 3) := by decide +kernel
theorem dX10_takeDue_19 : decode cX10_takeDue 19 = .ok (.aload_n 0, 1) := by decide +kernel
theorem dX10_takeDue_20 : decode cX10_takeDue 20 = .ok (.getfield 15, 3) := by decide +kernel
theorem dX10_takeDue_23 : decode cX10_takeDue 23 = .ok (.iload_n 2, 1) := by decide +kernel
theorem dX10_takeDue_24 : decode cX10_takeDue 24 = .ok (.aaload, 1) := by decide +kernel
theorem dX10_takeDue_25 : decode cX10_takeDue 25 = .ok (.astore_n 3, 1) := by decide +kernel
theorem dX10_takeDue_26 : decode cX10_takeDue 26 = .ok (.aload_n 3, 1) := by decide +kernel
theorem dX10_takeDue_27 : decode cX10_takeDue 27 = .ok (.ifnull 56, 3) := by decide +kernel
theorem dX10_takeDue_30 : decode cX10_takeDue 30 = .ok (.aload_n 3, 1) := by decide +kernel
theorem dX10_takeDue_31 : decode cX10_takeDue 31 = .ok (.getfield 25, 3) := by decide +kernel
theorem dX10_takeDue_34 : decode cX10_takeDue 34 = .ok (.iload_n 1, 1) := by decide +kernel
theorem dX10_takeDue_35 : decode cX10_takeDue 35 = .ok (.if_icmp .ne 48, 3) := by decide +kernel
theorem dX10_takeDue_38 : decode cX10_takeDue 38 = .ok (.aload_n 0, 1) := by decide +kernel
theorem dX10_takeDue_39 : decode cX10_takeDue 39 = .ok (.getfield 15, 3) := by decide +kernel
theorem dX10_takeDue_42 : decode cX10_takeDue 42 = .ok (.iload_n 2, 1) := by decide +kernel
theorem dX10_takeDue_43 : decode cX10_takeDue 43 = .ok (.iconst 1, 1) := by decide +kernel
theorem dX10_takeDue_44 : decode cX10_takeDue 44 = .ok (.iadd, 1) := by decide +kernel
theorem dX10_takeDue_45 : decode cX10_takeDue 45 = .ok (.aload_n 0, 1) := by decide +kernel
theorem dX10_takeDue_46 : decode cX10_takeDue 46 = .ok (.getfield 15, 3) := by decide +kernel
theorem dX10_takeDue_49 : decode cX10_takeDue 49 = .ok (.iload_n 2, 1) := by decide +kernel
theorem dX10_takeDue_50 : decode cX10_takeDue 50 = .ok (.aload_n 0, 1) := by decide +kernel
theorem dX10_takeDue_51 : decode cX10_takeDue 51 = .ok (.getfield 21, 3) := by decide +kernel
theorem dX10_takeDue_54 : decode cX10_takeDue 54 = .ok (.iload_n 2, 1) := by decide +kernel
theorem dX10_takeDue_55 : decode cX10_takeDue 55 = .ok (.isub, 1) := by decide +kernel
theorem dX10_takeDue_56 : decode cX10_takeDue 56 = .ok (.iconst 1, 1) := by decide +kernel
theorem dX10_takeDue_57 : decode cX10_takeDue 57 = .ok (.isub, 1) := by decide +kernel
theorem dX10_takeDue_58 : decode cX10_takeDue 58 = .ok (.invokestatic 28, 3) := by decide +kernel
theorem dX10_takeDue_61 : decode cX10_takeDue 61 = .ok (.aload_n 0, 1) := by decide +kernel
theorem dX10_takeDue_62 : decode cX10_takeDue 62 = .ok (.dup, 1) := by decide +kernel
theorem dX10_takeDue_63 : decode cX10_takeDue 63 = .ok (.getfield 21, 3) := by decide +kernel
theorem dX10_takeDue_66 : decode cX10_takeDue 66 = .ok (.iconst 1, 1) := by decide +kernel
theorem dX10_takeDue_67 : decode cX10_takeDue 67 = .ok (.isub, 1) := by decide +kernel
theorem dX10_takeDue_68 : decode cX10_takeDue 68 = .ok (.putfield 21, 3) := by decide +kernel
theorem dX10_takeDue_71 : decode cX10_takeDue 71 = .ok (.aload_n 0, 1) := by decide +kernel
theorem dX10_takeDue_72 : decode cX10_takeDue 72 = .ok (.getfield 15, 3) := by decide +kernel
theorem dX10_takeDue_75 : decode cX10_takeDue 75 = .ok (.aload_n 0, 1) := by decide +kernel
theorem dX10_takeDue_76 : decode cX10_takeDue 76 = .ok (.getfield 21, 3) := by decide +kernel
theorem dX10_takeDue_79 : decode cX10_takeDue 79 = .ok (.aconst_null, 1) := by decide +kernel
theorem dX10_takeDue_80 : decode cX10_takeDue 80 = .ok (.aastore, 1) := by decide +kernel
theorem dX10_takeDue_81 : decode cX10_takeDue 81 = .ok (.aload_n 3, 1) := by decide +kernel
theorem dX10_takeDue_82 : decode cX10_takeDue 82 = .ok (.areturn, 1) := by decide +kernel
theorem dX10_takeDue_83 : decode cX10_takeDue 83 = .ok (.iinc 2 1, 3) := by decide +kernel
theorem dX10_takeDue_86 : decode cX10_takeDue 86 = .ok (.goto (-84), 3) := by decide +kernel
theorem dX10_takeDue_89 : decode cX10_takeDue 89 = .ok (.aconst_null, 1) := by decide +kernel
theorem dX10_takeDue_90 : decode cX10_takeDue 90 = .ok (.areturn, 1) := by decide +kernel
theorem dX11_init_0 : decode cX11_init 0 = .ok (.aload_n 0, 1) := by decide +kernel
theorem dX11_init_1 : decode cX11_init 1 = .ok (.invokespecial 1, 3) := by decide +kernel
theorem dX11_init_4 : decode cX11_init 4 = .ok (.aload_n 0, 1) := by decide +kernel
theorem dX11_init_5 : decode cX11_init 5 = .ok (.new 7, 3) := by decide +kernel
theorem dX11_init_8 : decode cX11_init 8 = .ok (.dup, 1) := by decide +kernel
theorem dX11_init_9 : decode cX11_init 9 = .ok (.invokespecial 9, 3) := by decide +kernel
theorem dX11_init_12 : decode cX11_init 12 = .ok (.putfield 10, 3) := by decide +kernel
theorem dX11_init_15 : decode cX11_init 15 = .ok (.aload_n 0, 1) := by decide +kernel
theorem dX11_init_16 : decode cX11_init 16 = .ok (.iconst 4, 1) := by decide +kernel
theorem dX11_init_17 : decode cX11_init 17 = .ok (.anewarray 16, 3) := by decide +kernel
theorem dX11_init_20 : decode cX11_init 20 = .ok (.putfield 18, 3) := by decide +kernel
theorem dX11_init_23 : decode cX11_init 23 = .ok (.iconst 0, 1) := by decide +kernel
theorem dX11_init_24 : decode cX11_init 24 = .ok (.istore_n 1, 1) := by decide +kernel
theorem dX11_init_25 : decode cX11_init 25 = .ok (.iload_n 1, 1) := by decide +kernel
theorem dX11_init_26 : decode cX11_init 26 = .ok (.iconst 4, 1) := by decide +kernel
theorem dX11_init_27 : decode cX11_init 27 = .ok (.if_icmp .ge 22, 3) := by decide +kernel
theorem dX11_init_30 : decode cX11_init 30 = .ok (.aload_n 0, 1) := by decide +kernel
theorem dX11_init_31 : decode cX11_init 31 = .ok (.getfield 18, 3) := by decide +kernel
theorem dX11_init_34 : decode cX11_init 34 = .ok (.iload_n 1, 1) := by decide +kernel
theorem dX11_init_35 : decode cX11_init 35 = .ok (.new 16, 3) := by decide +kernel
theorem dX11_init_38 : decode cX11_init 38 = .ok (.dup, 1) := by decide +kernel
theorem dX11_init_39 : decode cX11_init 39 = .ok (.invokespecial 22, 3) := by decide +kernel
theorem dX11_init_42 : decode cX11_init 42 = .ok (.aastore, 1) := by decide +kernel
theorem dX11_init_43 : decode cX11_init 43 = .ok (.iinc 1 1, 3) := by decide +kernel
theorem dX11_init_46 : decode cX11_init 46 = .ok (.goto (-21), 3) := by decide +kernel
theorem dX11_init_49 : decode cX11_init 49 = .ok (.aload_n 0, 1) := by decide +kernel
theorem dX11_init_50 : decode cX11_init 50 = .ok (.new 23, 3) := by decide +kernel
theorem dX11_init_53 : decode cX11_init 53 = .ok (.dup, 1) := by decide +kernel
theorem dX11_init_54 : decode cX11_init 54 = .ok (.aload_n 0, 1) := by decide +kernel
theorem dX11_init_55 : decode cX11_init 55 = .ok (.getfield 10, 3) := by decide +kernel
theorem dX11_init_58 : decode cX11_init 58 = .ok (.aload_n 0, 1) := by decide +kernel
theorem dX11_init_59 : decode cX11_init 59 = .ok (.getfield 18, 3) := by decide +kernel
theorem dX11_init_62 : decode cX11_init 62 = .ok (.invokespecial 25, 3) := by decide +kernel
theorem dX11_init_65 : decode cX11_init 65 = .ok (.putfield 28, 3) := by decide +kernel
theorem dX11_init_68 : decode cX11_init 68 = .ok (.aload_n 0, 1) := by decide +kernel
theorem dX11_init_69 : decode cX11_init 69 = .ok (.new 32, 3) := by decide +kernel
theorem dX11_init_72 : decode cX11_init 72 = .ok (.dup, 1) := by decide +kernel
theorem dX11_init_73 : decode cX11_init 73 = .ok (.aload_n 0, 1) := by decide +kernel
theorem dX11_init_74 : decode cX11_init 74 = .ok (.getfield 10, 3) := by decide +kernel
theorem dX11_init_77 : decode cX11_init 77 = .ok (.aload_n 0, 1) := by decide +kernel
theorem dX11_init_78 : decode cX11_init 78 = .ok (.getfield 18, 3) := by decide +kernel
theorem dX11_init_81 : decode cX11_init 81 = .ok (.invokespecial 34, 3) := by decide +kernel
theorem dX11_init_84 : decode cX11_init 84 = .ok (.putfield 35, 3) := by decide +kernel
theorem dX11_init_87 : decode cX11_init 87 = .ok (.aload_n 0, 1) := by decide +kernel
theorem dX11_init_88 : decode cX11_init 88 = .ok (.sipush 200, 3) := by decide +kernel
theorem dX11_init_91 : decode cX11_init 91 = .ok (.newarray .boolean, 2) := by decide +kernel
theorem dX11_init_93 : decode cX11_init 93 = .ok (.putfield 39, 3) := by decide +kernel
theorem dX11_init_96 : decode cX11_init 96 = .ok (.return_, 1) := by decide +kernel
theorem dX11_setPath_0 : decode cX11_setPath 0 = .ok (.iload_n 1, 1) := by decide +kernel
theorem dX11_setPath_1 : decode cX11_setPath 1 = .ok (.invokestatic 43, 3) := by decide +kernel
theorem dX11_setPath_4 : decode cX11_setPath 4 = .ok (.iload_n 2, 1) := by decide +kernel
theorem dX11_setPath_5 : decode cX11_setPath 5 = .ok (.iconst 1, 1) := by decide +kernel
theorem dX11_setPath_6 : decode cX11_setPath 6 = .ok (.bipush 30, 2) := by decide +kernel
theorem dX11_setPath_8 : decode cX11_setPath 8 = .ok (.invokestatic 47, 3) := by decide +kernel
theorem dX11_setPath_11 : decode cX11_setPath 11 = .ok (.iload_n 3, 1) := by decide +kernel
theorem dX11_setPath_12 : decode cX11_setPath 12 = .ok (.iconst 1, 1) := by decide +kernel
theorem dX11_setPath_13 : decode cX11_setPath 13 = .ok (.bipush 9, 2) := by decide +kernel
theorem dX11_setPath_15 : decode cX11_setPath 15 = .ok (.invokestatic 47, 3) := by decide +kernel
theorem dX11_setPath_18 : decode cX11_setPath 18 = .ok (.iload 4, 2) := by decide +kernel
theorem dX11_setPath_20 : decode cX11_setPath 20 = .ok (.iconst 1, 1) := by decide +kernel
theorem dX11_setPath_21 : decode cX11_setPath 21 = .ok (.bipush 30, 2) := by decide +kernel
theorem dX11_setPath_23 : decode cX11_setPath 23 = .ok (.invokestatic 47, 3) := by decide +kernel
theorem dX11_setPath_26 : decode cX11_setPath 26 = .ok (.iload 5, 2) := by decide +kernel
theorem dX11_setPath_28 : decode cX11_setPath 28 = .ok (.iconst 0, 1) := by decide +kernel
theorem dX11_setPath_29 : decode cX11_setPath 29 = .ok (.bipush 30, 2) := by decide +kernel
theorem dX11_setPath_31 : decode cX11_setPath 31 = .ok (.invokestatic 47, 3) := by decide +kernel
theorem dX11_setPath_34 : decode cX11_setPath 34 = .ok (.aload_n 0, 1) := by decide +kernel
theorem dX11_setPath_35 : decode cX11_setPath 35 = .ok (.getfield 10, 3) := by decide +kernel
theorem dX11_setPath_38 : decode cX11_setPath 38 = .ok (.iload_n 1, 1) := by decide +kernel
theorem dX11_setPath_39 : decode cX11_setPath 39 = .ok (.invokevirtual 51, 3) := by decide +kernel
theorem dX11_setPath_42 : decode cX11_setPath 42 = .ok (.astore 6, 2) := by decide +kernel
theorem dX11_setPath_44 : decode cX11_setPath 44 = .ok (.aload 6, 2) := by decide +kernel
theorem dX11_setPath_46 : decode cX11_setPath 46 = .ok (.iload_n 2, 1) := by decide +kernel
theorem dX11_setPath_47 : decode cX11_setPath 47 = .ok (.putfield 55, 3) := by decide +kernel
theorem dX11_setPath_50 : decode cX11_setPath 50 = .ok (.aload 6, 2) := by decide +kernel
theorem dX11_setPath_52 : decode cX11_setPath 52 = .ok (.iload_n 3, 1) := by decide +kernel
theorem dX11_setPath_53 : decode cX11_setPath 53 = .ok (.putfield 61, 3) := by decide +kernel
theorem dX11_setPath_56 : decode cX11_setPath 56 = .ok (.aload 6, 2) := by decide +kernel
theorem dX11_setPath_58 : decode cX11_setPath 58 = .ok (.iload 4, 2) := by decide +kernel
theorem dX11_setPath_60 : decode cX11_setPath 60 = .ok (.putfield 64, 3) := by decide +kernel
theorem dX11_setPath_63 : decode cX11_setPath 63 = .ok (.aload 6, 2) := by decide +kernel
theorem dX11_setPath_65 : decode cX11_setPath 65 = .ok (.iload 5, 2) := by decide +kernel
theorem dX11_setPath_67 : decode cX11_setPath 67 = .ok (.putfield 67, 3) := by decide +kernel
theorem dX11_setPath_70 : decode cX11_setPath 70 = .ok (.return_, 1) := by decide +kernel
theorem dX11_setUp_0 : decode cX11_setUp 0 = .ok (.iload_n 1, 1) := by decide +kernel
theorem dX11_setUp_1 : decode cX11_setUp 1 = .ok (.invokestatic 43, 3) := by decide +kernel
theorem dX11_setUp_4 : decode cX11_setUp 4 = .ok (.aload_n 0, 1) := by decide +kernel
theorem dX11_setUp_5 : decode cX11_setUp 5 = .ok (.getfield 10, 3) := by decide +kernel
theorem dX11_setUp_8 : decode cX11_setUp 8 = .ok (.iload_n 1, 1) := by decide +kernel
theorem dX11_setUp_9 : decode cX11_setUp 9 = .ok (.invokevirtual 51, 3) := by decide +kernel
theorem dX11_setUp_12 : decode cX11_setUp 12 = .ok (.astore_n 3, 1) := by decide +kernel
theorem dX11_setUp_13 : decode cX11_setUp 13 = .ok (.aload_n 3, 1) := by decide +kernel
theorem dX11_setUp_14 : decode cX11_setUp 14 = .ok (.getfield 70, 3) := by decide +kernel
theorem dX11_setUp_17 : decode cX11_setUp 17 = .ok (.istore 4, 2) := by decide +kernel
theorem dX11_setUp_19 : decode cX11_setUp 19 = .ok (.aload_n 3, 1) := by decide +kernel
theorem dX11_setUp_20 : decode cX11_setUp 20 = .ok (.iload_n 2, 1) := by decide +kernel
theorem dX11_setUp_21 : decode cX11_setUp 21 = .ok (.putfield 70, 3) := by decide +kernel
theorem dX11_setUp_24 : decode cX11_setUp 24 = .ok (.iload 4, 2) := by decide +kernel
theorem dX11_setUp_26 : decode cX11_setUp 26 = .ok (.ireturn, 1) := by decide +kernel
theorem dX11_lose_0 : decode cX11_lose 0 = .ok (.iload_n 1, 1) := by decide +kernel
theorem dX11_lose_1 : decode cX11_lose 1 = .ok (.invokestatic 43, 3) := by decide +kernel
theorem dX11_lose_4 : decode cX11_lose 4 = .ok (.iload_n 3, 1) := by decide +kernel
theorem dX11_lose_5 : decode cX11_lose 5 = .ok (.iconst 0, 1) := by decide +kernel
theorem dX11_lose_6 : decode cX11_lose 6 = .ok (.bipush 20, 2) := by decide +kernel
theorem dX11_lose_8 : decode cX11_lose 8 = .ok (.invokestatic 47, 3) := by decide +kernel
theorem dX11_lose_11 : decode cX11_lose 11 = .ok (.aload_n 0, 1) := by decide +kernel
theorem dX11_lose_12 : decode cX11_lose 12 = .ok (.getfield 10, 3) := by decide +kernel
theorem dX11_lose_15 : decode cX11_lose 15 = .ok (.iload_n 1, 1) := by decide +kernel
theorem dX11_lose_16 : decode cX11_lose 16 = .ok (.invokevirtual 51, 3) := by decide +kernel
theorem dX11_lose_19 : decode cX11_lose 19 = .ok (.astore 4, 2) := by decide +kernel
theorem dX11_lose_21 : decode cX11_lose 21 = .ok (.iload_n 2, 1) := by decide +kernel
theorem dX11_lose_22 : decode cX11_lose 22 = .ok (.ifCond .eq 12, 3) := by decide +kernel
theorem dX11_lose_25 : decode cX11_lose 25 = .ok (.aload 4, 2) := by decide +kernel
theorem dX11_lose_27 : decode cX11_lose 27 = .ok (.iload_n 3, 1) := by decide +kernel
theorem dX11_lose_28 : decode cX11_lose 28 = .ok (.putfield 74, 3) := by decide +kernel
theorem dX11_lose_31 : decode cX11_lose 31 = .ok (.goto 9, 3) := by decide +kernel
theorem dX11_lose_34 : decode cX11_lose 34 = .ok (.aload 4, 2) := by decide +kernel
theorem dX11_lose_36 : decode cX11_lose 36 = .ok (.iload_n 3, 1) := by decide +kernel
theorem dX11_lose_37 : decode cX11_lose 37 = .ok (.putfield 77, 3) := by decide +kernel
theorem dX11_lose_40 : decode cX11_lose 40 = .ok (.return_, 1) := by decide +kernel
theorem dX11_late_0 : decode cX11_late 0 = .ok (.iload_n 1, 1) := by decide +kernel
theorem dX11_late_1 : decode cX11_late 1 = .ok (.invokestatic 43, 3) := by decide +kernel
theorem dX11_late_4 : decode cX11_late 4 = .ok (.iload_n 2, 1) := by decide +kernel
theorem dX11_late_5 : decode cX11_late 5 = .ok (.iconst 0, 1) := by decide +kernel
theorem dX11_late_6 : decode cX11_late 6 = .ok (.bipush 20, 2) := by decide +kernel
theorem dX11_late_8 : decode cX11_late 8 = .ok (.invokestatic 47, 3) := by decide +kernel
theorem dX11_late_11 : decode cX11_late 11 = .ok (.iload_n 3, 1) := by decide +kernel
theorem dX11_late_12 : decode cX11_late 12 = .ok (.iconst 0, 1) := by decide +kernel
theorem dX11_late_13 : decode cX11_late 13 = .ok (.bipush 50, 2) := by decide +kernel
theorem dX11_late_15 : decode cX11_late 15 = .ok (.invokestatic 47, 3) := by decide +kernel
theorem dX11_late_18 : decode cX11_late 18 = .ok (.aload_n 0, 1) := by decide +kernel
theorem dX11_late_19 : decode cX11_late 19 = .ok (.getfield 10, 3) := by decide +kernel
theorem dX11_late_22 : decode cX11_late 22 = .ok (.iload_n 1, 1) := by decide +kernel
theorem dX11_late_23 : decode cX11_late 23 = .ok (.invokevirtual 51, 3) := by decide +kernel
theorem dX11_late_26 : decode cX11_late 26 = .ok (.astore 4, 2) := by decide +kernel
theorem dX11_late_28 : decode cX11_late 28 = .ok (.aload 4, 2) := by decide +kernel
theorem dX11_late_30 : decode cX11_late 30 = .ok (.iload_n 2, 1) := by decide +kernel
theorem dX11_late_31 : decode cX11_late 31 = .ok (.putfield 80, 3) := by decide +kernel
theorem dX11_late_34 : decode cX11_late 34 = .ok (.aload 4, 2) := by decide +kernel
theorem dX11_late_36 : decode cX11_late 36 = .ok (.iload_n 3, 1) := by decide +kernel
theorem dX11_late_37 : decode cX11_late 37 = .ok (.putfield 83, 3) := by decide +kernel
theorem dX11_late_40 : decode cX11_late 40 = .ok (.return_, 1) := by decide +kernel
theorem dX11_foreign_0 : decode cX11_foreign 0 = .ok (.iload_n 1, 1) := by decide +kernel
theorem dX11_foreign_1 : decode cX11_foreign 1 = .ok (.invokestatic 43, 3) := by decide +kernel
theorem dX11_foreign_4 : decode cX11_foreign 4 = .ok (.iload_n 2, 1) := by decide +kernel
theorem dX11_foreign_5 : decode cX11_foreign 5 = .ok (.iconst 1, 1) := by decide +kernel
theorem dX11_foreign_6 : decode cX11_foreign 6 = .ok (.bipush 30, 2) := by decide +kernel
theorem dX11_foreign_8 : decode cX11_foreign 8 = .ok (.invokestatic 47, 3) := by decide +kernel
theorem dX11_foreign_11 : decode cX11_foreign 11 = .ok (.aload_n 0, 1) := by decide +kernel
theorem dX11_foreign_12 : decode cX11_foreign 12 = .ok (.getfield 10, 3) := by decide +kernel
theorem dX11_foreign_15 : decode cX11_foreign 15 = .ok (.iload_n 1, 1) := by decide +kernel
theorem dX11_foreign_16 : decode cX11_foreign 16 = .ok (.iload_n 2, 1) := by decide +kernel
theorem dX11_foreign_17 : decode cX11_foreign 17 = .ok (.invokevirtual 86, 3) := by decide +kernel
theorem dX11_foreign_20 : decode cX11_foreign 20 = .ok (.ireturn, 1) := by decide +kernel
theorem dX11_setCookies_0 : decode cX11_setCookies 0 = .ok (.aload_n 0, 1) := by decide +kernel
theorem dX11_setCookies_1 : decode cX11_setCookies 1 = .ok (.getfield 28, 3) := by decide +kernel
theorem dX11_setCookies_4 : decode cX11_setCookies 4 = .ok (.getfield 90, 3) := by decide +kernel
theorem dX11_setCookies_7 : decode cX11_setCookies 7 = .ok (.istore_n 2, 1) := by decide +kernel
theorem dX11_setCookies_8 : decode cX11_setCookies 8 = .ok (.aload_n 0, 1) := by decide +kernel
theorem dX11_setCookies_9 : decode cX11_setCookies 9 = .ok (.getfield 28, 3) := by decide +kernel
theorem dX11_setCookies_12 : decode cX11_setCookies 12 = .ok (.iload_n 1, 1) := by decide +kernel
theorem dX11_setCookies_13 : decode cX11_setCookies 13 = .ok (.putfield 90, 3) := by decide +kernel
theorem dX11_setCookies_16 : decode cX11_setCookies 16 = .ok (.iload_n 2, 1) := by decide +kernel
theorem dX11_setCookies_17 : decode cX11_setCookies 17 = .ok (.ireturn, 1) := by decide +kernel
theorem dX11_read_0 : decode cX11_read 0 = .ok (.iload_n 1, 1) := by decide +kernel
theorem dX11_read_1 : decode cX11_read 1 = .ok (.invokestatic 93, 3) := by decide +kernel
theorem dX11_read_4 : decode cX11_read 4 = .ok (.iload_n 2, 1) := by decide +kernel
theorem dX11_read_5 : decode cX11_read 5 = .ok (.iconst 1, 1) := by decide +kernel
theorem dX11_read_6 : decode cX11_read 6 = .ok (.sipush 200, 3) := by decide +kernel
theorem dX11_read_9 : decode cX11_read 9 = .ok (.invokestatic 47, 3) := by decide +kernel
theorem dX11_read_12 : decode cX11_read 12 = .ok (.aload_n 0, 1) := by decide +kernel
theorem dX11_read_13 : decode cX11_read 13 = .ok (.getfield 28, 3) := by decide +kernel
theorem dX11_read_16 : decode cX11_read 16 = .ok (.aload_n 0, 1) := by decide +kernel
theorem dX11_read_17 : decode cX11_read 17 = .ok (.getfield 18, 3) := by decide +kernel
theorem dX11_read_20 : decode cX11_read 20 = .ok (.iload_n 1, 1) := by decide +kernel
theorem dX11_read_21 : decode cX11_read 21 = .ok (.aaload, 1) := by decide +kernel
theorem dX11_read_22 : decode cX11_read 22 = .ok (.iload_n 2, 1) := by decide +kernel
theorem dX11_read_23 : decode cX11_read 23 = .ok (.invokevirtual 96, 3) := by decide +kernel
theorem dX11_read_26 : decode cX11_read 26 = .ok (.ireturn, 1) := by decide +kernel
theorem dX11_loseState_0 : decode cX11_loseState 0 = .ok (.aload_n 0, 1) := by decide +kernel
theorem dX11_loseState_1 : decode cX11_loseState 1 = .ok (.getfield 28, 3) := by decide +kernel
theorem dX11_loseState_4 : decode cX11_loseState 4 = .ok (.invokevirtual 100, 3) := by decide +kernel
theorem dX11_loseState_7 : decode cX11_loseState 7 = .ok (.return_, 1) := by decide +kernel
theorem dX11_connect_0 : decode cX11_connect 0 = .ok (.iload_n 1, 1) := by decide +kernel
theorem dX11_connect_1 : decode cX11_connect 1 = .ok (.iconst (-1), 1) := by decide +kernel
theorem dX11_connect_2 : decode cX11_connect 2 = .ok (.bipush 9, 2) := by decide +kernel
theorem dX11_connect_4 : decode cX11_connect 4 = .ok (.invokestatic 47, 3) := by decide +kernel
theorem dX11_connect_7 : decode cX11_connect 7 = .ok (.aload_n 0, 1) := by decide +kernel
theorem dX11_connect_8 : decode cX11_connect 8 = .ok (.getfield 35, 3) := by decide +kernel
theorem dX11_connect_11 : decode cX11_connect 11 = .ok (.getfield 103, 3) := by decide +kernel
theorem dX11_connect_14 : decode cX11_connect 14 = .ok (.ifCond .ne 7, 3) := by decide +kernel
theorem dX11_connect_17 : decode cX11_connect 17 = .ok (.iconst 1, 1) := by decide +kernel
theorem dX11_connect_18 : decode cX11_connect 18 = .ok (.goto 4, 3) := by decide +kernel
theorem dX11_connect_21 : decode cX11_connect 21 = .ok (.iconst 0, 1) := by decide +kernel
theorem dX11_connect_22 : decode cX11_connect 22 = .ok (.invokestatic 106, 3) := by decide +kernel
theorem dX11_connect_25 : decode cX11_connect 25 = .ok (.aload_n 0, 1) := by decide +kernel
theorem dX11_connect_26 : decode cX11_connect 26 = .ok (.getfield 35, 3) := by decide +kernel
theorem dX11_connect_29 : decode cX11_connect 29 = .ok (.iload_n 1, 1) := by decide +kernel
theorem dX11_connect_30 : decode cX11_connect 30 = .ok (.invokevirtual 110, 3) := by decide +kernel
theorem dX11_connect_33 : decode cX11_connect 33 = .ok (.return_, 1) := by decide +kernel
theorem dX11_write_0 : decode cX11_write 0 = .ok (.iload_n 1, 1) := by decide +kernel
theorem dX11_write_1 : decode cX11_write 1 = .ok (.invokestatic 93, 3) := by decide +kernel
theorem dX11_write_4 : decode cX11_write 4 = .ok (.iload_n 2, 1) := by decide +kernel
theorem dX11_write_5 : decode cX11_write 5 = .ok (.iconst 1, 1) := by decide +kernel
theorem dX11_write_6 : decode cX11_write 6 = .ok (.sipush 200, 3) := by decide +kernel
theorem dX11_write_9 : decode cX11_write 9 = .ok (.invokestatic 47, 3) := by decide +kernel
theorem dX11_write_12 : decode cX11_write 12 = .ok (.aload_n 0, 1) := by decide +kernel
theorem dX11_write_13 : decode cX11_write 13 = .ok (.getfield 18, 3) := by decide +kernel
theorem dX11_write_16 : decode cX11_write 16 = .ok (.iload_n 1, 1) := by decide +kernel
theorem dX11_write_17 : decode cX11_write 17 = .ok (.aaload, 1) := by decide +kernel
theorem dX11_write_18 : decode cX11_write 18 = .ok (.astore_n 3, 1) := by decide +kernel
theorem dX11_write_19 : decode cX11_write 19 = .ok (.aload_n 3, 1) := by decide +kernel
theorem dX11_write_20 : decode cX11_write 20 = .ok (.getfield 113, 3) := by decide +kernel
theorem dX11_write_23 : decode cX11_write 23 = .ok (.iload_n 2, 1) := by decide +kernel
theorem dX11_write_24 : decode cX11_write 24 = .ok (.iadd, 1) := by decide +kernel
theorem dX11_write_25 : decode cX11_write 25 = .ok (.sipush 200, 3) := by decide +kernel
theorem dX11_write_28 : decode cX11_write 28 = .ok (.if_icmp .gt 7, 3) := by decide +kernel
theorem dX11_write_31 : decode cX11_write 31 = .ok (.iconst 1, 1) := by decide +kernel
theorem dX11_write_32 : decode cX11_write 32 = .ok (.goto 4, 3) := by decide +kernel
theorem dX11_write_35 : decode cX11_write 35 = .ok (.iconst 0, 1) := by decide +kernel
theorem dX11_write_36 : decode cX11_write 36 = .ok (.invokestatic 106, 3) := by decide +kernel
theorem dX11_write_39 : decode cX11_write 39 = .ok (.aload_n 3, 1) := by decide +kernel
theorem dX11_write_40 : decode cX11_write 40 = .ok (.dup, 1) := by decide +kernel
theorem dX11_write_41 : decode cX11_write 41 = .ok (.getfield 113, 3) := by decide +kernel
theorem dX11_write_44 : decode cX11_write 44 = .ok (.iload_n 2, 1) := by decide +kernel
theorem dX11_write_45 : decode cX11_write 45 = .ok (.iadd, 1) := by decide +kernel
theorem dX11_write_46 : decode cX11_write 46 = .ok (.putfield 113, 3) := by decide +kernel
theorem dX11_write_49 : decode cX11_write 49 = .ok (.aload_n 3, 1) := by decide +kernel
theorem dX11_write_50 : decode cX11_write 50 = .ok (.getfield 113, 3) := by decide +kernel
theorem dX11_write_53 : decode cX11_write 53 = .ok (.ireturn, 1) := by decide +kernel
theorem dX11_setWay_0 : decode cX11_setWay 0 = .ok (.iload_n 1, 1) := by decide +kernel
theorem dX11_setWay_1 : decode cX11_setWay 1 = .ok (.invokestatic 43, 3) := by decide +kernel
theorem dX11_setWay_4 : decode cX11_setWay 4 = .ok (.iload_n 2, 1) := by decide +kernel
theorem dX11_setWay_5 : decode cX11_setWay 5 = .ok (.iconst 0, 1) := by decide +kernel
theorem dX11_setWay_6 : decode cX11_setWay 6 = .ok (.iconst 2, 1) := by decide +kernel
theorem dX11_setWay_7 : decode cX11_setWay 7 = .ok (.invokestatic 47, 3) := by decide +kernel
theorem dX11_setWay_10 : decode cX11_setWay 10 = .ok (.aload_n 0, 1) := by decide +kernel
theorem dX11_setWay_11 : decode cX11_setWay 11 = .ok (.getfield 35, 3) := by decide +kernel
theorem dX11_setWay_14 : decode cX11_setWay 14 = .ok (.iload_n 1, 1) := by decide +kernel
theorem dX11_setWay_15 : decode cX11_setWay 15 = .ok (.invokevirtual 116, 3) := by decide +kernel
theorem dX11_setWay_18 : decode cX11_setWay 18 = .ok (.getfield 120, 3) := by decide +kernel
theorem dX11_setWay_21 : decode cX11_setWay 21 = .ok (.astore_n 3, 1) := by decide +kernel
theorem dX11_setWay_22 : decode cX11_setWay 22 = .ok (.aload_n 3, 1) := by decide +kernel
theorem dX11_setWay_23 : decode cX11_setWay 23 = .ok (.getfield 126, 3) := by decide +kernel
theorem dX11_setWay_26 : decode cX11_setWay 26 = .ok (.istore 4, 2) := by decide +kernel
theorem dX11_setWay_28 : decode cX11_setWay 28 = .ok (.aload_n 3, 1) := by decide +kernel
theorem dX11_setWay_29 : decode cX11_setWay 29 = .ok (.iload_n 2, 1) := by decide +kernel
theorem dX11_setWay_30 : decode cX11_setWay 30 = .ok (.putfield 126, 3) := by decide +kernel
theorem dX11_setWay_33 : decode cX11_setWay 33 = .ok (.iload 4, 2) := by decide +kernel
theorem dX11_setWay_35 : decode cX11_setWay 35 = .ok (.ireturn, 1) := by decide +kernel
theorem dX11_check_0 : decode cX11_check 0 = .ok (.iload_n 1, 1) := by decide +kernel
theorem dX11_check_1 : decode cX11_check 1 = .ok (.invokestatic 43, 3) := by decide +kernel
theorem dX11_check_4 : decode cX11_check 4 = .ok (.aload_n 0, 1) := by decide +kernel
theorem dX11_check_5 : decode cX11_check 5 = .ok (.getfield 35, 3) := by decide +kernel
theorem dX11_check_8 : decode cX11_check 8 = .ok (.getfield 103, 3) := by decide +kernel
theorem dX11_check_11 : decode cX11_check 11 = .ok (.iconst 2, 1) := by decide +kernel
theorem dX11_check_12 : decode cX11_check 12 = .ok (.if_icmp .ne 7, 3) := by decide +kernel
theorem dX11_check_15 : decode cX11_check 15 = .ok (.iconst 1, 1) := by decide +kernel
theorem dX11_check_16 : decode cX11_check 16 = .ok (.goto 4, 3) := by decide +kernel
theorem dX11_check_19 : decode cX11_check 19 = .ok (.iconst 0, 1) := by decide +kernel
theorem dX11_check_20 : decode cX11_check 20 = .ok (.invokestatic 106, 3) := by decide +kernel
theorem dX11_check_23 : decode cX11_check 23 = .ok (.aload_n 0, 1) := by decide +kernel
theorem dX11_check_24 : decode cX11_check 24 = .ok (.getfield 10, 3) := by decide +kernel
theorem dX11_check_27 : decode cX11_check 27 = .ok (.iload_n 1, 1) := by decide +kernel
theorem dX11_check_28 : decode cX11_check 28 = .ok (.new 131, 3) := by decide +kernel
theorem dX11_check_31 : decode cX11_check 31 = .ok (.dup, 1) := by decide +kernel
theorem dX11_check_32 : decode cX11_check 32 = .ok (.iconst 5, 1) := by decide +kernel
theorem dX11_check_33 : decode cX11_check 33 = .ok (.invokespecial 133, 3) := by decide +kernel
theorem dX11_check_36 : decode cX11_check 36 = .ok (.invokevirtual 135, 3) := by decide +kernel
theorem dX11_check_39 : decode cX11_check 39 = .ok (.return_, 1) := by decide +kernel
theorem dX11_use_0 : decode cX11_use 0 = .ok (.iload_n 1, 1) := by decide +kernel
theorem dX11_use_1 : decode cX11_use 1 = .ok (.iconst 0, 1) := by decide +kernel
theorem dX11_use_2 : decode cX11_use 2 = .ok (.iconst 2, 1) := by decide +kernel
theorem dX11_use_3 : decode cX11_use 3 = .ok (.invokestatic 47, 3) := by decide +kernel
theorem dX11_use_6 : decode cX11_use 6 = .ok (.iload_n 1, 1) := by decide +kernel
theorem dX11_use_7 : decode cX11_use 7 = .ok (.iconst 1, 1) := by decide +kernel
theorem dX11_use_8 : decode cX11_use 8 = .ok (.if_icmp .eq 17, 3) := by decide +kernel
theorem dX11_use_11 : decode cX11_use 11 = .ok (.aload_n 0, 1) := by decide +kernel
theorem dX11_use_12 : decode cX11_use 12 = .ok (.getfield 35, 3) := by decide +kernel
theorem dX11_use_15 : decode cX11_use 15 = .ok (.iconst 0, 1) := by decide +kernel
theorem dX11_use_16 : decode cX11_use 16 = .ok (.invokevirtual 116, 3) := by decide +kernel
theorem dX11_use_19 : decode cX11_use 19 = .ok (.getfield 139, 3) := by decide +kernel
theorem dX11_use_22 : decode cX11_use 22 = .ok (.ifCond .eq 7, 3) := by decide +kernel
theorem dX11_use_25 : decode cX11_use 25 = .ok (.iconst 1, 1) := by decide +kernel
theorem dX11_use_26 : decode cX11_use 26 = .ok (.goto 4, 3) := by decide +kernel
theorem dX11_use_29 : decode cX11_use 29 = .ok (.iconst 0, 1) := by decide +kernel
theorem dX11_use_30 : decode cX11_use 30 = .ok (.invokestatic 106, 3) := by decide +kernel
theorem dX11_use_33 : decode cX11_use 33 = .ok (.iload_n 1, 1) := by decide +kernel
theorem dX11_use_34 : decode cX11_use 34 = .ok (.ifCond .eq 17, 3) := by decide +kernel
theorem dX11_use_37 : decode cX11_use 37 = .ok (.aload_n 0, 1) := by decide +kernel
theorem dX11_use_38 : decode cX11_use 38 = .ok (.getfield 35, 3) := by decide +kernel
theorem dX11_use_41 : decode cX11_use 41 = .ok (.iconst 1, 1) := by decide +kernel
theorem dX11_use_42 : decode cX11_use 42 = .ok (.invokevirtual 116, 3) := by decide +kernel
theorem dX11_use_45 : decode cX11_use 45 = .ok (.getfield 139, 3) := by decide +kernel
theorem dX11_use_48 : decode cX11_use 48 = .ok (.ifCond .eq 7, 3) := by decide +kernel
theorem dX11_use_51 : decode cX11_use 51 = .ok (.iconst 1, 1) := by decide +kernel
theorem dX11_use_52 : decode cX11_use 52 = .ok (.goto 4, 3) := by decide +kernel
theorem dX11_use_55 : decode cX11_use 55 = .ok (.iconst 0, 1) := by decide +kernel
theorem dX11_use_56 : decode cX11_use 56 = .ok (.invokestatic 106, 3) := by decide +kernel
theorem dX11_use_59 : decode cX11_use 59 = .ok (.aload_n 0, 1) := by decide +kernel
theorem dX11_use_60 : decode cX11_use 60 = .ok (.getfield 35, 3) := by decide +kernel
theorem dX11_use_63 : decode cX11_use 63 = .ok (.getfield 142, 3) := by decide +kernel
theorem dX11_use_66 : decode cX11_use 66 = .ok (.istore_n 2, 1) := by decide +kernel
theorem dX11_use_67 : decode cX11_use 67 = .ok (.aload_n 0, 1) := by decide +kernel
theorem dX11_use_68 : decode cX11_use 68 = .ok (.getfield 35, 3) := by decide +kernel
theorem dX11_use_71 : decode cX11_use 71 = .ok (.iload_n 1, 1) := by decide +kernel
theorem dX11_use_72 : decode cX11_use 72 = .ok (.putfield 142, 3) := by decide +kernel
theorem dX11_use_75 : decode cX11_use 75 = .ok (.iload_n 2, 1) := by decide +kernel
theorem dX11_use_76 : decode cX11_use 76 = .ok (.ireturn, 1) := by decide +kernel
theorem dX11_changeKey_0 : decode cX11_changeKey 0 = .ok (.aload_n 0, 1) := by decide +kernel
theorem dX11_changeKey_1 : decode cX11_changeKey 1 = .ok (.getfield 35, 3) := by decide +kernel
theorem dX11_changeKey_4 : decode cX11_changeKey 4 = .ok (.invokevirtual 145, 3) := by decide +kernel
theorem dX11_changeKey_7 : decode cX11_changeKey 7 = .ok (.invokestatic 106, 3) := by decide +kernel
theorem dX11_changeKey_10 : decode cX11_changeKey 10 = .ok (.aload_n 0, 1) := by decide +kernel
theorem dX11_changeKey_11 : decode cX11_changeKey 11 = .ok (.getfield 35, 3) := by decide +kernel
theorem dX11_changeKey_14 : decode cX11_changeKey 14 = .ok (.dup, 1) := by decide +kernel
theorem dX11_changeKey_15 : decode cX11_changeKey 15 = .ok (.getfield 149, 3) := by decide +kernel
theorem dX11_changeKey_18 : decode cX11_changeKey 18 = .ok (.iconst 1, 1) := by decide +kernel
theorem dX11_changeKey_19 : decode cX11_changeKey 19 = .ok (.iadd, 1) := by decide +kernel
theorem dX11_changeKey_20 : decode cX11_changeKey 20 = .ok (.putfield 149, 3) := by decide +kernel
theorem dX11_changeKey_23 : decode cX11_changeKey 23 = .ok (.aload_n 0, 1) := by decide +kernel
theorem dX11_changeKey_24 : decode cX11_changeKey 24 = .ok (.getfield 35, 3) := by decide +kernel
theorem dX11_changeKey_27 : decode cX11_changeKey 27 = .ok (.getfield 149, 3) := by decide +kernel
theorem dX11_changeKey_30 : decode cX11_changeKey 30 = .ok (.ireturn, 1) := by decide +kernel
theorem dX11_close_0 : decode cX11_close 0 = .ok (.aload_n 0, 1) := by decide +kernel
theorem dX11_close_1 : decode cX11_close 1 = .ok (.getfield 35, 3) := by decide +kernel
theorem dX11_close_4 : decode cX11_close 4 = .ok (.getfield 103, 3) := by decide +kernel
theorem dX11_close_7 : decode cX11_close 7 = .ok (.iconst 2, 1) := by decide +kernel
theorem dX11_close_8 : decode cX11_close 8 = .ok (.if_icmp .ne 7, 3) := by decide +kernel
theorem dX11_close_11 : decode cX11_close 11 = .ok (.iconst 1, 1) := by decide +kernel
theorem dX11_close_12 : decode cX11_close 12 = .ok (.goto 4, 3) := by decide +kernel
theorem dX11_close_15 : decode cX11_close 15 = .ok (.iconst 0, 1) := by decide +kernel
theorem dX11_close_16 : decode cX11_close 16 = .ok (.invokestatic 106, 3) := by decide +kernel
theorem dX11_close_19 : decode cX11_close 19 = .ok (.aload_n 0, 1) := by decide +kernel
theorem dX11_close_20 : decode cX11_close 20 = .ok (.getfield 35, 3) := by decide +kernel
theorem dX11_close_23 : decode cX11_close 23 = .ok (.invokevirtual 152, 3) := by decide +kernel
theorem dX11_close_26 : decode cX11_close 26 = .ok (.return_, 1) := by decide +kernel
theorem dX11_tick_0 : decode cX11_tick 0 = .ok (.iload_n 1, 1) := by decide +kernel
theorem dX11_tick_1 : decode cX11_tick 1 = .ok (.iconst 1, 1) := by decide +kernel
theorem dX11_tick_2 : decode cX11_tick 2 = .ok (.bipush 50, 2) := by decide +kernel
theorem dX11_tick_4 : decode cX11_tick 4 = .ok (.invokestatic 47, 3) := by decide +kernel
theorem dX11_tick_7 : decode cX11_tick 7 = .ok (.aload_n 0, 1) := by decide +kernel
theorem dX11_tick_8 : decode cX11_tick 8 = .ok (.getfield 10, 3) := by decide +kernel
theorem dX11_tick_11 : decode cX11_tick 11 = .ok (.getfield 155, 3) := by decide +kernel
theorem dX11_tick_14 : decode cX11_tick 14 = .ok (.iload_n 1, 1) := by decide +kernel
theorem dX11_tick_15 : decode cX11_tick 15 = .ok (.iadd, 1) := by decide +kernel
theorem dX11_tick_16 : decode cX11_tick 16 = .ok (.sipush 2000, 3) := by decide +kernel
theorem dX11_tick_19 : decode cX11_tick 19 = .ok (.if_icmp .gt 7, 3) := by decide +kernel
theorem dX11_tick_22 : decode cX11_tick 22 = .ok (.iconst 1, 1) := by decide +kernel
theorem dX11_tick_23 : decode cX11_tick 23 = .ok (.goto 4, 3) := by decide +kernel
theorem dX11_tick_26 : decode cX11_tick 26 = .ok (.iconst 0, 1) := by decide +kernel
theorem dX11_tick_27 : decode cX11_tick 27 = .ok (.invokestatic 106, 3) := by decide +kernel
theorem dX11_tick_30 : decode cX11_tick 30 = .ok (.iconst 0, 1) := by decide +kernel
theorem dX11_tick_31 : decode cX11_tick 31 = .ok (.istore_n 2, 1) := by decide +kernel
theorem dX11_tick_32 : decode cX11_tick 32 = .ok (.iload_n 2, 1) := by decide +kernel
theorem dX11_tick_33 : decode cX11_tick 33 = .ok (.iload_n 1, 1) := by decide +kernel
theorem dX11_tick_34 : decode cX11_tick 34 = .ok (.if_icmp .ge 64, 3) := by decide +kernel
theorem dX11_tick_37 : decode cX11_tick 37 = .ok (.aload_n 0, 1) := by decide +kernel
theorem dX11_tick_38 : decode cX11_tick 38 = .ok (.getfield 10, 3) := by decide +kernel
theorem dX11_tick_41 : decode cX11_tick 41 = .ok (.dup, 1) := by decide +kernel
theorem dX11_tick_42 : decode cX11_tick 42 = .ok (.getfield 155, 3) := by decide +kernel
theorem dX11_tick_45 : decode cX11_tick 45 = .ok (.iconst 1, 1) := by decide +kernel
theorem dX11_tick_46 : decode cX11_tick 46 = .ok (.iadd, 1) := by decide +kernel
theorem dX11_tick_47 : decode cX11_tick 47 = .ok (.putfield 155, 3) := by decide +kernel
theorem dX11_tick_50 : decode cX11_tick 50 = .ok (.aload_n 0, 1) := by decide +kernel
theorem dX11_tick_51 : decode cX11_tick 51 = .ok (.getfield 28, 3) := by decide +kernel
theorem dX11_tick_54 : decode cX11_tick 54 = .ok (.invokevirtual 158, 3) := by decide +kernel
theorem dX11_tick_57 : decode cX11_tick 57 = .ok (.aload_n 0, 1) := by decide +kernel
theorem dX11_tick_58 : decode cX11_tick 58 = .ok (.getfield 35, 3) := by decide +kernel
theorem dX11_tick_61 : decode cX11_tick 61 = .ok (.invokevirtual 161, 3) := by decide +kernel
theorem dX11_tick_64 : decode cX11_tick 64 = .ok (.aload_n 0, 1) := by decide +kernel
theorem dX11_tick_65 : decode cX11_tick 65 = .ok (.getfield 28, 3) := by decide +kernel
theorem dX11_tick_68 : decode cX11_tick 68 = .ok (.invokevirtual 162, 3) := by decide +kernel
theorem dX11_tick_71 : decode cX11_tick 71 = .ok (.aload_n 0, 1) := by decide +kernel
theorem dX11_tick_72 : decode cX11_tick 72 = .ok (.getfield 35, 3) := by decide +kernel
theorem dX11_tick_75 : decode cX11_tick 75 = .ok (.invokevirtual 165, 3) := by decide +kernel
theorem dX11_tick_78 : decode cX11_tick 78 = .ok (.aload_n 0, 1) := by decide +kernel
theorem dX11_tick_79 : decode cX11_tick 79 = .ok (.getfield 35, 3) := by decide +kernel
theorem dX11_tick_82 : decode cX11_tick 82 = .ok (.invokevirtual 168, 3) := by decide +kernel
theorem dX11_tick_85 : decode cX11_tick 85 = .ok (.aload_n 0, 1) := by decide +kernel
theorem dX11_tick_86 : decode cX11_tick 86 = .ok (.getfield 10, 3) := by decide +kernel
theorem dX11_tick_89 : decode cX11_tick 89 = .ok (.invokevirtual 171, 3) := by decide +kernel
theorem dX11_tick_92 : decode cX11_tick 92 = .ok (.iinc 2 1, 3) := by decide +kernel
theorem dX11_tick_95 : decode cX11_tick 95 = .ok (.goto (-63), 3) := by decide +kernel
theorem dX11_tick_98 : decode cX11_tick 98 = .ok (.aload_n 0, 1) := by decide +kernel
theorem dX11_tick_99 : decode cX11_tick 99 = .ok (.getfield 10, 3) := by decide +kernel
theorem dX11_tick_102 : decode cX11_tick 102 = .ok (.getfield 155, 3) := by decide +kernel
theorem dX11_tick_105 : decode cX11_tick 105 = .ok (.ireturn, 1) := by decide +kernel
theorem dX11_now_0 : decode cX11_now 0 = .ok (.aload_n 0, 1) := by decide +kernel
theorem dX11_now_1 : decode cX11_now 1 = .ok (.getfield 10, 3) := by decide +kernel
theorem dX11_now_4 : decode cX11_now 4 = .ok (.getfield 155, 3) := by decide +kernel
theorem dX11_now_7 : decode cX11_now 7 = .ok (.ireturn, 1) := by decide +kernel
theorem dX11_state_0 : decode cX11_state 0 = .ok (.iload_n 1, 1) := by decide +kernel
theorem dX11_state_1 : decode cX11_state 1 = .ok (.iconst 0, 1) := by decide +kernel
theorem dX11_state_2 : decode cX11_state 2 = .ok (.iconst 4, 1) := by decide +kernel
theorem dX11_state_3 : decode cX11_state 3 = .ok (.invokestatic 47, 3) := by decide +kernel
theorem dX11_state_6 : decode cX11_state 6 = .ok (.iload_n 1, 1) := by decide +kernel
theorem dX11_state_7 : decode cX11_state 7 = .ok (.tableswitch 61 0 3 #[29, 37, 45, 53], 29) := by decide +kernel
theorem dX11_state_36 : decode cX11_state 36 = .ok (.aload_n 0, 1) := by decide +kernel
theorem dX11_state_37 : decode cX11_state 37 = .ok (.getfield 35, 3) := by decide +kernel
theorem dX11_state_40 : decode cX11_state 40 = .ok (.getfield 103, 3) := by decide +kernel
theorem dX11_state_43 : decode cX11_state 43 = .ok (.ireturn, 1) := by decide +kernel
theorem dX11_state_44 : decode cX11_state 44 = .ok (.aload_n 0, 1) := by decide +kernel
theorem dX11_state_45 : decode cX11_state 45 = .ok (.getfield 28, 3) := by decide +kernel
theorem dX11_state_48 : decode cX11_state 48 = .ok (.getfield 174, 3) := by decide +kernel
theorem dX11_state_51 : decode cX11_state 51 = .ok (.ireturn, 1) := by decide +kernel
theorem dX11_state_52 : decode cX11_state 52 = .ok (.aload_n 0, 1) := by decide +kernel
theorem dX11_state_53 : decode cX11_state 53 = .ok (.getfield 35, 3) := by decide +kernel
theorem dX11_state_56 : decode cX11_state 56 = .ok (.getfield 149, 3) := by decide +kernel
theorem dX11_state_59 : decode cX11_state 59 = .ok (.ireturn, 1) := by decide +kernel
theorem dX11_state_60 : decode cX11_state 60 = .ok (.aload_n 0, 1) := by decide +kernel
theorem dX11_state_61 : decode cX11_state 61 = .ok (.getfield 28, 3) := by decide +kernel
theorem dX11_state_64 : decode cX11_state 64 = .ok (.getfield 175, 3) := by decide +kernel
theorem dX11_state_67 : decode cX11_state 67 = .ok (.ireturn, 1) := by decide +kernel
theorem dX11_state_68 : decode cX11_state 68 = .ok (.aload_n 0, 1) := by decide +kernel
theorem dX11_state_69 : decode cX11_state 69 = .ok (.getfield 35, 3) := by decide +kernel
theorem dX11_state_72 : decode cX11_state 72 = .ok (.getfield 142, 3) := by decide +kernel
theorem dX11_state_75 : decode cX11_state 75 = .ok (.ireturn, 1) := by decide +kernel
theorem dX11_path_0 : decode cX11_path 0 = .ok (.iload_n 1, 1) := by decide +kernel
theorem dX11_path_1 : decode cX11_path 1 = .ok (.invokestatic 43, 3) := by decide +kernel
theorem dX11_path_4 : decode cX11_path 4 = .ok (.iload_n 2, 1) := by decide +kernel
theorem dX11_path_5 : decode cX11_path 5 = .ok (.iconst 0, 1) := by decide +kernel
theorem dX11_path_6 : decode cX11_path 6 = .ok (.bipush 8, 2) := by decide +kernel
theorem dX11_path_8 : decode cX11_path 8 = .ok (.invokestatic 47, 3) := by decide +kernel
theorem dX11_path_11 : decode cX11_path 11 = .ok (.aload_n 0, 1) := by decide +kernel
theorem dX11_path_12 : decode cX11_path 12 = .ok (.getfield 35, 3) := by decide +kernel
theorem dX11_path_15 : decode cX11_path 15 = .ok (.iload_n 1, 1) := by decide +kernel
theorem dX11_path_16 : decode cX11_path 16 = .ok (.invokevirtual 116, 3) := by decide +kernel
theorem dX11_path_19 : decode cX11_path 19 = .ok (.astore_n 3, 1) := by decide +kernel
theorem dX11_path_20 : decode cX11_path 20 = .ok (.iload_n 2, 1) := by decide +kernel
theorem dX11_path_21 : decode cX11_path 21 = .ok (.tableswitch 96 0 7 #[47, 55, 63, 68, 73, 78, 83, 88], 47) := by decide +kernel
theorem dX11_path_68 : decode cX11_path 68 = .ok (.aload_n 3, 1) := by decide +kernel
theorem dX11_path_69 : decode cX11_path 69 = .ok (.getfield 120, 3) := by decide +kernel
theorem dX11_path_72 : decode cX11_path 72 = .ok (.getfield 176, 3) := by decide +kernel
theorem dX11_path_75 : decode cX11_path 75 = .ok (.ireturn, 1) := by decide +kernel
theorem dX11_path_76 : decode cX11_path 76 = .ok (.aload_n 3, 1) := by decide +kernel
theorem dX11_path_77 : decode cX11_path 77 = .ok (.getfield 120, 3) := by decide +kernel
theorem dX11_path_80 : decode cX11_path 80 = .ok (.getfield 179, 3) := by decide +kernel
theorem dX11_path_83 : decode cX11_path 83 = .ok (.ireturn, 1) := by decide +kernel
theorem dX11_path_84 : decode cX11_path 84 = .ok (.aload_n 3, 1) := by decide +kernel
theorem dX11_path_85 : decode cX11_path 85 = .ok (.getfield 182, 3) := by decide +kernel
theorem dX11_path_88 : decode cX11_path 88 = .ok (.ireturn, 1) := by decide +kernel
theorem dX11_path_89 : decode cX11_path 89 = .ok (.aload_n 3, 1) := by decide +kernel
theorem dX11_path_90 : decode cX11_path 90 = .ok (.getfield 185, 3) := by decide +kernel
theorem dX11_path_93 : decode cX11_path 93 = .ok (.ireturn, 1) := by decide +kernel
theorem dX11_path_94 : decode cX11_path 94 = .ok (.aload_n 3, 1) := by decide +kernel
theorem dX11_path_95 : decode cX11_path 95 = .ok (.getfield 188, 3) := by decide +kernel
theorem dX11_path_98 : decode cX11_path 98 = .ok (.ireturn, 1) := by decide +kernel
theorem dX11_path_99 : decode cX11_path 99 = .ok (.aload_n 3, 1) := by decide +kernel
theorem dX11_path_100 : decode cX11_path 100 = .ok (.getfield 191, 3) := by decide +kernel
theorem dX11_path_103 : decode cX11_path 103 = .ok (.ireturn, 1) := by decide +kernel
theorem dX11_path_104 : decode cX11_path 104 = .ok (.aload_n 3, 1) := by decide +kernel
theorem dX11_path_105 : decode cX11_path 105 = .ok (.getfield 194, 3) := by decide +kernel
theorem dX11_path_108 : decode cX11_path 108 = .ok (.ireturn, 1) := by decide +kernel
theorem dX11_path_109 : decode cX11_path 109 = .ok (.aload_n 3, 1) := by decide +kernel
theorem dX11_path_110 : decode cX11_path 110 = .ok (.getfield 139, 3) := by decide +kernel
theorem dX11_path_113 : decode cX11_path 113 = .ok (.invokestatic 197, 3) := by decide +kernel
theorem dX11_path_116 : decode cX11_path 116 = .ok (.ireturn, 1) := by decide +kernel
theorem dX11_path_117 : decode cX11_path 117 = .ok (.aload_n 0, 1) := by decide +kernel
theorem dX11_path_118 : decode cX11_path 118 = .ok (.getfield 10, 3) := by decide +kernel
theorem dX11_path_121 : decode cX11_path 121 = .ok (.iload_n 1, 1) := by decide +kernel
theorem dX11_path_122 : decode cX11_path 122 = .ok (.invokevirtual 51, 3) := by decide +kernel
theorem dX11_path_125 : decode cX11_path 125 = .ok (.getfield 201, 3) := by decide +kernel
theorem dX11_path_128 : decode cX11_path 128 = .ok (.ireturn, 1) := by decide +kernel
theorem dX11_stream_0 : decode cX11_stream 0 = .ok (.iload_n 1, 1) := by decide +kernel
theorem dX11_stream_1 : decode cX11_stream 1 = .ok (.invokestatic 93, 3) := by decide +kernel
theorem dX11_stream_4 : decode cX11_stream 4 = .ok (.iload_n 2, 1) := by decide +kernel
theorem dX11_stream_5 : decode cX11_stream 5 = .ok (.iconst 0, 1) := by decide +kernel
theorem dX11_stream_6 : decode cX11_stream 6 = .ok (.bipush 6, 2) := by decide +kernel
theorem dX11_stream_8 : decode cX11_stream 8 = .ok (.invokestatic 47, 3) := by decide +kernel
theorem dX11_stream_11 : decode cX11_stream 11 = .ok (.aload_n 0, 1) := by decide +kernel
theorem dX11_stream_12 : decode cX11_stream 12 = .ok (.getfield 18, 3) := by decide +kernel
theorem dX11_stream_15 : decode cX11_stream 15 = .ok (.iload_n 1, 1) := by decide +kernel
theorem dX11_stream_16 : decode cX11_stream 16 = .ok (.aaload, 1) := by decide +kernel
theorem dX11_stream_17 : decode cX11_stream 17 = .ok (.astore_n 3, 1) := by decide +kernel
theorem dX11_stream_18 : decode cX11_stream 18 = .ok (.iload_n 2, 1) := by decide +kernel
theorem dX11_stream_19 : decode cX11_stream 19 = .ok (.tableswitch 67 0 5 #[37, 42, 47, 52, 57, 62], 37) := by decide +kernel
theorem dX11_stream_56 : decode cX11_stream 56 = .ok (.aload_n 3, 1) := by decide +kernel
theorem dX11_stream_57 : decode cX11_stream 57 = .ok (.getfield 113, 3) := by decide +kernel
theorem dX11_stream_60 : decode cX11_stream 60 = .ok (.ireturn, 1) := by decide +kernel
theorem dX11_stream_61 : decode cX11_stream 61 = .ok (.aload_n 3, 1) := by decide +kernel
theorem dX11_stream_62 : decode cX11_stream 62 = .ok (.getfield 204, 3) := by decide +kernel
theorem dX11_stream_65 : decode cX11_stream 65 = .ok (.ireturn, 1) := by decide +kernel
theorem dX11_stream_66 : decode cX11_stream 66 = .ok (.aload_n 3, 1) := by decide +kernel
theorem dX11_stream_67 : decode cX11_stream 67 = .ok (.getfield 207, 3) := by decide +kernel
theorem dX11_stream_70 : decode cX11_stream 70 = .ok (.ireturn, 1) := by decide +kernel
theorem dX11_stream_71 : decode cX11_stream 71 = .ok (.aload_n 3, 1) := by decide +kernel
theorem dX11_stream_72 : decode cX11_stream 72 = .ok (.getfield 210, 3) := by decide +kernel
theorem dX11_stream_75 : decode cX11_stream 75 = .ok (.ireturn, 1) := by decide +kernel
theorem dX11_stream_76 : decode cX11_stream 76 = .ok (.aload_n 3, 1) := by decide +kernel
theorem dX11_stream_77 : decode cX11_stream 77 = .ok (.getfield 213, 3) := by decide +kernel
theorem dX11_stream_80 : decode cX11_stream 80 = .ok (.ireturn, 1) := by decide +kernel
theorem dX11_stream_81 : decode cX11_stream 81 = .ok (.aload_n 3, 1) := by decide +kernel
theorem dX11_stream_82 : decode cX11_stream 82 = .ok (.getfield 216, 3) := by decide +kernel
theorem dX11_stream_85 : decode cX11_stream 85 = .ok (.ireturn, 1) := by decide +kernel
theorem dX11_stream_86 : decode cX11_stream 86 = .ok (.aload_n 3, 1) := by decide +kernel
theorem dX11_stream_87 : decode cX11_stream 87 = .ok (.getfield 219, 3) := by decide +kernel
theorem dX11_stream_90 : decode cX11_stream 90 = .ok (.ireturn, 1) := by decide +kernel
theorem dX11_credit_0 : decode cX11_credit 0 = .ok (.aload_n 0, 1) := by decide +kernel
theorem dX11_credit_1 : decode cX11_credit 1 = .ok (.getfield 35, 3) := by decide +kernel
theorem dX11_credit_4 : decode cX11_credit 4 = .ok (.getfield 222, 3) := by decide +kernel
theorem dX11_credit_7 : decode cX11_credit 7 = .ok (.ireturn, 1) := by decide +kernel
theorem dX11_packets_0 : decode cX11_packets 0 = .ok (.aload_n 0, 1) := by decide +kernel
theorem dX11_packets_1 : decode cX11_packets 1 = .ok (.getfield 35, 3) := by decide +kernel
theorem dX11_packets_4 : decode cX11_packets 4 = .ok (.getfield 225, 3) := by decide +kernel
theorem dX11_packets_7 : decode cX11_packets 7 = .ok (.ireturn, 1) := by decide +kernel
theorem dX11_packet_0 : decode cX11_packet 0 = .ok (.aload_n 0, 1) := by decide +kernel
theorem dX11_packet_1 : decode cX11_packet 1 = .ok (.iload_n 1, 1) := by decide +kernel
theorem dX11_packet_2 : decode cX11_packet 2 = .ok (.invokevirtual 226, 3) := by decide +kernel
theorem dX11_packet_5 : decode cX11_packet 5 = .ok (.astore_n 3, 1) := by decide +kernel
theorem dX11_packet_6 : decode cX11_packet 6 = .ok (.iload_n 2, 1) := by decide +kernel
theorem dX11_packet_7 : decode cX11_packet 7 = .ok (.iconst 0, 1) := by decide +kernel
theorem dX11_packet_8 : decode cX11_packet 8 = .ok (.bipush 10, 2) := by decide +kernel
theorem dX11_packet_10 : decode cX11_packet 10 = .ok (.invokestatic 47, 3) := by decide +kernel
theorem dX11_packet_13 : decode cX11_packet 13 = .ok (.iload_n 2, 1) := by decide +kernel
theorem dX11_packet_14 : decode cX11_packet 14 = .ok (.tableswitch 110 0 9 #[54, 59, 64, 69, 74, 79, 84, 89, 94, 102], 54) := by decide +kernel
theorem dX11_packet_68 : decode cX11_packet 68 = .ok (.aload_n 3, 1) := by decide +kernel
theorem dX11_packet_69 : decode cX11_packet 69 = .ok (.getfield 230, 3) := by decide +kernel
theorem dX11_packet_72 : decode cX11_packet 72 = .ok (.ireturn, 1) := by decide +kernel
theorem dX11_packet_73 : decode cX11_packet 73 = .ok (.aload_n 3, 1) := by decide +kernel
theorem dX11_packet_74 : decode cX11_packet 74 = .ok (.getfield 235, 3) := by decide +kernel
theorem dX11_packet_77 : decode cX11_packet 77 = .ok (.ireturn, 1) := by decide +kernel
theorem dX11_packet_78 : decode cX11_packet 78 = .ok (.aload_n 3, 1) := by decide +kernel
theorem dX11_packet_79 : decode cX11_packet 79 = .ok (.getfield 238, 3) := by decide +kernel
theorem dX11_packet_82 : decode cX11_packet 82 = .ok (.ireturn, 1) := by decide +kernel
theorem dX11_packet_83 : decode cX11_packet 83 = .ok (.aload_n 3, 1) := by decide +kernel
theorem dX11_packet_84 : decode cX11_packet 84 = .ok (.getfield 241, 3) := by decide +kernel
theorem dX11_packet_87 : decode cX11_packet 87 = .ok (.ireturn, 1) := by decide +kernel
theorem dX11_packet_88 : decode cX11_packet 88 = .ok (.aload_n 3, 1) := by decide +kernel
theorem dX11_packet_89 : decode cX11_packet 89 = .ok (.getfield 244, 3) := by decide +kernel
theorem dX11_packet_92 : decode cX11_packet 92 = .ok (.ireturn, 1) := by decide +kernel
theorem dX11_packet_93 : decode cX11_packet 93 = .ok (.aload_n 3, 1) := by decide +kernel
theorem dX11_packet_94 : decode cX11_packet 94 = .ok (.getfield 247, 3) := by decide +kernel
theorem dX11_packet_97 : decode cX11_packet 97 = .ok (.ireturn, 1) := by decide +kernel
theorem dX11_packet_98 : decode cX11_packet 98 = .ok (.aload_n 3, 1) := by decide +kernel
theorem dX11_packet_99 : decode cX11_packet 99 = .ok (.getfield 250, 3) := by decide +kernel
theorem dX11_packet_102 : decode cX11_packet 102 = .ok (.ireturn, 1) := by decide +kernel
theorem dX11_packet_103 : decode cX11_packet 103 = .ok (.aload_n 3, 1) := by decide +kernel
theorem dX11_packet_104 : decode cX11_packet 104 = .ok (.getfield 253, 3) := by decide +kernel
theorem dX11_packet_107 : decode cX11_packet 107 = .ok (.ireturn, 1) := by decide +kernel
theorem dX11_packet_108 : decode cX11_packet 108 = .ok (.aload_n 3, 1) := by decide +kernel
theorem dX11_packet_109 : decode cX11_packet 109 = .ok (.getfield 254, 3) := by decide +kernel
theorem dX11_packet_112 : decode cX11_packet 112 = .ok (.invokestatic 197, 3) := by decide +kernel
theorem dX11_packet_115 : decode cX11_packet 115 = .ok (.ireturn, 1) := by decide +kernel
theorem dX11_packet_116 : decode cX11_packet 116 = .ok (.aload_n 3, 1) := by decide +kernel
theorem dX11_packet_117 : decode cX11_packet 117 = .ok (.getfield 257, 3) := by decide +kernel
theorem dX11_packet_120 : decode cX11_packet 120 = .ok (.invokestatic 197, 3) := by decide +kernel
theorem dX11_packet_123 : decode cX11_packet 123 = .ok (.ireturn, 1) := by decide +kernel
theorem dX11_packet_124 : decode cX11_packet 124 = .ok (.aload_n 3, 1) := by decide +kernel
theorem dX11_packet_125 : decode cX11_packet 125 = .ok (.getfield 260, 3) := by decide +kernel
theorem dX11_packet_128 : decode cX11_packet 128 = .ok (.invokestatic 197, 3) := by decide +kernel
theorem dX11_packet_131 : decode cX11_packet 131 = .ok (.ireturn, 1) := by decide +kernel
theorem dX11_count_0 : decode cX11_count 0 = .ok (.iload_n 1, 1) := by decide +kernel
theorem dX11_count_1 : decode cX11_count 1 = .ok (.iconst 0, 1) := by decide +kernel
theorem dX11_count_2 : decode cX11_count 2 = .ok (.iconst 5, 1) := by decide +kernel
theorem dX11_count_3 : decode cX11_count 3 = .ok (.invokestatic 47, 3) := by decide +kernel
theorem dX11_count_6 : decode cX11_count 6 = .ok (.aload_n 0, 1) := by decide +kernel
theorem dX11_count_7 : decode cX11_count 7 = .ok (.getfield 35, 3) := by decide +kernel
theorem dX11_count_10 : decode cX11_count 10 = .ok (.iconst 0, 1) := by decide +kernel
theorem dX11_count_11 : decode cX11_count 11 = .ok (.invokevirtual 116, 3) := by decide +kernel
theorem dX11_count_14 : decode cX11_count 14 = .ok (.astore_n 2, 1) := by decide +kernel
theorem dX11_count_15 : decode cX11_count 15 = .ok (.aload_n 0, 1) := by decide +kernel
theorem dX11_count_16 : decode cX11_count 16 = .ok (.getfield 35, 3) := by decide +kernel
theorem dX11_count_19 : decode cX11_count 19 = .ok (.iconst 1, 1) := by decide +kernel
theorem dX11_count_20 : decode cX11_count 20 = .ok (.invokevirtual 116, 3) := by decide +kernel
theorem dX11_count_23 : decode cX11_count 23 = .ok (.astore_n 3, 1) := by decide +kernel
theorem dX11_count_24 : decode cX11_count 24 = .ok (.iload_n 1, 1) := by decide +kernel
theorem dX11_count_25 : decode cX11_count 25 = .ok (.tableswitch 81 0 4 #[35, 45, 55, 65, 73], 35) := by decide +kernel
theorem dX11_count_60 : decode cX11_count 60 = .ok (.aload_n 2, 1) := by decide +kernel
theorem dX11_count_61 : decode cX11_count 61 = .ok (.getfield 263, 3) := by decide +kernel
theorem dX11_count_64 : decode cX11_count 64 = .ok (.aload_n 3, 1) := by decide +kernel
theorem dX11_count_65 : decode cX11_count 65 = .ok (.getfield 263, 3) := by decide +kernel
theorem dX11_count_68 : decode cX11_count 68 = .ok (.iadd, 1) := by decide +kernel
theorem dX11_count_69 : decode cX11_count 69 = .ok (.ireturn, 1) := by decide +kernel
theorem dX11_count_70 : decode cX11_count 70 = .ok (.aload_n 2, 1) := by decide +kernel
theorem dX11_count_71 : decode cX11_count 71 = .ok (.getfield 266, 3) := by decide +kernel
theorem dX11_count_74 : decode cX11_count 74 = .ok (.aload_n 3, 1) := by decide +kernel
theorem dX11_count_75 : decode cX11_count 75 = .ok (.getfield 266, 3) := by decide +kernel
theorem dX11_count_78 : decode cX11_count 78 = .ok (.iadd, 1) := by decide +kernel
theorem dX11_count_79 : decode cX11_count 79 = .ok (.ireturn, 1) := by decide +kernel
theorem dX11_count_80 : decode cX11_count 80 = .ok (.aload_n 2, 1) := by decide +kernel
theorem dX11_count_81 : decode cX11_count 81 = .ok (.getfield 269, 3) := by decide +kernel
theorem dX11_count_84 : decode cX11_count 84 = .ok (.aload_n 3, 1) := by decide +kernel
theorem dX11_count_85 : decode cX11_count 85 = .ok (.getfield 269, 3) := by decide +kernel
theorem dX11_count_88 : decode cX11_count 88 = .ok (.iadd, 1) := by decide +kernel
theorem dX11_count_89 : decode cX11_count 89 = .ok (.ireturn, 1) := by decide +kernel
theorem dX11_count_90 : decode cX11_count 90 = .ok (.aload_n 0, 1) := by decide +kernel
theorem dX11_count_91 : decode cX11_count 91 = .ok (.getfield 35, 3) := by decide +kernel
theorem dX11_count_94 : decode cX11_count 94 = .ok (.getfield 272, 3) := by decide +kernel
theorem dX11_count_97 : decode cX11_count 97 = .ok (.ireturn, 1) := by decide +kernel
theorem dX11_count_98 : decode cX11_count 98 = .ok (.aload_n 0, 1) := by decide +kernel
theorem dX11_count_99 : decode cX11_count 99 = .ok (.getfield 28, 3) := by decide +kernel
theorem dX11_count_102 : decode cX11_count 102 = .ok (.getfield 275, 3) := by decide +kernel
theorem dX11_count_105 : decode cX11_count 105 = .ok (.ireturn, 1) := by decide +kernel
theorem dX11_count_106 : decode cX11_count 106 = .ok (.aload_n 2, 1) := by decide +kernel
theorem dX11_count_107 : decode cX11_count 107 = .ok (.getfield 120, 3) := by decide +kernel
theorem dX11_count_110 : decode cX11_count 110 = .ok (.getfield 278, 3) := by decide +kernel
theorem dX11_count_113 : decode cX11_count 113 = .ok (.aload_n 3, 1) := by decide +kernel
theorem dX11_count_114 : decode cX11_count 114 = .ok (.getfield 120, 3) := by decide +kernel
theorem dX11_count_117 : decode cX11_count 117 = .ok (.getfield 278, 3) := by decide +kernel
theorem dX11_count_120 : decode cX11_count 120 = .ok (.iadd, 1) := by decide +kernel
theorem dX11_count_121 : decode cX11_count 121 = .ok (.ireturn, 1) := by decide +kernel
theorem dX11_inFlightAnew_0 : decode cX11_inFlightAnew 0 = .ok (.iload_n 1, 1) := by decide +kernel
theorem dX11_inFlightAnew_1 : decode cX11_inFlightAnew 1 = .ok (.invokestatic 43, 3) := by decide +kernel
theorem dX11_inFlightAnew_4 : decode cX11_inFlightAnew 4 = .ok (.iconst 0, 1) := by decide +kernel
theorem dX11_inFlightAnew_5 : decode cX11_inFlightAnew 5 = .ok (.istore_n 2, 1) := by decide +kernel
theorem dX11_inFlightAnew_6 : decode cX11_inFlightAnew 6 = .ok (.iconst 0, 1) := by decide +kernel
theorem dX11_inFlightAnew_7 : decode cX11_inFlightAnew 7 = .ok (.istore_n 3, 1) := by decide +kernel
theorem dX11_inFlightAnew_8 : decode cX11_inFlightAnew 8 = .ok (.iload_n 3, 1) := by decide +kernel
theorem dX11_inFlightAnew_9 : decode cX11_inFlightAnew 9 = .ok (.aload_n 0, 1) := by decide +kernel
theorem dX11_inFlightAnew_10 : decode cX11_inFlightAnew 10 = .ok (.getfield 35, 3) := by decide +kernel
theorem dX11_inFlightAnew_13 : decode cX11_inFlightAnew 13 = .ok (.getfield 225, 3) := by decide +kernel
theorem dX11_inFlightAnew_16 : decode cX11_inFlightAnew 16 = .ok (.if_icmp .ge 44, 3) := by decide +kernel
theorem dX11_inFlightAnew_19 : decode cX11_inFlightAnew 19 = .ok (.aload_n 0, 1) := by decide +kernel
theorem dX11_inFlightAnew_20 : decode cX11_inFlightAnew 20 = .ok (.getfield 35, 3) := by decide +kernel
theorem dX11_inFlightAnew_23 : decode cX11_inFlightAnew 23 = .ok (.iload_n 3, 1) := by decide +kernel
theorem dX11_inFlightAnew_24 : decode cX11_inFlightAnew 24 = .ok (.invokevirtual 281, 3) := by decide +kernel
theorem dX11_inFlightAnew_27 : decode cX11_inFlightAnew 27 = .ok (.astore 4, 2) := by decide +kernel
theorem dX11_inFlightAnew_29 : decode cX11_inFlightAnew 29 = .ok (.aload 4, 2) := by decide +kernel
theorem dX11_inFlightAnew_31 : decode cX11_inFlightAnew 31 = .ok (.ifnull 23, 3) := by decide +kernel
theorem dX11_inFlightAnew_34 : decode cX11_inFlightAnew 34 = .ok (.aload 4, 2) := by decide +kernel
theorem dX11_inFlightAnew_36 : decode cX11_inFlightAnew 36 = .ok (.getfield 230, 3) := by decide +kernel
theorem dX11_inFlightAnew_39 : decode cX11_inFlightAnew 39 = .ok (.iload_n 1, 1) := by decide +kernel
theorem dX11_inFlightAnew_40 : decode cX11_inFlightAnew 40 = .ok (.if_icmp .ne 14, 3) := by decide +kernel
theorem dX11_inFlightAnew_43 : decode cX11_inFlightAnew 43 = .ok (.aload 4, 2) := by decide +kernel
theorem dX11_inFlightAnew_45 : decode cX11_inFlightAnew 45 = .ok (.getfield 247, 3) := by decide +kernel
theorem dX11_inFlightAnew_48 : decode cX11_inFlightAnew 48 = .ok (.ifCond .ne 6, 3) := by decide +kernel
theorem dX11_inFlightAnew_51 : decode cX11_inFlightAnew 51 = .ok (.iinc 2 1, 3) := by decide +kernel
theorem dX11_inFlightAnew_54 : decode cX11_inFlightAnew 54 = .ok (.iinc 3 1, 3) := by decide +kernel
theorem dX11_inFlightAnew_57 : decode cX11_inFlightAnew 57 = .ok (.goto (-49), 3) := by decide +kernel
theorem dX11_inFlightAnew_60 : decode cX11_inFlightAnew 60 = .ok (.iload_n 2, 1) := by decide +kernel
theorem dX11_inFlightAnew_61 : decode cX11_inFlightAnew 61 = .ok (.ireturn, 1) := by decide +kernel
theorem dX11_gotAnew_0 : decode cX11_gotAnew 0 = .ok (.iload_n 1, 1) := by decide +kernel
theorem dX11_gotAnew_1 : decode cX11_gotAnew 1 = .ok (.invokestatic 93, 3) := by decide +kernel
theorem dX11_gotAnew_4 : decode cX11_gotAnew 4 = .ok (.aload_n 0, 1) := by decide +kernel
theorem dX11_gotAnew_5 : decode cX11_gotAnew 5 = .ok (.getfield 39, 3) := by decide +kernel
theorem dX11_gotAnew_8 : decode cX11_gotAnew 8 = .ok (.invokestatic 284, 3) := by decide +kernel
theorem dX11_gotAnew_11 : decode cX11_gotAnew 11 = .ok (.iconst 0, 1) := by decide +kernel
theorem dX11_gotAnew_12 : decode cX11_gotAnew 12 = .ok (.istore_n 2, 1) := by decide +kernel
theorem dX11_gotAnew_13 : decode cX11_gotAnew 13 = .ok (.iload_n 2, 1) := by decide +kernel
theorem dX11_gotAnew_14 : decode cX11_gotAnew 14 = .ok (.aload_n 0, 1) := by decide +kernel
theorem dX11_gotAnew_15 : decode cX11_gotAnew 15 = .ok (.getfield 35, 3) := by decide +kernel
theorem dX11_gotAnew_18 : decode cX11_gotAnew 18 = .ok (.getfield 225, 3) := by decide +kernel
theorem dX11_gotAnew_21 : decode cX11_gotAnew 21 = .ok (.if_icmp .ge 53, 3) := by decide +kernel
theorem dX11_gotAnew_24 : decode cX11_gotAnew 24 = .ok (.aload_n 0, 1) := by decide +kernel
theorem dX11_gotAnew_25 : decode cX11_gotAnew 25 = .ok (.getfield 35, 3) := by decide +kernel
theorem dX11_gotAnew_28 : decode cX11_gotAnew 28 = .ok (.iload_n 2, 1) := by decide +kernel
theorem dX11_gotAnew_29 : decode cX11_gotAnew 29 = .ok (.invokevirtual 281, 3) := by decide +kernel
theorem dX11_gotAnew_32 : decode cX11_gotAnew 32 = .ok (.astore_n 3, 1) := by decide +kernel
theorem dX11_gotAnew_33 : decode cX11_gotAnew 33 = .ok (.aload_n 3, 1) := by decide +kernel
theorem dX11_gotAnew_34 : decode cX11_gotAnew 34 = .ok (.ifnull 34, 3) := by decide +kernel
theorem dX11_gotAnew_37 : decode cX11_gotAnew 37 = .ok (.aload_n 3, 1) := by decide +kernel
theorem dX11_gotAnew_38 : decode cX11_gotAnew 38 = .ok (.getfield 238, 3) := by decide +kernel
theorem dX11_gotAnew_41 : decode cX11_gotAnew 41 = .ok (.iload_n 1, 1) := by decide +kernel
theorem dX11_gotAnew_42 : decode cX11_gotAnew 42 = .ok (.if_icmp .ne 26, 3) := by decide +kernel
theorem dX11_gotAnew_45 : decode cX11_gotAnew 45 = .ok (.aload_n 3, 1) := by decide +kernel
theorem dX11_gotAnew_46 : decode cX11_gotAnew 46 = .ok (.getfield 250, 3) := by decide +kernel
theorem dX11_gotAnew_49 : decode cX11_gotAnew 49 = .ok (.iconst 1, 1) := by decide +kernel
theorem dX11_gotAnew_50 : decode cX11_gotAnew 50 = .ok (.if_icmp .ne 18, 3) := by decide +kernel
theorem dX11_gotAnew_53 : decode cX11_gotAnew 53 = .ok (.aload_n 0, 1) := by decide +kernel
theorem dX11_gotAnew_54 : decode cX11_gotAnew 54 = .ok (.getfield 39, 3) := by decide +kernel
theorem dX11_gotAnew_57 : decode cX11_gotAnew 57 = .ok (.aload_n 3, 1) := by decide +kernel
theorem dX11_gotAnew_58 : decode cX11_gotAnew 58 = .ok (.getfield 241, 3) := by decide +kernel
theorem dX11_gotAnew_61 : decode cX11_gotAnew 61 = .ok (.aload_n 3, 1) := by decide +kernel
theorem dX11_gotAnew_62 : decode cX11_gotAnew 62 = .ok (.getfield 244, 3) := by decide +kernel
theorem dX11_gotAnew_65 : decode cX11_gotAnew 65 = .ok (.invokestatic 288, 3) := by decide +kernel
theorem dX11_gotAnew_68 : decode cX11_gotAnew 68 = .ok (.iinc 2 1, 3) := by decide +kernel
theorem dX11_gotAnew_71 : decode cX11_gotAnew 71 = .ok (.goto (-58), 3) := by decide +kernel
theorem dX11_gotAnew_74 : decode cX11_gotAnew 74 = .ok (.aload_n 0, 1) := by decide +kernel
theorem dX11_gotAnew_75 : decode cX11_gotAnew 75 = .ok (.getfield 39, 3) := by decide +kernel
theorem dX11_gotAnew_78 : decode cX11_gotAnew 78 = .ok (.iconst 0, 1) := by decide +kernel
theorem dX11_gotAnew_79 : decode cX11_gotAnew 79 = .ok (.invokestatic 292, 3) := by decide +kernel
theorem dX11_gotAnew_82 : decode cX11_gotAnew 82 = .ok (.ireturn, 1) := by decide +kernel
theorem dX11_requirePacket_0 : decode cX11_requirePacket 0 = .ok (.aload_n 0, 1) := by decide +kernel
theorem dX11_requirePacket_1 : decode cX11_requirePacket 1 = .ok (.getfield 35, 3) := by decide +kernel
theorem dX11_requirePacket_4 : decode cX11_requirePacket 4 = .ok (.iload_n 1, 1) := by decide +kernel
theorem dX11_requirePacket_5 : decode cX11_requirePacket 5 = .ok (.invokevirtual 281, 3) := by decide +kernel
theorem dX11_requirePacket_8 : decode cX11_requirePacket 8 = .ok (.astore_n 2, 1) := by decide +kernel
theorem dX11_requirePacket_9 : decode cX11_requirePacket 9 = .ok (.aload_n 2, 1) := by decide +kernel
theorem dX11_requirePacket_10 : decode cX11_requirePacket 10 = .ok (.ifnonnull 14, 3) := by decide +kernel
theorem dX11_requirePacket_13 : decode cX11_requirePacket 13 = .ok (.new 296, 3) := by decide +kernel
theorem dX11_requirePacket_16 : decode cX11_requirePacket 16 = .ok (.dup, 1) := by decide +kernel
theorem dX11_requirePacket_17 : decode cX11_requirePacket 17 = .ok (.ldc_w 298, 3) := by decide +kernel
theorem dX11_requirePacket_20 : decode cX11_requirePacket 20 = .ok (.invokespecial 300, 3) := by decide +kernel
theorem dX11_requirePacket_23 : decode cX11_requirePacket 23 = .ok (.athrow, 1) := by decide +kernel
theorem dX11_requirePacket_24 : decode cX11_requirePacket 24 = .ok (.aload_n 2, 1) := by decide +kernel
theorem dX11_requirePacket_25 : decode cX11_requirePacket 25 = .ok (.areturn, 1) := by decide +kernel
theorem dX11_requirePath_0 : decode cX11_requirePath 0 = .ok (.iload_n 0, 1) := by decide +kernel
theorem dX11_requirePath_1 : decode cX11_requirePath 1 = .ok (.ifCond .lt 8, 3) := by decide +kernel
theorem dX11_requirePath_4 : decode cX11_requirePath 4 = .ok (.iload_n 0, 1) := by decide +kernel
theorem dX11_requirePath_5 : decode cX11_requirePath 5 = .ok (.iconst 1, 1) := by decide +kernel
theorem dX11_requirePath_6 : decode cX11_requirePath 6 = .ok (.if_icmp .le 14, 3) := by decide +kernel
theorem dX11_requirePath_9 : decode cX11_requirePath 9 = .ok (.new 296, 3) := by decide +kernel
theorem dX11_requirePath_12 : decode cX11_requirePath 12 = .ok (.dup, 1) := by decide +kernel
theorem dX11_requirePath_13 : decode cX11_requirePath 13 = .ok (.ldc_w 303, 3) := by decide +kernel
theorem dX11_requirePath_16 : decode cX11_requirePath 16 = .ok (.invokespecial 300, 3) := by decide +kernel
theorem dX11_requirePath_19 : decode cX11_requirePath 19 = .ok (.athrow, 1) := by decide +kernel
theorem dX11_requirePath_20 : decode cX11_requirePath 20 = .ok (.return_, 1) := by decide +kernel
theorem dX11_requireStream_0 : decode cX11_requireStream 0 = .ok (.iload_n 0, 1) := by decide +kernel
theorem dX11_requireStream_1 : decode cX11_requireStream 1 = .ok (.ifCond .lt 8, 3) := by decide +kernel
theorem dX11_requireStream_4 : decode cX11_requireStream 4 = .ok (.iload_n 0, 1) := by decide +kernel
theorem dX11_requireStream_5 : decode cX11_requireStream 5 = .ok (.iconst 4, 1) := by decide +kernel
theorem dX11_requireStream_6 : decode cX11_requireStream 6 = .ok (.if_icmp .lt 14, 3) := by decide +kernel
theorem dX11_requireStream_9 : decode cX11_requireStream 9 = .ok (.new 296, 3) := by decide +kernel
theorem dX11_requireStream_12 : decode cX11_requireStream 12 = .ok (.dup, 1) := by decide +kernel
theorem dX11_requireStream_13 : decode cX11_requireStream 13 = .ok (.ldc_w 305, 3) := by decide +kernel
theorem dX11_requireStream_16 : decode cX11_requireStream 16 = .ok (.invokespecial 300, 3) := by decide +kernel
theorem dX11_requireStream_19 : decode cX11_requireStream 19 = .ok (.athrow, 1) := by decide +kernel
theorem dX11_requireStream_20 : decode cX11_requireStream 20 = .ok (.return_, 1) := by decide +kernel
theorem dX11_requireRange_0 : decode cX11_requireRange 0 = .ok (.iload_n 0, 1) := by decide +kernel
theorem dX11_requireRange_1 : decode cX11_requireRange 1 = .ok (.iload_n 1, 1) := by decide +kernel
theorem dX11_requireRange_2 : decode cX11_requireRange 2 = .ok (.if_icmp .lt 8, 3) := by decide +kernel
theorem dX11_requireRange_5 : decode cX11_requireRange 5 = .ok (.iload_n 0, 1) := by decide +kernel
theorem dX11_requireRange_6 : decode cX11_requireRange 6 = .ok (.iload_n 2, 1) := by decide +kernel
theorem dX11_requireRange_7 : decode cX11_requireRange 7 = .ok (.if_icmp .le 14, 3) := by decide +kernel
theorem dX11_requireRange_10 : decode cX11_requireRange 10 = .ok (.new 307, 3) := by decide +kernel
theorem dX11_requireRange_13 : decode cX11_requireRange 13 = .ok (.dup, 1) := by decide +kernel
theorem dX11_requireRange_14 : decode cX11_requireRange 14 = .ok (.ldc_w 309, 3) := by decide +kernel
theorem dX11_requireRange_17 : decode cX11_requireRange 17 = .ok (.invokespecial 311, 3) := by decide +kernel
theorem dX11_requireRange_20 : decode cX11_requireRange 20 = .ok (.athrow, 1) := by decide +kernel
theorem dX11_requireRange_21 : decode cX11_requireRange 21 = .ok (.return_, 1) := by decide +kernel
theorem dX11_requireState_0 : decode cX11_requireState 0 = .ok (.iload_n 0, 1) := by decide +kernel
theorem dX11_requireState_1 : decode cX11_requireState 1 = .ok (.ifCond .ne 14, 3) := by decide +kernel
theorem dX11_requireState_4 : decode cX11_requireState 4 = .ok (.new 312, 3) := by decide +kernel
theorem dX11_requireState_7 : decode cX11_requireState 7 = .ok (.dup, 1) := by decide +kernel
theorem dX11_requireState_8 : decode cX11_requireState 8 = .ok (.ldc_w 314, 3) := by decide +kernel
theorem dX11_requireState_11 : decode cX11_requireState 11 = .ok (.invokespecial 316, 3) := by decide +kernel
theorem dX11_requireState_14 : decode cX11_requireState 14 = .ok (.athrow, 1) := by decide +kernel
theorem dX11_requireState_15 : decode cX11_requireState 15 = .ok (.return_, 1) := by decide +kernel
theorem dX11_asNumber_0 : decode cX11_asNumber 0 = .ok (.iload_n 0, 1) := by decide +kernel
theorem dX11_asNumber_1 : decode cX11_asNumber 1 = .ok (.ifCond .eq 7, 3) := by decide +kernel
theorem dX11_asNumber_4 : decode cX11_asNumber 4 = .ok (.iconst 1, 1) := by decide +kernel
theorem dX11_asNumber_5 : decode cX11_asNumber 5 = .ok (.goto 4, 3) := by decide +kernel
theorem dX11_asNumber_8 : decode cX11_asNumber 8 = .ok (.iconst 0, 1) := by decide +kernel
theorem dX11_asNumber_9 : decode cX11_asNumber 9 = .ok (.ireturn, 1) := by decide +kernel
theorem dX11_clearRow_0 : decode cX11_clearRow 0 = .ok (.iconst 0, 1) := by decide +kernel
theorem dX11_clearRow_1 : decode cX11_clearRow 1 = .ok (.istore_n 1, 1) := by decide +kernel
theorem dX11_clearRow_2 : decode cX11_clearRow 2 = .ok (.iload_n 1, 1) := by decide +kernel
theorem dX11_clearRow_3 : decode cX11_clearRow 3 = .ok (.aload_n 0, 1) := by decide +kernel
theorem dX11_clearRow_4 : decode cX11_clearRow 4 = .ok (.arraylength, 1) := by decide +kernel
theorem dX11_clearRow_5 : decode cX11_clearRow 5 = .ok (.if_icmp .ge 13, 3) := by decide +kernel
theorem dX11_clearRow_8 : decode cX11_clearRow 8 = .ok (.aload_n 0, 1) := by decide +kernel
theorem dX11_clearRow_9 : decode cX11_clearRow 9 = .ok (.iload_n 1, 1) := by decide +kernel
theorem dX11_clearRow_10 : decode cX11_clearRow 10 = .ok (.iconst 0, 1) := by decide +kernel
theorem dX11_clearRow_11 : decode cX11_clearRow 11 = .ok (.bastore, 1) := by decide +kernel
theorem dX11_clearRow_12 : decode cX11_clearRow 12 = .ok (.iinc 1 1, 3) := by decide +kernel
theorem dX11_clearRow_15 : decode cX11_clearRow 15 = .ok (.goto (-13), 3) := by decide +kernel
theorem dX11_clearRow_18 : decode cX11_clearRow 18 = .ok (.return_, 1) := by decide +kernel
theorem dX11_markRow_0 : decode cX11_markRow 0 = .ok (.iconst 0, 1) := by decide +kernel
theorem dX11_markRow_1 : decode cX11_markRow 1 = .ok (.iload_n 1, 1) := by decide +kernel
theorem dX11_markRow_2 : decode cX11_markRow 2 = .ok (.invokestatic 317, 3) := by decide +kernel
theorem dX11_markRow_5 : decode cX11_markRow 5 = .ok (.istore_n 3, 1) := by decide +kernel
theorem dX11_markRow_6 : decode cX11_markRow 6 = .ok (.iload_n 3, 1) := by decide +kernel
theorem dX11_markRow_7 : decode cX11_markRow 7 = .ok (.iload_n 1, 1) := by decide +kernel
theorem dX11_markRow_8 : decode cX11_markRow 8 = .ok (.iload_n 2, 1) := by decide +kernel
theorem dX11_markRow_9 : decode cX11_markRow 9 = .ok (.iadd, 1) := by decide +kernel
theorem dX11_markRow_10 : decode cX11_markRow 10 = .ok (.if_icmp .ge 19, 3) := by decide +kernel
theorem dX11_markRow_13 : decode cX11_markRow 13 = .ok (.iload_n 3, 1) := by decide +kernel
theorem dX11_markRow_14 : decode cX11_markRow 14 = .ok (.aload_n 0, 1) := by decide +kernel
theorem dX11_markRow_15 : decode cX11_markRow 15 = .ok (.arraylength, 1) := by decide +kernel
theorem dX11_markRow_16 : decode cX11_markRow 16 = .ok (.if_icmp .ge 13, 3) := by decide +kernel
theorem dX11_markRow_19 : decode cX11_markRow 19 = .ok (.aload_n 0, 1) := by decide +kernel
theorem dX11_markRow_20 : decode cX11_markRow 20 = .ok (.iload_n 3, 1) := by decide +kernel
theorem dX11_markRow_21 : decode cX11_markRow 21 = .ok (.iconst 1, 1) := by decide +kernel
theorem dX11_markRow_22 : decode cX11_markRow 22 = .ok (.bastore, 1) := by decide +kernel
theorem dX11_markRow_23 : decode cX11_markRow 23 = .ok (.iinc 3 1, 3) := by decide +kernel
theorem dX11_markRow_26 : decode cX11_markRow 26 = .ok (.goto (-20), 3) := by decide +kernel
theorem dX11_markRow_29 : decode cX11_markRow 29 = .ok (.return_, 1) := by decide +kernel
theorem dX11_lengthOfPrefix_0 : decode cX11_lengthOfPrefix 0 = .ok (.iconst 0, 1) := by decide +kernel
theorem dX11_lengthOfPrefix_1 : decode cX11_lengthOfPrefix 1 = .ok (.iload_n 1, 1) := by decide +kernel
theorem dX11_lengthOfPrefix_2 : decode cX11_lengthOfPrefix 2 = .ok (.invokestatic 317, 3) := by decide +kernel
theorem dX11_lengthOfPrefix_5 : decode cX11_lengthOfPrefix 5 = .ok (.istore_n 2, 1) := by decide +kernel
theorem dX11_lengthOfPrefix_6 : decode cX11_lengthOfPrefix 6 = .ok (.iload_n 2, 1) := by decide +kernel
theorem dX11_lengthOfPrefix_7 : decode cX11_lengthOfPrefix 7 = .ok (.aload_n 0, 1) := by decide +kernel
theorem dX11_lengthOfPrefix_8 : decode cX11_lengthOfPrefix 8 = .ok (.arraylength, 1) := by decide +kernel
theorem dX11_lengthOfPrefix_9 : decode cX11_lengthOfPrefix 9 = .ok (.if_icmp .ge 15, 3) := by decide +kernel
theorem dX11_lengthOfPrefix_12 : decode cX11_lengthOfPrefix 12 = .ok (.aload_n 0, 1) := by decide +kernel
theorem dX11_lengthOfPrefix_13 : decode cX11_lengthOfPrefix 13 = .ok (.iload_n 2, 1) := by decide +kernel
theorem dX11_lengthOfPrefix_14 : decode cX11_lengthOfPrefix 14 = .ok (.baload, 1) := by decide +kernel
theorem dX11_lengthOfPrefix_15 : decode cX11_lengthOfPrefix 15 = .ok (.ifCond .eq 9, 3) := by decide +kernel
theorem dX11_lengthOfPrefix_18 : decode cX11_lengthOfPrefix 18 = .ok (.iinc 2 1, 3) := by decide +kernel
theorem dX11_lengthOfPrefix_21 : decode cX11_lengthOfPrefix 21 = .ok (.goto (-15), 3) := by decide +kernel
theorem dX11_lengthOfPrefix_24 : decode cX11_lengthOfPrefix 24 = .ok (.iload_n 2, 1) := by decide +kernel
theorem dX11_lengthOfPrefix_25 : decode cX11_lengthOfPrefix 25 = .ok (.ireturn, 1) := by decide +kernel
theorem dX12_init_0 : decode cX12_init 0 = .ok (.aload_n 0, 1) := by decide +kernel
theorem dX12_init_1 : decode cX12_init 1 = .ok (.invokespecial 1, 3) := by decide +kernel
theorem dX12_init_4 : decode cX12_init 4 = .ok (.aload_n 0, 1) := by decide +kernel
theorem dX12_init_5 : decode cX12_init 5 = .ok (.iconst 2, 1) := by decide +kernel
theorem dX12_init_6 : decode cX12_init 6 = .ok (.newarray .int, 2) := by decide +kernel
theorem dX12_init_8 : decode cX12_init 8 = .ok (.putfield 7, 3) := by decide +kernel
theorem dX12_init_11 : decode cX12_init 11 = .ok (.aload_n 0, 1) := by decide +kernel
theorem dX12_init_12 : decode cX12_init 12 = .ok (.iconst 2, 1) := by decide +kernel
theorem dX12_init_13 : decode cX12_init 13 = .ok (.newarray .int, 2) := by decide +kernel
theorem dX12_init_15 : decode cX12_init 15 = .ok (.putfield 13, 3) := by decide +kernel
theorem dX12_init_18 : decode cX12_init 18 = .ok (.aload_n 0, 1) := by decide +kernel
theorem dX12_init_19 : decode cX12_init 19 = .ok (.iconst 2, 1) := by decide +kernel
theorem dX12_init_20 : decode cX12_init 20 = .ok (.newarray .int, 2) := by decide +kernel
theorem dX12_init_22 : decode cX12_init 22 = .ok (.putfield 16, 3) := by decide +kernel
theorem dX12_init_25 : decode cX12_init 25 = .ok (.aload_n 0, 1) := by decide +kernel
theorem dX12_init_26 : decode cX12_init 26 = .ok (.iconst 2, 1) := by decide +kernel
theorem dX12_init_27 : decode cX12_init 27 = .ok (.newarray .int, 2) := by decide +kernel
theorem dX12_init_29 : decode cX12_init 29 = .ok (.putfield 19, 3) := by decide +kernel
theorem dX12_init_32 : decode cX12_init 32 = .ok (.aload_n 0, 1) := by decide +kernel
theorem dX12_init_33 : decode cX12_init 33 = .ok (.iconst 2, 1) := by decide +kernel
theorem dX12_init_34 : decode cX12_init 34 = .ok (.newarray .boolean, 2) := by decide +kernel
theorem dX12_init_36 : decode cX12_init 36 = .ok (.putfield 22, 3) := by decide +kernel
theorem dX12_init_39 : decode cX12_init 39 = .ok (.aload_n 0, 1) := by decide +kernel
theorem dX12_init_40 : decode cX12_init 40 = .ok (.iconst 2, 1) := by decide +kernel
theorem dX12_init_41 : decode cX12_init 41 = .ok (.newarray .int, 2) := by decide +kernel
theorem dX12_init_43 : decode cX12_init 43 = .ok (.putfield 26, 3) := by decide +kernel
theorem dX12_init_46 : decode cX12_init 46 = .ok (.aload_n 0, 1) := by decide +kernel
theorem dX12_init_47 : decode cX12_init 47 = .ok (.iconst 2, 1) := by decide +kernel
theorem dX12_init_48 : decode cX12_init 48 = .ok (.newarray .int, 2) := by decide +kernel
theorem dX12_init_50 : decode cX12_init 50 = .ok (.putfield 29, 3) := by decide +kernel
theorem dX12_init_53 : decode cX12_init 53 = .ok (.aload_n 0, 1) := by decide +kernel
theorem dX12_init_54 : decode cX12_init 54 = .ok (.iconst 2, 1) := by decide +kernel
theorem dX12_init_55 : decode cX12_init 55 = .ok (.newarray .int, 2) := by decide +kernel
theorem dX12_init_57 : decode cX12_init 57 = .ok (.putfield 32, 3) := by decide +kernel
theorem dX12_init_60 : decode cX12_init 60 = .ok (.aload_n 0, 1) := by decide +kernel
theorem dX12_init_61 : decode cX12_init 61 = .ok (.iconst 2, 1) := by decide +kernel
theorem dX12_init_62 : decode cX12_init 62 = .ok (.newarray .int, 2) := by decide +kernel
theorem dX12_init_64 : decode cX12_init 64 = .ok (.putfield 35, 3) := by decide +kernel
theorem dX12_init_67 : decode cX12_init 67 = .ok (.aload_n 0, 1) := by decide +kernel
theorem dX12_init_68 : decode cX12_init 68 = .ok (.bipush 60, 2) := by decide +kernel
theorem dX12_init_70 : decode cX12_init 70 = .ok (.newarray .int, 2) := by decide +kernel
theorem dX12_init_72 : decode cX12_init 72 = .ok (.putfield 38, 3) := by decide +kernel
theorem dX12_init_75 : decode cX12_init 75 = .ok (.aload_n 0, 1) := by decide +kernel
theorem dX12_init_76 : decode cX12_init 76 = .ok (.iconst 2, 1) := by decide +kernel
theorem dX12_init_77 : decode cX12_init 77 = .ok (.newarray .int, 2) := by decide +kernel
theorem dX12_init_79 : decode cX12_init 79 = .ok (.putfield 41, 3) := by decide +kernel
theorem dX12_init_82 : decode cX12_init 82 = .ok (.aload_n 0, 1) := by decide +kernel
theorem dX12_init_83 : decode cX12_init 83 = .ok (.sipush 1300, 3) := by decide +kernel
theorem dX12_init_86 : decode cX12_init 86 = .ok (.newarray .int, 2) := by decide +kernel
theorem dX12_init_88 : decode cX12_init 88 = .ok (.putfield 44, 3) := by decide +kernel
theorem dX12_init_91 : decode cX12_init 91 = .ok (.aload_n 0, 1) := by decide +kernel
theorem dX12_init_92 : decode cX12_init 92 = .ok (.sipush 1300, 3) := by decide +kernel
theorem dX12_init_95 : decode cX12_init 95 = .ok (.newarray .int, 2) := by decide +kernel
theorem dX12_init_97 : decode cX12_init 97 = .ok (.putfield 47, 3) := by decide +kernel
theorem dX12_init_100 : decode cX12_init 100 = .ok (.aload_n 0, 1) := by decide +kernel
theorem dX12_init_101 : decode cX12_init 101 = .ok (.sipush 1300, 3) := by decide +kernel
theorem dX12_init_104 : decode cX12_init 104 = .ok (.newarray .int, 2) := by decide +kernel
theorem dX12_init_106 : decode cX12_init 106 = .ok (.putfield 50, 3) := by decide +kernel
theorem dX12_init_109 : decode cX12_init 109 = .ok (.aload_n 0, 1) := by decide +kernel
theorem dX12_init_110 : decode cX12_init 110 = .ok (.sipush 1300, 3) := by decide +kernel
theorem dX12_init_113 : decode cX12_init 113 = .ok (.newarray .int, 2) := by decide +kernel
theorem dX12_init_115 : decode cX12_init 115 = .ok (.putfield 53, 3) := by decide +kernel
theorem dX12_init_118 : decode cX12_init 118 = .ok (.aload_n 0, 1) := by decide +kernel
theorem dX12_init_119 : decode cX12_init 119 = .ok (.sipush 1300, 3) := by decide +kernel
theorem dX12_init_122 : decode cX12_init 122 = .ok (.newarray .int, 2) := by decide +kernel
theorem dX12_init_124 : decode cX12_init 124 = .ok (.putfield 56, 3) := by decide +kernel
theorem dX12_init_127 : decode cX12_init 127 = .ok (.aload_n 0, 1) := by decide +kernel
theorem dX12_init_128 : decode cX12_init 128 = .ok (.sipush 3600, 3) := by decide +kernel
theorem dX12_init_131 : decode cX12_init 131 = .ok (.newarray .int, 2) := by decide +kernel
theorem dX12_init_133 : decode cX12_init 133 = .ok (.putfield 59, 3) := by decide +kernel
theorem dX12_init_136 : decode cX12_init 136 = .ok (.aload_n 0, 1) := by decide +kernel
theorem dX12_init_137 : decode cX12_init 137 = .ok (.sipush 3600, 3) := by decide +kernel
theorem dX12_init_140 : decode cX12_init 140 = .ok (.newarray .int, 2) := by decide +kernel
theorem dX12_init_142 : decode cX12_init 142 = .ok (.putfield 62, 3) := by decide +kernel
theorem dX12_init_145 : decode cX12_init 145 = .ok (.aload_n 0, 1) := by decide +kernel
theorem dX12_init_146 : decode cX12_init 146 = .ok (.sipush 3600, 3) := by decide +kernel
theorem dX12_init_149 : decode cX12_init 149 = .ok (.newarray .int, 2) := by decide +kernel
theorem dX12_init_151 : decode cX12_init 151 = .ok (.putfield 65, 3) := by decide +kernel
theorem dX12_init_154 : decode cX12_init 154 = .ok (.aload_n 0, 1) := by decide +kernel
theorem dX12_init_155 : decode cX12_init 155 = .ok (.sipush 3600, 3) := by decide +kernel
theorem dX12_init_158 : decode cX12_init 158 = .ok (.newarray .int, 2) := by decide +kernel
theorem dX12_init_160 : decode cX12_init 160 = .ok (.putfield 68, 3) := by decide +kernel
theorem dX12_init_163 : decode cX12_init 163 = .ok (.aload_n 0, 1) := by decide +kernel
theorem dX12_init_164 : decode cX12_init 164 = .ok (.ldc 71, 2) := by decide +kernel
theorem dX12_init_166 : decode cX12_init 166 = .ok (.newarray .int, 2) := by decide +kernel
theorem dX12_init_168 : decode cX12_init 168 = .ok (.putfield 72, 3) := by decide +kernel
theorem dX12_init_171 : decode cX12_init 171 = .ok (.aload_n 0, 1) := by decide +kernel
theorem dX12_init_172 : decode cX12_init 172 = .ok (.bipush 10, 2) := by decide +kernel
theorem dX12_init_174 : decode cX12_init 174 = .ok (.newarray .boolean, 2) := by decide +kernel
theorem dX12_init_176 : decode cX12_init 176 = .ok (.putfield 75, 3) := by decide +kernel
theorem dX12_init_179 : decode cX12_init 179 = .ok (.aload_n 0, 1) := by decide +kernel
theorem dX12_init_180 : decode cX12_init 180 = .ok (.iconst (-1), 1) := by decide +kernel
theorem dX12_init_181 : decode cX12_init 181 = .ok (.putfield 78, 3) := by decide +kernel
theorem dX12_init_184 : decode cX12_init 184 = .ok (.aload_n 0, 1) := by decide +kernel
theorem dX12_init_185 : decode cX12_init 185 = .ok (.sipush 400, 3) := by decide +kernel
theorem dX12_init_188 : decode cX12_init 188 = .ok (.newarray .boolean, 2) := by decide +kernel
theorem dX12_init_190 : decode cX12_init 190 = .ok (.putfield 82, 3) := by decide +kernel
theorem dX12_init_193 : decode cX12_init 193 = .ok (.aload_n 0, 1) := by decide +kernel
theorem dX12_init_194 : decode cX12_init 194 = .ok (.sipush 800, 3) := by decide +kernel
theorem dX12_init_197 : decode cX12_init 197 = .ok (.newarray .boolean, 2) := by decide +kernel
theorem dX12_init_199 : decode cX12_init 199 = .ok (.putfield 85, 3) := by decide +kernel
theorem dX12_init_202 : decode cX12_init 202 = .ok (.aload_n 0, 1) := by decide +kernel
theorem dX12_init_203 : decode cX12_init 203 = .ok (.iconst 4, 1) := by decide +kernel
theorem dX12_init_204 : decode cX12_init 204 = .ok (.newarray .int, 2) := by decide +kernel
theorem dX12_init_206 : decode cX12_init 206 = .ok (.putfield 88, 3) := by decide +kernel
theorem dX12_init_209 : decode cX12_init 209 = .ok (.aload_n 0, 1) := by decide +kernel
theorem dX12_init_210 : decode cX12_init 210 = .ok (.iconst (-1), 1) := by decide +kernel
theorem dX12_init_211 : decode cX12_init 211 = .ok (.putfield 91, 3) := by decide +kernel
theorem dX12_init_214 : decode cX12_init 214 = .ok (.aload_n 0, 1) := by decide +kernel
theorem dX12_init_215 : decode cX12_init 215 = .ok (.iconst (-1), 1) := by decide +kernel
theorem dX12_init_216 : decode cX12_init 216 = .ok (.putfield 94, 3) := by decide +kernel
theorem dX12_init_219 : decode cX12_init 219 = .ok (.aload_n 0, 1) := by decide +kernel
theorem dX12_init_220 : decode cX12_init 220 = .ok (.iconst (-1), 1) := by decide +kernel
theorem dX12_init_221 : decode cX12_init 221 = .ok (.putfield 97, 3) := by decide +kernel
theorem dX12_init_224 : decode cX12_init 224 = .ok (.aload_n 0, 1) := by decide +kernel
theorem dX12_init_225 : decode cX12_init 225 = .ok (.iconst (-1), 1) := by decide +kernel
theorem dX12_init_226 : decode cX12_init 226 = .ok (.putfield 100, 3) := by decide +kernel
theorem dX12_init_229 : decode cX12_init 229 = .ok (.aload_n 0, 1) := by decide +kernel
theorem dX12_init_230 : decode cX12_init 230 = .ok (.iconst 4, 1) := by decide +kernel
theorem dX12_init_231 : decode cX12_init 231 = .ok (.newarray .int, 2) := by decide +kernel
theorem dX12_init_233 : decode cX12_init 233 = .ok (.putfield 103, 3) := by decide +kernel
theorem dX12_init_236 : decode cX12_init 236 = .ok (.aload_n 0, 1) := by decide +kernel
theorem dX12_init_237 : decode cX12_init 237 = .ok (.iconst 4, 1) := by decide +kernel
theorem dX12_init_238 : decode cX12_init 238 = .ok (.newarray .int, 2) := by decide +kernel
theorem dX12_init_240 : decode cX12_init 240 = .ok (.putfield 106, 3) := by decide +kernel
theorem dX12_init_243 : decode cX12_init 243 = .ok (.aload_n 0, 1) := by decide +kernel
theorem dX12_init_244 : decode cX12_init 244 = .ok (.iconst 4, 1) := by decide +kernel
theorem dX12_init_245 : decode cX12_init 245 = .ok (.newarray .int, 2) := by decide +kernel
theorem dX12_init_247 : decode cX12_init 247 = .ok (.putfield 109, 3) := by decide +kernel
theorem dX12_init_250 : decode cX12_init 250 = .ok (.aload_n 0, 1) := by decide +kernel
theorem dX12_init_251 : decode cX12_init 251 = .ok (.bipush 100, 2) := by decide +kernel
theorem dX12_init_253 : decode cX12_init 253 = .ok (.putfield 112, 3) := by decide +kernel
theorem dX12_init_256 : decode cX12_init 256 = .ok (.aload_n 0, 1) := by decide +kernel
theorem dX12_init_257 : decode cX12_init 257 = .ok (.iconst 3, 1) := by decide +kernel
theorem dX12_init_258 : decode cX12_init 258 = .ok (.putfield 115, 3) := by decide +kernel
theorem dX12_init_261 : decode cX12_init 261 = .ok (.aload_n 0, 1) := by decide +kernel
theorem dX12_init_262 : decode cX12_init 262 = .ok (.sipush 800, 3) := by decide +kernel
theorem dX12_init_265 : decode cX12_init 265 = .ok (.newarray .boolean, 2) := by decide +kernel
theorem dX12_init_267 : decode cX12_init 267 = .ok (.putfield 118, 3) := by decide +kernel
theorem dX12_init_270 : decode cX12_init 270 = .ok (.aload_n 0, 1) := by decide +kernel
theorem dX12_init_271 : decode cX12_init 271 = .ok (.sipush 800, 3) := by decide +kernel
theorem dX12_init_274 : decode cX12_init 274 = .ok (.newarray .int, 2) := by decide +kernel
theorem dX12_init_276 : decode cX12_init 276 = .ok (.putfield 121, 3) := by decide +kernel
theorem dX12_init_279 : decode cX12_init 279 = .ok (.aload_n 0, 1) := by decide +kernel
theorem dX12_init_280 : decode cX12_init 280 = .ok (.sipush 400, 3) := by decide +kernel
theorem dX12_init_283 : decode cX12_init 283 = .ok (.newarray .int, 2) := by decide +kernel
theorem dX12_init_285 : decode cX12_init 285 = .ok (.putfield 124, 3) := by decide +kernel
theorem dX12_init_288 : decode cX12_init 288 = .ok (.aload_n 0, 1) := by decide +kernel
theorem dX12_init_289 : decode cX12_init 289 = .ok (.sipush 400, 3) := by decide +kernel
theorem dX12_init_292 : decode cX12_init 292 = .ok (.newarray .int, 2) := by decide +kernel
theorem dX12_init_294 : decode cX12_init 294 = .ok (.putfield 127, 3) := by decide +kernel
theorem dX12_init_297 : decode cX12_init 297 = .ok (.aload_n 0, 1) := by decide +kernel
theorem dX12_init_298 : decode cX12_init 298 = .ok (.sipush 400, 3) := by decide +kernel
theorem dX12_init_301 : decode cX12_init 301 = .ok (.newarray .int, 2) := by decide +kernel
theorem dX12_init_303 : decode cX12_init 303 = .ok (.putfield 130, 3) := by decide +kernel
theorem dX12_init_306 : decode cX12_init 306 = .ok (.aload_n 0, 1) := by decide +kernel
theorem dX12_init_307 : decode cX12_init 307 = .ok (.sipush 400, 3) := by decide +kernel
theorem dX12_init_310 : decode cX12_init 310 = .ok (.newarray .int, 2) := by decide +kernel
theorem dX12_init_312 : decode cX12_init 312 = .ok (.putfield 133, 3) := by decide +kernel
theorem dX12_init_315 : decode cX12_init 315 = .ok (.aload_n 0, 1) := by decide +kernel
theorem dX12_init_316 : decode cX12_init 316 = .ok (.sipush 400, 3) := by decide +kernel
theorem dX12_init_319 : decode cX12_init 319 = .ok (.newarray .int, 2) := by decide +kernel
theorem dX12_init_321 : decode cX12_init 321 = .ok (.putfield 136, 3) := by decide +kernel
theorem dX12_init_324 : decode cX12_init 324 = .ok (.aload_n 0, 1) := by decide +kernel
theorem dX12_init_325 : decode cX12_init 325 = .ok (.sipush 400, 3) := by decide +kernel
theorem dX12_init_328 : decode cX12_init 328 = .ok (.newarray .int, 2) := by decide +kernel
theorem dX12_init_330 : decode cX12_init 330 = .ok (.putfield 139, 3) := by decide +kernel
theorem dX12_init_333 : decode cX12_init 333 = .ok (.aload_n 0, 1) := by decide +kernel
theorem dX12_init_334 : decode cX12_init 334 = .ok (.sipush 400, 3) := by decide +kernel
theorem dX12_init_337 : decode cX12_init 337 = .ok (.newarray .int, 2) := by decide +kernel
theorem dX12_init_339 : decode cX12_init 339 = .ok (.putfield 142, 3) := by decide +kernel
theorem dX12_init_342 : decode cX12_init 342 = .ok (.aload_n 0, 1) := by decide +kernel
theorem dX12_init_343 : decode cX12_init 343 = .ok (.sipush 400, 3) := by decide +kernel
theorem dX12_init_346 : decode cX12_init 346 = .ok (.newarray .int, 2) := by decide +kernel
theorem dX12_init_348 : decode cX12_init 348 = .ok (.putfield 145, 3) := by decide +kernel
theorem dX12_init_351 : decode cX12_init 351 = .ok (.aload_n 0, 1) := by decide +kernel
theorem dX12_init_352 : decode cX12_init 352 = .ok (.sipush 400, 3) := by decide +kernel
theorem dX12_init_355 : decode cX12_init 355 = .ok (.newarray .boolean, 2) := by decide +kernel
theorem dX12_init_357 : decode cX12_init 357 = .ok (.putfield 148, 3) := by decide +kernel
theorem dX12_init_360 : decode cX12_init 360 = .ok (.aload_n 0, 1) := by decide +kernel
theorem dX12_init_361 : decode cX12_init 361 = .ok (.sipush 400, 3) := by decide +kernel
theorem dX12_init_364 : decode cX12_init 364 = .ok (.newarray .boolean, 2) := by decide +kernel
theorem dX12_init_366 : decode cX12_init 366 = .ok (.putfield 151, 3) := by decide +kernel
theorem dX12_init_369 : decode cX12_init 369 = .ok (.aload_n 0, 1) := by decide +kernel
theorem dX12_init_370 : decode cX12_init 370 = .ok (.sipush 400, 3) := by decide +kernel
theorem dX12_init_373 : decode cX12_init 373 = .ok (.newarray .boolean, 2) := by decide +kernel
theorem dX12_init_375 : decode cX12_init 375 = .ok (.putfield 154, 3) := by decide +kernel
theorem dX12_init_378 : decode cX12_init 378 = .ok (.aload_n 0, 1) := by decide +kernel
theorem dX12_init_379 : decode cX12_init 379 = .ok (.sipush 400, 3) := by decide +kernel
theorem dX12_init_382 : decode cX12_init 382 = .ok (.newarray .int, 2) := by decide +kernel
theorem dX12_init_384 : decode cX12_init 384 = .ok (.putfield 157, 3) := by decide +kernel
theorem dX12_init_387 : decode cX12_init 387 = .ok (.aload_n 0, 1) := by decide +kernel
theorem dX12_init_388 : decode cX12_init 388 = .ok (.sipush 400, 3) := by decide +kernel
theorem dX12_init_391 : decode cX12_init 391 = .ok (.newarray .int, 2) := by decide +kernel
theorem dX12_init_393 : decode cX12_init 393 = .ok (.putfield 160, 3) := by decide +kernel
theorem dX12_init_396 : decode cX12_init 396 = .ok (.aload_n 0, 1) := by decide +kernel
theorem dX12_init_397 : decode cX12_init 397 = .ok (.iconst 2, 1) := by decide +kernel
theorem dX12_init_398 : decode cX12_init 398 = .ok (.newarray .int, 2) := by decide +kernel
theorem dX12_init_400 : decode cX12_init 400 = .ok (.putfield 163, 3) := by decide +kernel
theorem dX12_init_403 : decode cX12_init 403 = .ok (.aload_n 0, 1) := by decide +kernel
theorem dX12_init_404 : decode cX12_init 404 = .ok (.iconst 2, 1) := by decide +kernel
theorem dX12_init_405 : decode cX12_init 405 = .ok (.newarray .int, 2) := by decide +kernel
theorem dX12_init_407 : decode cX12_init 407 = .ok (.putfield 166, 3) := by decide +kernel
theorem dX12_init_410 : decode cX12_init 410 = .ok (.aload_n 0, 1) := by decide +kernel
theorem dX12_init_411 : decode cX12_init 411 = .ok (.iconst 2, 1) := by decide +kernel
theorem dX12_init_412 : decode cX12_init 412 = .ok (.newarray .int, 2) := by decide +kernel
theorem dX12_init_414 : decode cX12_init 414 = .ok (.putfield 169, 3) := by decide +kernel
theorem dX12_init_417 : decode cX12_init 417 = .ok (.aload_n 0, 1) := by decide +kernel
theorem dX12_init_418 : decode cX12_init 418 = .ok (.iconst 2, 1) := by decide +kernel
theorem dX12_init_419 : decode cX12_init 419 = .ok (.newarray .int, 2) := by decide +kernel
theorem dX12_init_421 : decode cX12_init 421 = .ok (.putfield 172, 3) := by decide +kernel
theorem dX12_init_424 : decode cX12_init 424 = .ok (.aload_n 0, 1) := by decide +kernel
theorem dX12_init_425 : decode cX12_init 425 = .ok (.iconst 2, 1) := by decide +kernel
theorem dX12_init_426 : decode cX12_init 426 = .ok (.newarray .int, 2) := by decide +kernel
theorem dX12_init_428 : decode cX12_init 428 = .ok (.putfield 175, 3) := by decide +kernel
theorem dX12_init_431 : decode cX12_init 431 = .ok (.aload_n 0, 1) := by decide +kernel
theorem dX12_init_432 : decode cX12_init 432 = .ok (.iconst 2, 1) := by decide +kernel
theorem dX12_init_433 : decode cX12_init 433 = .ok (.newarray .int, 2) := by decide +kernel
theorem dX12_init_435 : decode cX12_init 435 = .ok (.putfield 178, 3) := by decide +kernel
theorem dX12_init_438 : decode cX12_init 438 = .ok (.aload_n 0, 1) := by decide +kernel
theorem dX12_init_439 : decode cX12_init 439 = .ok (.iconst 2, 1) := by decide +kernel
theorem dX12_init_440 : decode cX12_init 440 = .ok (.newarray .int, 2) := by decide +kernel
theorem dX12_init_442 : decode cX12_init 442 = .ok (.putfield 181, 3) := by decide +kernel
theorem dX12_init_445 : decode cX12_init 445 = .ok (.aload_n 0, 1) := by decide +kernel
theorem dX12_init_446 : decode cX12_init 446 = .ok (.iconst 2, 1) := by decide +kernel
theorem dX12_init_447 : decode cX12_init 447 = .ok (.newarray .boolean, 2) := by decide +kernel
theorem dX12_init_449 : decode cX12_init 449 = .ok (.putfield 184, 3) := by decide +kernel
theorem dX12_init_452 : decode cX12_init 452 = .ok (.aload_n 0, 1) := by decide +kernel
theorem dX12_init_453 : decode cX12_init 453 = .ok (.iconst 2, 1) := by decide +kernel
theorem dX12_init_454 : decode cX12_init 454 = .ok (.newarray .boolean, 2) := by decide +kernel
theorem dX12_init_456 : decode cX12_init 456 = .ok (.putfield 187, 3) := by decide +kernel
theorem dX12_init_459 : decode cX12_init 459 = .ok (.aload_n 0, 1) := by decide +kernel
theorem dX12_init_460 : decode cX12_init 460 = .ok (.iconst 2, 1) := by decide +kernel
theorem dX12_init_461 : decode cX12_init 461 = .ok (.newarray .int, 2) := by decide +kernel
theorem dX12_init_463 : decode cX12_init 463 = .ok (.putfield 190, 3) := by decide +kernel
theorem dX12_init_466 : decode cX12_init 466 = .ok (.aload_n 0, 1) := by decide +kernel
theorem dX12_init_467 : decode cX12_init 467 = .ok (.iconst 2, 1) := by decide +kernel
theorem dX12_init_468 : decode cX12_init 468 = .ok (.newarray .int, 2) := by decide +kernel
theorem dX12_init_470 : decode cX12_init 470 = .ok (.putfield 193, 3) := by decide +kernel
theorem dX12_init_473 : decode cX12_init 473 = .ok (.aload_n 0, 1) := by decide +kernel
theorem dX12_init_474 : decode cX12_init 474 = .ok (.iconst 2, 1) := by decide +kernel
theorem dX12_init_475 : decode cX12_init 475 = .ok (.newarray .int, 2) := by decide +kernel
theorem dX12_init_477 : decode cX12_init 477 = .ok (.putfield 196, 3) := by decide +kernel
theorem dX12_init_480 : decode cX12_init 480 = .ok (.aload_n 0, 1) := by decide +kernel
theorem dX12_init_481 : decode cX12_init 481 = .ok (.iconst 2, 1) := by decide +kernel
theorem dX12_init_482 : decode cX12_init 482 = .ok (.newarray .int, 2) := by decide +kernel
theorem dX12_init_484 : decode cX12_init 484 = .ok (.putfield 199, 3) := by decide +kernel
theorem dX12_init_487 : decode cX12_init 487 = .ok (.aload_n 0, 1) := by decide +kernel
theorem dX12_init_488 : decode cX12_init 488 = .ok (.iconst 2, 1) := by decide +kernel
theorem dX12_init_489 : decode cX12_init 489 = .ok (.newarray .int, 2) := by decide +kernel
theorem dX12_init_491 : decode cX12_init 491 = .ok (.putfield 202, 3) := by decide +kernel
theorem dX12_init_494 : decode cX12_init 494 = .ok (.aload_n 0, 1) := by decide +kernel
theorem dX12_init_495 : decode cX12_init 495 = .ok (.bipush 16, 2) := by decide +kernel
theorem dX12_init_497 : decode cX12_init 497 = .ok (.newarray .int, 2) := by decide +kernel
theorem dX12_init_499 : decode cX12_init 499 = .ok (.putfield 205, 3) := by decide +kernel
theorem dX12_init_502 : decode cX12_init 502 = .ok (.aload_n 0, 1) := by decide +kernel
theorem dX12_init_503 : decode cX12_init 503 = .ok (.iconst 2, 1) := by decide +kernel
theorem dX12_init_504 : decode cX12_init 504 = .ok (.newarray .int, 2) := by decide +kernel
theorem dX12_init_506 : decode cX12_init 506 = .ok (.putfield 208, 3) := by decide +kernel
theorem dX12_init_509 : decode cX12_init 509 = .ok (.aload_n 0, 1) := by decide +kernel
theorem dX12_init_510 : decode cX12_init 510 = .ok (.iconst 2, 1) := by decide +kernel
theorem dX12_init_511 : decode cX12_init 511 = .ok (.newarray .int, 2) := by decide +kernel
theorem dX12_init_513 : decode cX12_init 513 = .ok (.putfield 211, 3) := by decide +kernel
theorem dX12_init_516 : decode cX12_init 516 = .ok (.aload_n 0, 1) := by decide +kernel
theorem dX12_init_517 : decode cX12_init 517 = .ok (.iconst 2, 1) := by decide +kernel
theorem dX12_init_518 : decode cX12_init 518 = .ok (.newarray .int, 2) := by decide +kernel
theorem dX12_init_520 : decode cX12_init 520 = .ok (.putfield 214, 3) := by decide +kernel
theorem dX12_init_523 : decode cX12_init 523 = .ok (.aload_n 0, 1) := by decide +kernel
theorem dX12_init_524 : decode cX12_init 524 = .ok (.iconst 2, 1) := by decide +kernel
theorem dX12_init_525 : decode cX12_init 525 = .ok (.newarray .int, 2) := by decide +kernel
theorem dX12_init_527 : decode cX12_init 527 = .ok (.putfield 217, 3) := by decide +kernel
theorem dX12_init_530 : decode cX12_init 530 = .ok (.aload_n 0, 1) := by decide +kernel
theorem dX12_init_531 : decode cX12_init 531 = .ok (.iconst 2, 1) := by decide +kernel
theorem dX12_init_532 : decode cX12_init 532 = .ok (.newarray .int, 2) := by decide +kernel
theorem dX12_init_534 : decode cX12_init 534 = .ok (.putfield 220, 3) := by decide +kernel
theorem dX12_init_537 : decode cX12_init 537 = .ok (.aload_n 0, 1) := by decide +kernel
theorem dX12_init_538 : decode cX12_init 538 = .ok (.iconst 2, 1) := by decide +kernel
theorem dX12_init_539 : decode cX12_init 539 = .ok (.newarray .int, 2) := by decide +kernel
theorem dX12_init_541 : decode cX12_init 541 = .ok (.putfield 223, 3) := by decide +kernel
theorem dX12_init_544 : decode cX12_init 544 = .ok (.aload_n 0, 1) := by decide +kernel
theorem dX12_init_545 : decode cX12_init 545 = .ok (.iconst 2, 1) := by decide +kernel
theorem dX12_init_546 : decode cX12_init 546 = .ok (.newarray .int, 2) := by decide +kernel
theorem dX12_init_548 : decode cX12_init 548 = .ok (.putfield 226, 3) := by decide +kernel
theorem dX12_init_551 : decode cX12_init 551 = .ok (.aload_n 0, 1) := by decide +kernel
theorem dX12_init_552 : decode cX12_init 552 = .ok (.bipush 6, 2) := by decide +kernel
theorem dX12_init_554 : decode cX12_init 554 = .ok (.newarray .int, 2) := by decide +kernel
theorem dX12_init_556 : decode cX12_init 556 = .ok (.putfield 229, 3) := by decide +kernel
theorem dX12_init_559 : decode cX12_init 559 = .ok (.iconst 0, 1) := by decide +kernel
theorem dX12_init_560 : decode cX12_init 560 = .ok (.istore_n 1, 1) := by decide +kernel
theorem dX12_init_561 : decode cX12_init 561 = .ok (.iload_n 1, 1) := by decide +kernel
theorem dX12_init_562 : decode cX12_init 562 = .ok (.iconst 2, 1) := by decide +kernel
theorem dX12_init_563 : decode cX12_init 563 = .ok (.if_icmp .ge 102, 3) := by decide +kernel
theorem dX12_init_566 : decode cX12_init 566 = .ok (.aload_n 0, 1) := by decide +kernel
theorem dX12_init_567 : decode cX12_init 567 = .ok (.getfield 7, 3) := by decide +kernel
theorem dX12_init_570 : decode cX12_init 570 = .ok (.iload_n 1, 1) := by decide +kernel
theorem dX12_init_571 : decode cX12_init 571 = .ok (.iconst 5, 1) := by decide +kernel
theorem dX12_init_572 : decode cX12_init 572 = .ok (.iastore, 1) := by decide +kernel
theorem dX12_init_573 : decode cX12_init 573 = .ok (.aload_n 0, 1) := by decide +kernel
theorem dX12_init_574 : decode cX12_init 574 = .ok (.getfield 13, 3) := by decide +kernel
theorem dX12_init_577 : decode cX12_init 577 = .ok (.iload_n 1, 1) := by decide +kernel
theorem dX12_init_578 : decode cX12_init 578 = .ok (.iconst 2, 1) := by decide +kernel
theorem dX12_init_579 : decode cX12_init 579 = .ok (.iastore, 1) := by decide +kernel
theorem dX12_init_580 : decode cX12_init 580 = .ok (.aload_n 0, 1) := by decide +kernel
theorem dX12_init_581 : decode cX12_init 581 = .ok (.getfield 16, 3) := by decide +kernel
theorem dX12_init_584 : decode cX12_init 584 = .ok (.iload_n 1, 1) := by decide +kernel
theorem dX12_init_585 : decode cX12_init 585 = .ok (.bipush 8, 2) := by decide +kernel
theorem dX12_init_587 : decode cX12_init 587 = .ok (.iastore, 1) := by decide +kernel
theorem dX12_init_588 : decode cX12_init 588 = .ok (.aload_n 0, 1) := by decide +kernel
theorem dX12_init_589 : decode cX12_init 589 = .ok (.getfield 19, 3) := by decide +kernel
theorem dX12_init_592 : decode cX12_init 592 = .ok (.iload_n 1, 1) := by decide +kernel
theorem dX12_init_593 : decode cX12_init 593 = .ok (.bipush 6, 2) := by decide +kernel
theorem dX12_init_595 : decode cX12_init 595 = .ok (.iastore, 1) := by decide +kernel
theorem dX12_init_596 : decode cX12_init 596 = .ok (.aload_n 0, 1) := by decide +kernel
theorem dX12_init_597 : decode cX12_init 597 = .ok (.getfield 163, 3) := by decide +kernel
theorem dX12_init_600 : decode cX12_init 600 = .ok (.iload_n 1, 1) := by decide +kernel
theorem dX12_init_601 : decode cX12_init 601 = .ok (.sipush 160, 3) := by decide +kernel
theorem dX12_init_604 : decode cX12_init 604 = .ok (.iastore, 1) := by decide +kernel
theorem dX12_init_605 : decode cX12_init 605 = .ok (.aload_n 0, 1) := by decide +kernel
theorem dX12_init_606 : decode cX12_init 606 = .ok (.getfield 166, 3) := by decide +kernel
theorem dX12_init_609 : decode cX12_init 609 = .ok (.iload_n 1, 1) := by decide +kernel
theorem dX12_init_610 : decode cX12_init 610 = .ok (.ldc 232, 2) := by decide +kernel
theorem dX12_init_612 : decode cX12_init 612 = .ok (.iastore, 1) := by decide +kernel
theorem dX12_init_613 : decode cX12_init 613 = .ok (.aload_n 0, 1) := by decide +kernel
theorem dX12_init_614 : decode cX12_init 614 = .ok (.getfield 172, 3) := by decide +kernel
theorem dX12_init_617 : decode cX12_init 617 = .ok (.iload_n 1, 1) := by decide +kernel
theorem dX12_init_618 : decode cX12_init 618 = .ok (.bipush 80, 2) := by decide +kernel
theorem dX12_init_620 : decode cX12_init 620 = .ok (.iastore, 1) := by decide +kernel
theorem dX12_init_621 : decode cX12_init 621 = .ok (.aload_n 0, 1) := by decide +kernel
theorem dX12_init_622 : decode cX12_init 622 = .ok (.getfield 175, 3) := by decide +kernel
theorem dX12_init_625 : decode cX12_init 625 = .ok (.iload_n 1, 1) := by decide +kernel
theorem dX12_init_626 : decode cX12_init 626 = .ok (.bipush 20, 2) := by decide +kernel
theorem dX12_init_628 : decode cX12_init 628 = .ok (.iastore, 1) := by decide +kernel
theorem dX12_init_629 : decode cX12_init 629 = .ok (.aload_n 0, 1) := by decide +kernel
theorem dX12_init_630 : decode cX12_init 630 = .ok (.getfield 178, 3) := by decide +kernel
theorem dX12_init_633 : decode cX12_init 633 = .ok (.iload_n 1, 1) := by decide +kernel
theorem dX12_init_634 : decode cX12_init 634 = .ok (.bipush 10, 2) := by decide +kernel
theorem dX12_init_636 : decode cX12_init 636 = .ok (.iastore, 1) := by decide +kernel
theorem dX12_init_637 : decode cX12_init 637 = .ok (.aload_n 0, 1) := by decide +kernel
theorem dX12_init_638 : decode cX12_init 638 = .ok (.getfield 181, 3) := by decide +kernel
theorem dX12_init_641 : decode cX12_init 641 = .ok (.iload_n 1, 1) := by decide +kernel
theorem dX12_init_642 : decode cX12_init 642 = .ok (.bipush 10, 2) := by decide +kernel
theorem dX12_init_644 : decode cX12_init 644 = .ok (.iastore, 1) := by decide +kernel
theorem dX12_init_645 : decode cX12_init 645 = .ok (.aload_n 0, 1) := by decide +kernel
theorem dX12_init_646 : decode cX12_init 646 = .ok (.getfield 193, 3) := by decide +kernel
theorem dX12_init_649 : decode cX12_init 649 = .ok (.iload_n 1, 1) := by decide +kernel
theorem dX12_init_650 : decode cX12_init 650 = .ok (.iconst (-1), 1) := by decide +kernel
theorem dX12_init_651 : decode cX12_init 651 = .ok (.iastore, 1) := by decide +kernel
theorem dX12_init_652 : decode cX12_init 652 = .ok (.aload_n 0, 1) := by decide +kernel
theorem dX12_init_653 : decode cX12_init 653 = .ok (.getfield 217, 3) := by decide +kernel
theorem dX12_init_656 : decode cX12_init 656 = .ok (.iload_n 1, 1) := by decide +kernel
theorem dX12_init_657 : decode cX12_init 657 = .ok (.iconst (-1), 1) := by decide +kernel
theorem dX12_init_658 : decode cX12_init 658 = .ok (.iastore, 1) := by decide +kernel
theorem dX12_init_659 : decode cX12_init 659 = .ok (.iinc 1 1, 3) := by decide +kernel
theorem dX12_init_662 : decode cX12_init 662 = .ok (.goto (-101), 3) := by decide +kernel
theorem dX12_init_665 : decode cX12_init 665 = .ok (.aload_n 0, 1) := by decide +kernel
theorem dX12_init_666 : decode cX12_init 666 = .ok (.getfield 187, 3) := by decide +kernel
theorem dX12_init_669 : decode cX12_init 669 = .ok (.iconst 0, 1) := by decide +kernel
theorem dX12_init_670 : decode cX12_init 670 = .ok (.iconst 1, 1) := by decide +kernel
theorem dX12_init_671 : decode cX12_init 671 = .ok (.bastore, 1) := by decide +kernel
theorem dX12_init_672 : decode cX12_init 672 = .ok (.iconst 0, 1) := by decide +kernel
theorem dX12_init_673 : decode cX12_init 673 = .ok (.istore_n 1, 1) := by decide +kernel
theorem dX12_init_674 : decode cX12_init 674 = .ok (.iload_n 1, 1) := by decide +kernel
theorem dX12_init_675 : decode cX12_init 675 = .ok (.iconst 4, 1) := by decide +kernel
theorem dX12_init_676 : decode cX12_init 676 = .ok (.if_icmp .ge 17, 3) := by decide +kernel
theorem dX12_init_679 : decode cX12_init 679 = .ok (.aload_n 0, 1) := by decide +kernel
theorem dX12_init_680 : decode cX12_init 680 = .ok (.getfield 109, 3) := by decide +kernel
theorem dX12_init_683 : decode cX12_init 683 = .ok (.iload_n 1, 1) := by decide +kernel
theorem dX12_init_684 : decode cX12_init 684 = .ok (.bipush 40, 2) := by decide +kernel
theorem dX12_init_686 : decode cX12_init 686 = .ok (.iastore, 1) := by decide +kernel
theorem dX12_init_687 : decode cX12_init 687 = .ok (.iinc 1 1, 3) := by decide +kernel
theorem dX12_init_690 : decode cX12_init 690 = .ok (.goto (-16), 3) := by decide +kernel
theorem dX12_init_693 : decode cX12_init 693 = .ok (.return_, 1) := by decide +kernel
theorem dX12_thrown_0 : decode cX12_thrown 0 = .ok (.aload_n 0, 1) := by decide +kernel
theorem dX12_thrown_1 : decode cX12_thrown 1 = .ok (.getfield 233, 3) := by decide +kernel
theorem dX12_thrown_4 : decode cX12_thrown 4 = .ok (.ireturn, 1) := by decide +kernel
theorem dX12_in_0 : decode cX12_in 0 = .ok (.iload_n 0, 1) := by decide +kernel
theorem dX12_in_1 : decode cX12_in 1 = .ok (.iload_n 1, 1) := by decide +kernel
theorem dX12_in_2 : decode cX12_in 2 = .ok (.if_icmp .lt 12, 3) := by decide +kernel
theorem dX12_in_5 : decode cX12_in 5 = .ok (.iload_n 0, 1) := by decide +kernel
theorem dX12_in_6 : decode cX12_in 6 = .ok (.iload_n 2, 1) := by decide +kernel
theorem dX12_in_7 : decode cX12_in 7 = .ok (.if_icmp .gt 7, 3) := by decide +kernel
theorem dX12_in_10 : decode cX12_in 10 = .ok (.iconst 1, 1) := by decide +kernel
theorem dX12_in_11 : decode cX12_in 11 = .ok (.goto 4, 3) := by decide +kernel
theorem dX12_in_14 : decode cX12_in 14 = .ok (.iconst 0, 1) := by decide +kernel
theorem dX12_in_15 : decode cX12_in 15 = .ok (.ireturn, 1) := by decide +kernel
theorem dX12_goes_0 : decode cX12_goes 0 = .ok (.aload_n 0, 1) := by decide +kernel
theorem dX12_goes_1 : decode cX12_goes 1 = .ok (.iload_n 1, 1) := by decide +kernel
theorem dX12_goes_2 : decode cX12_goes 2 = .ok (.ifCond .ne 7, 3) := by decide +kernel
theorem dX12_goes_5 : decode cX12_goes 5 = .ok (.iconst 1, 1) := by decide +kernel
theorem dX12_goes_6 : decode cX12_goes 6 = .ok (.goto 20, 3) := by decide +kernel
theorem dX12_goes_9 : decode cX12_goes 9 = .ok (.iload_n 2, 1) := by decide +kernel
theorem dX12_goes_10 : decode cX12_goes 10 = .ok (.ifCond .ne 7, 3) := by decide +kernel
theorem dX12_goes_13 : decode cX12_goes 13 = .ok (.iconst 2, 1) := by decide +kernel
theorem dX12_goes_14 : decode cX12_goes 14 = .ok (.goto 12, 3) := by decide +kernel
theorem dX12_goes_17 : decode cX12_goes 17 = .ok (.iload_n 3, 1) := by decide +kernel
theorem dX12_goes_18 : decode cX12_goes 18 = .ok (.ifCond .eq 7, 3) := by decide +kernel
theorem dX12_goes_21 : decode cX12_goes 21 = .ok (.iconst 0, 1) := by decide +kernel
theorem dX12_goes_22 : decode cX12_goes 22 = .ok (.goto 4, 3) := by decide +kernel
theorem dX12_goes_25 : decode cX12_goes 25 = .ok (.iconst 3, 1) := by decide +kernel
theorem dX12_goes_26 : decode cX12_goes 26 = .ok (.putfield 233, 3) := by decide +kernel
theorem dX12_goes_29 : decode cX12_goes 29 = .ok (.aload_n 0, 1) := by decide +kernel
theorem dX12_goes_30 : decode cX12_goes 30 = .ok (.getfield 233, 3) := by decide +kernel
theorem dX12_goes_33 : decode cX12_goes 33 = .ok (.ifCond .ne 7, 3) := by decide +kernel
theorem dX12_goes_36 : decode cX12_goes 36 = .ok (.iconst 1, 1) := by decide +kernel
theorem dX12_goes_37 : decode cX12_goes 37 = .ok (.goto 4, 3) := by decide +kernel
theorem dX12_goes_40 : decode cX12_goes 40 = .ok (.iconst 0, 1) := by decide +kernel
theorem dX12_goes_41 : decode cX12_goes 41 = .ok (.ireturn, 1) := by decide +kernel
theorem dX12_isPath_0 : decode cX12_isPath 0 = .ok (.iload_n 0, 1) := by decide +kernel
theorem dX12_isPath_1 : decode cX12_isPath 1 = .ok (.iconst 0, 1) := by decide +kernel
theorem dX12_isPath_2 : decode cX12_isPath 2 = .ok (.iconst 1, 1) := by decide +kernel
theorem dX12_isPath_3 : decode cX12_isPath 3 = .ok (.invokestatic 236, 3) := by decide +kernel
theorem dX12_isPath_6 : decode cX12_isPath 6 = .ok (.ireturn, 1) := by decide +kernel
theorem dX12_isStream_0 : decode cX12_isStream 0 = .ok (.iload_n 0, 1) := by decide +kernel
theorem dX12_isStream_1 : decode cX12_isStream 1 = .ok (.iconst 0, 1) := by decide +kernel
theorem dX12_isStream_2 : decode cX12_isStream 2 = .ok (.iconst 3, 1) := by decide +kernel
theorem dX12_isStream_3 : decode cX12_isStream 3 = .ok (.invokestatic 236, 3) := by decide +kernel
theorem dX12_isStream_6 : decode cX12_isStream 6 = .ok (.ireturn, 1) := by decide +kernel
theorem dX12_max_0 : decode cX12_max 0 = .ok (.iload_n 0, 1) := by decide +kernel
theorem dX12_max_1 : decode cX12_max 1 = .ok (.iload_n 1, 1) := by decide +kernel
theorem dX12_max_2 : decode cX12_max 2 = .ok (.if_icmp .le 7, 3) := by decide +kernel
theorem dX12_max_5 : decode cX12_max 5 = .ok (.iload_n 0, 1) := by decide +kernel
theorem dX12_max_6 : decode cX12_max 6 = .ok (.goto 4, 3) := by decide +kernel
theorem dX12_max_9 : decode cX12_max 9 = .ok (.iload_n 1, 1) := by decide +kernel
theorem dX12_max_10 : decode cX12_max 10 = .ok (.ireturn, 1) := by decide +kernel
theorem dX12_puts_0 : decode cX12_puts 0 = .ok (.aload_n 0, 1) := by decide +kernel
theorem dX12_puts_1 : decode cX12_puts 1 = .ok (.getfield 22, 3) := by decide +kernel
theorem dX12_puts_4 : decode cX12_puts 4 = .ok (.iload_n 1, 1) := by decide +kernel
theorem dX12_puts_5 : decode cX12_puts 5 = .ok (.baload, 1) := by decide +kernel
theorem dX12_puts_6 : decode cX12_puts 6 = .ok (.istore 4, 2) := by decide +kernel
theorem dX12_puts_8 : decode cX12_puts 8 = .ok (.iload 4, 2) := by decide +kernel
theorem dX12_puts_10 : decode cX12_puts 10 = .ok (.ifCond .ne 25, 3) := by decide +kernel
theorem dX12_puts_13 : decode cX12_puts 13 = .ok (.aload_n 0, 1) := by decide +kernel
theorem dX12_puts_14 : decode cX12_puts 14 = .ok (.getfield 26, 3) := by decide +kernel
theorem dX12_puts_17 : decode cX12_puts 17 = .ok (.iload_n 1, 1) := by decide +kernel
theorem dX12_puts_18 : decode cX12_puts 18 = .ok (.iaload, 1) := by decide +kernel
theorem dX12_puts_19 : decode cX12_puts 19 = .ok (.ifCond .le 16, 3) := by decide +kernel
theorem dX12_puts_22 : decode cX12_puts 22 = .ok (.aload_n 0, 1) := by decide +kernel
theorem dX12_puts_23 : decode cX12_puts 23 = .ok (.getfield 26, 3) := by decide +kernel
theorem dX12_puts_26 : decode cX12_puts 26 = .ok (.iload_n 1, 1) := by decide +kernel
theorem dX12_puts_27 : decode cX12_puts 27 = .ok (.dup2, 1) := by decide +kernel
theorem dX12_puts_28 : decode cX12_puts 28 = .ok (.iaload, 1) := by decide +kernel
theorem dX12_puts_29 : decode cX12_puts 29 = .ok (.iconst 1, 1) := by decide +kernel
theorem dX12_puts_30 : decode cX12_puts 30 = .ok (.isub, 1) := by decide +kernel
theorem dX12_puts_31 : decode cX12_puts 31 = .ok (.iastore, 1) := by decide +kernel
theorem dX12_puts_32 : decode cX12_puts 32 = .ok (.iconst 1, 1) := by decide +kernel
theorem dX12_puts_33 : decode cX12_puts 33 = .ok (.istore 4, 2) := by decide +kernel
theorem dX12_puts_35 : decode cX12_puts 35 = .ok (.iload 4, 2) := by decide +kernel
theorem dX12_puts_37 : decode cX12_puts 37 = .ok (.ifCond .ne 18, 3) := by decide +kernel
theorem dX12_puts_40 : decode cX12_puts 40 = .ok (.aload_n 0, 1) := by decide +kernel
theorem dX12_puts_41 : decode cX12_puts 41 = .ok (.getfield 41, 3) := by decide +kernel
theorem dX12_puts_44 : decode cX12_puts 44 = .ok (.iload_n 1, 1) := by decide +kernel
theorem dX12_puts_45 : decode cX12_puts 45 = .ok (.iaload, 1) := by decide +kernel
theorem dX12_puts_46 : decode cX12_puts 46 = .ok (.aload_n 0, 1) := by decide +kernel
theorem dX12_puts_47 : decode cX12_puts 47 = .ok (.getfield 16, 3) := by decide +kernel
theorem dX12_puts_50 : decode cX12_puts 50 = .ok (.iload_n 1, 1) := by decide +kernel
theorem dX12_puts_51 : decode cX12_puts 51 = .ok (.iaload, 1) := by decide +kernel
theorem dX12_puts_52 : decode cX12_puts 52 = .ok (.if_icmp .lt 7, 3) := by decide +kernel
theorem dX12_puts_55 : decode cX12_puts 55 = .ok (.iconst 1, 1) := by decide +kernel
theorem dX12_puts_56 : decode cX12_puts 56 = .ok (.goto 4, 3) := by decide +kernel
theorem dX12_puts_59 : decode cX12_puts 59 = .ok (.iconst 0, 1) := by decide +kernel
theorem dX12_puts_60 : decode cX12_puts 60 = .ok (.istore 4, 2) := by decide +kernel
theorem dX12_puts_62 : decode cX12_puts 62 = .ok (.iload 4, 2) := by decide +kernel
theorem dX12_puts_64 : decode cX12_puts 64 = .ok (.ifCond .eq 16, 3) := by decide +kernel
theorem dX12_puts_67 : decode cX12_puts 67 = .ok (.iload_n 2, 1) := by decide +kernel
theorem dX12_puts_68 : decode cX12_puts 68 = .ok (.iconst 2, 1) := by decide +kernel
theorem dX12_puts_69 : decode cX12_puts 69 = .ok (.if_icmp .ne 10, 3) := by decide +kernel
theorem dX12_puts_72 : decode cX12_puts 72 = .ok (.aload_n 0, 1) := by decide +kernel
theorem dX12_puts_73 : decode cX12_puts 73 = .ok (.getfield 142, 3) := by decide +kernel
theorem dX12_puts_76 : decode cX12_puts 76 = .ok (.iload_n 3, 1) := by decide +kernel
theorem dX12_puts_77 : decode cX12_puts 77 = .ok (.iconst 3, 1) := by decide +kernel
theorem dX12_puts_78 : decode cX12_puts 78 = .ok (.iastore, 1) := by decide +kernel
theorem dX12_puts_79 : decode cX12_puts 79 = .ok (.return_, 1) := by decide +kernel
theorem dX12_puts_80 : decode cX12_puts 80 = .ok (.iload_n 2, 1) := by decide +kernel
theorem dX12_puts_81 : decode cX12_puts 81 = .ok (.iconst 2, 1) := by decide +kernel
theorem dX12_puts_82 : decode cX12_puts 82 = .ok (.if_icmp .ne 29, 3) := by decide +kernel
theorem dX12_puts_85 : decode cX12_puts 85 = .ok (.aload_n 0, 1) := by decide +kernel
theorem dX12_puts_86 : decode cX12_puts 86 = .ok (.getfield 154, 3) := by decide +kernel
theorem dX12_puts_89 : decode cX12_puts 89 = .ok (.iload_n 3, 1) := by decide +kernel
theorem dX12_puts_90 : decode cX12_puts 90 = .ok (.aload_n 0, 1) := by decide +kernel
theorem dX12_puts_91 : decode cX12_puts 91 = .ok (.getfield 41, 3) := by decide +kernel
theorem dX12_puts_94 : decode cX12_puts 94 = .ok (.iload_n 1, 1) := by decide +kernel
theorem dX12_puts_95 : decode cX12_puts 95 = .ok (.iaload, 1) := by decide +kernel
theorem dX12_puts_96 : decode cX12_puts 96 = .ok (.aload_n 0, 1) := by decide +kernel
theorem dX12_puts_97 : decode cX12_puts 97 = .ok (.getfield 19, 3) := by decide +kernel
theorem dX12_puts_100 : decode cX12_puts 100 = .ok (.iload_n 1, 1) := by decide +kernel
theorem dX12_puts_101 : decode cX12_puts 101 = .ok (.iaload, 1) := by decide +kernel
theorem dX12_puts_102 : decode cX12_puts 102 = .ok (.if_icmp .lt 7, 3) := by decide +kernel
theorem dX12_puts_105 : decode cX12_puts 105 = .ok (.iconst 1, 1) := by decide +kernel
theorem dX12_puts_106 : decode cX12_puts 106 = .ok (.goto 4, 3) := by decide +kernel
theorem dX12_puts_109 : decode cX12_puts 109 = .ok (.iconst 0, 1) := by decide +kernel
theorem dX12_puts_110 : decode cX12_puts 110 = .ok (.bastore, 1) := by decide +kernel
theorem dX12_puts_111 : decode cX12_puts 111 = .ok (.aload_n 0, 1) := by decide +kernel
theorem dX12_puts_112 : decode cX12_puts 112 = .ok (.getfield 44, 3) := by decide +kernel
theorem dX12_puts_115 : decode cX12_puts 115 = .ok (.aload_n 0, 1) := by decide +kernel
theorem dX12_puts_116 : decode cX12_puts 116 = .ok (.getfield 240, 3) := by decide +kernel
theorem dX12_puts_119 : decode cX12_puts 119 = .ok (.iload_n 2, 1) := by decide +kernel
theorem dX12_puts_120 : decode cX12_puts 120 = .ok (.iastore, 1) := by decide +kernel
theorem dX12_puts_121 : decode cX12_puts 121 = .ok (.aload_n 0, 1) := by decide +kernel
theorem dX12_puts_122 : decode cX12_puts 122 = .ok (.getfield 47, 3) := by decide +kernel
theorem dX12_puts_125 : decode cX12_puts 125 = .ok (.aload_n 0, 1) := by decide +kernel
theorem dX12_puts_126 : decode cX12_puts 126 = .ok (.getfield 240, 3) := by decide +kernel
theorem dX12_puts_129 : decode cX12_puts 129 = .ok (.iload_n 3, 1) := by decide +kernel
theorem dX12_puts_130 : decode cX12_puts 130 = .ok (.iastore, 1) := by decide +kernel
theorem dX12_puts_131 : decode cX12_puts 131 = .ok (.aload_n 0, 1) := by decide +kernel
theorem dX12_puts_132 : decode cX12_puts 132 = .ok (.getfield 50, 3) := by decide +kernel
theorem dX12_puts_135 : decode cX12_puts 135 = .ok (.aload_n 0, 1) := by decide +kernel
theorem dX12_puts_136 : decode cX12_puts 136 = .ok (.getfield 240, 3) := by decide +kernel
theorem dX12_puts_139 : decode cX12_puts 139 = .ok (.iload_n 1, 1) := by decide +kernel
theorem dX12_puts_140 : decode cX12_puts 140 = .ok (.iastore, 1) := by decide +kernel
theorem dX12_puts_141 : decode cX12_puts 141 = .ok (.aload_n 0, 1) := by decide +kernel
theorem dX12_puts_142 : decode cX12_puts 142 = .ok (.getfield 38, 3) := by decide +kernel
theorem dX12_puts_145 : decode cX12_puts 145 = .ok (.bipush 30, 2) := by decide +kernel
theorem dX12_puts_147 : decode cX12_puts 147 = .ok (.iload_n 1, 1) := by decide +kernel
theorem dX12_puts_148 : decode cX12_puts 148 = .ok (.imul, 1) := by decide +kernel
theorem dX12_puts_149 : decode cX12_puts 149 = .ok (.aload_n 0, 1) := by decide +kernel
theorem dX12_puts_150 : decode cX12_puts 150 = .ok (.getfield 41, 3) := by decide +kernel
theorem dX12_puts_153 : decode cX12_puts 153 = .ok (.iload_n 1, 1) := by decide +kernel
theorem dX12_puts_154 : decode cX12_puts 154 = .ok (.iaload, 1) := by decide +kernel
theorem dX12_puts_155 : decode cX12_puts 155 = .ok (.iadd, 1) := by decide +kernel
theorem dX12_puts_156 : decode cX12_puts 156 = .ok (.aload_n 0, 1) := by decide +kernel
theorem dX12_puts_157 : decode cX12_puts 157 = .ok (.getfield 240, 3) := by decide +kernel
theorem dX12_puts_160 : decode cX12_puts 160 = .ok (.iastore, 1) := by decide +kernel
theorem dX12_puts_161 : decode cX12_puts 161 = .ok (.aload_n 0, 1) := by decide +kernel
theorem dX12_puts_162 : decode cX12_puts 162 = .ok (.getfield 41, 3) := by decide +kernel
theorem dX12_puts_165 : decode cX12_puts 165 = .ok (.iload_n 1, 1) := by decide +kernel
theorem dX12_puts_166 : decode cX12_puts 166 = .ok (.dup2, 1) := by decide +kernel
theorem dX12_puts_167 : decode cX12_puts 167 = .ok (.iaload, 1) := by decide +kernel
theorem dX12_puts_168 : decode cX12_puts 168 = .ok (.iconst 1, 1) := by decide +kernel
theorem dX12_puts_169 : decode cX12_puts 169 = .ok (.iadd, 1) := by decide +kernel
theorem dX12_puts_170 : decode cX12_puts 170 = .ok (.iastore, 1) := by decide +kernel
theorem dX12_puts_171 : decode cX12_puts 171 = .ok (.aload_n 0, 1) := by decide +kernel
theorem dX12_puts_172 : decode cX12_puts 172 = .ok (.dup, 1) := by decide +kernel
theorem dX12_puts_173 : decode cX12_puts 173 = .ok (.getfield 240, 3) := by decide +kernel
theorem dX12_puts_176 : decode cX12_puts 176 = .ok (.iconst 1, 1) := by decide +kernel
theorem dX12_puts_177 : decode cX12_puts 177 = .ok (.iadd, 1) := by decide +kernel
theorem dX12_puts_178 : decode cX12_puts 178 = .ok (.putfield 240, 3) := by decide +kernel
theorem dX12_puts_181 : decode cX12_puts 181 = .ok (.return_, 1) := by decide +kernel
theorem dX12_answers_0 : decode cX12_answers 0 = .ok (.aload_n 0, 1) := by decide +kernel
theorem dX12_answers_1 : decode cX12_answers 1 = .ok (.getfield 22, 3) := by decide +kernel
theorem dX12_answers_4 : decode cX12_answers 4 = .ok (.iload_n 1, 1) := by decide +kernel
theorem dX12_answers_5 : decode cX12_answers 5 = .ok (.baload, 1) := by decide +kernel
theorem dX12_answers_6 : decode cX12_answers 6 = .ok (.ifCond .eq 4, 3) := by decide +kernel
theorem dX12_answers_9 : decode cX12_answers 9 = .ok (.return_, 1) := by decide +kernel
theorem dX12_answers_10 : decode cX12_answers 10 = .ok (.aload_n 0, 1) := by decide +kernel
theorem dX12_answers_11 : decode cX12_answers 11 = .ok (.getfield 29, 3) := by decide +kernel
theorem dX12_answers_14 : decode cX12_answers 14 = .ok (.iload_n 1, 1) := by decide +kernel
theorem dX12_answers_15 : decode cX12_answers 15 = .ok (.iaload, 1) := by decide +kernel
theorem dX12_answers_16 : decode cX12_answers 16 = .ok (.ifCond .le 14, 3) := by decide +kernel
theorem dX12_answers_19 : decode cX12_answers 19 = .ok (.aload_n 0, 1) := by decide +kernel
theorem dX12_answers_20 : decode cX12_answers 20 = .ok (.getfield 29, 3) := by decide +kernel
theorem dX12_answers_23 : decode cX12_answers 23 = .ok (.iload_n 1, 1) := by decide +kernel
theorem dX12_answers_24 : decode cX12_answers 24 = .ok (.dup2, 1) := by decide +kernel
theorem dX12_answers_25 : decode cX12_answers 25 = .ok (.iaload, 1) := by decide +kernel
theorem dX12_answers_26 : decode cX12_answers 26 = .ok (.iconst 1, 1) := by decide +kernel
theorem dX12_answers_27 : decode cX12_answers 27 = .ok (.isub, 1) := by decide +kernel
theorem dX12_answers_28 : decode cX12_answers 28 = .ok (.iastore, 1) := by decide +kernel
theorem dX12_answers_29 : decode cX12_answers 29 = .ok (.return_, 1) := by decide +kernel
theorem dX12_answers_30 : decode cX12_answers 30 = .ok (.aload_n 0, 1) := by decide +kernel
theorem dX12_answers_31 : decode cX12_answers 31 = .ok (.getfield 59, 3) := by decide +kernel
theorem dX12_answers_34 : decode cX12_answers 34 = .ok (.aload_n 0, 1) := by decide +kernel
theorem dX12_answers_35 : decode cX12_answers 35 = .ok (.getfield 243, 3) := by decide +kernel
theorem dX12_answers_38 : decode cX12_answers 38 = .ok (.iload_n 2, 1) := by decide +kernel
theorem dX12_answers_39 : decode cX12_answers 39 = .ok (.iastore, 1) := by decide +kernel
theorem dX12_answers_40 : decode cX12_answers 40 = .ok (.aload_n 0, 1) := by decide +kernel
theorem dX12_answers_41 : decode cX12_answers 41 = .ok (.getfield 62, 3) := by decide +kernel
theorem dX12_answers_44 : decode cX12_answers 44 = .ok (.aload_n 0, 1) := by decide +kernel
theorem dX12_answers_45 : decode cX12_answers 45 = .ok (.getfield 243, 3) := by decide +kernel
theorem dX12_answers_48 : decode cX12_answers 48 = .ok (.iload_n 3, 1) := by decide +kernel
theorem dX12_answers_49 : decode cX12_answers 49 = .ok (.iastore, 1) := by decide +kernel
theorem dX12_answers_50 : decode cX12_answers 50 = .ok (.aload_n 0, 1) := by decide +kernel
theorem dX12_answers_51 : decode cX12_answers 51 = .ok (.getfield 65, 3) := by decide +kernel
theorem dX12_answers_54 : decode cX12_answers 54 = .ok (.aload_n 0, 1) := by decide +kernel
theorem dX12_answers_55 : decode cX12_answers 55 = .ok (.getfield 243, 3) := by decide +kernel
theorem dX12_answers_58 : decode cX12_answers 58 = .ok (.iload_n 1, 1) := by decide +kernel
theorem dX12_answers_59 : decode cX12_answers 59 = .ok (.iastore, 1) := by decide +kernel
theorem dX12_answers_60 : decode cX12_answers 60 = .ok (.aload_n 0, 1) := by decide +kernel
theorem dX12_answers_61 : decode cX12_answers 61 = .ok (.getfield 68, 3) := by decide +kernel
theorem dX12_answers_64 : decode cX12_answers 64 = .ok (.aload_n 0, 1) := by decide +kernel
theorem dX12_answers_65 : decode cX12_answers 65 = .ok (.getfield 243, 3) := by decide +kernel
theorem dX12_answers_68 : decode cX12_answers 68 = .ok (.aload_n 0, 1) := by decide +kernel
theorem dX12_answers_69 : decode cX12_answers 69 = .ok (.getfield 246, 3) := by decide +kernel
theorem dX12_answers_72 : decode cX12_answers 72 = .ok (.aload_n 0, 1) := by decide +kernel
theorem dX12_answers_73 : decode cX12_answers 73 = .ok (.getfield 7, 3) := by decide +kernel
theorem dX12_answers_76 : decode cX12_answers 76 = .ok (.iload_n 1, 1) := by decide +kernel
theorem dX12_answers_77 : decode cX12_answers 77 = .ok (.iaload, 1) := by decide +kernel
theorem dX12_answers_78 : decode cX12_answers 78 = .ok (.iadd, 1) := by decide +kernel
theorem dX12_answers_79 : decode cX12_answers 79 = .ok (.iastore, 1) := by decide +kernel
theorem dX12_answers_80 : decode cX12_answers 80 = .ok (.aload_n 0, 1) := by decide +kernel
theorem dX12_answers_81 : decode cX12_answers 81 = .ok (.dup, 1) := by decide +kernel
theorem dX12_answers_82 : decode cX12_answers 82 = .ok (.getfield 243, 3) := by decide +kernel
theorem dX12_answers_85 : decode cX12_answers 85 = .ok (.iconst 1, 1) := by decide +kernel
theorem dX12_answers_86 : decode cX12_answers 86 = .ok (.iadd, 1) := by decide +kernel
theorem dX12_answers_87 : decode cX12_answers 87 = .ok (.putfield 243, 3) := by decide +kernel
theorem dX12_answers_90 : decode cX12_answers 90 = .ok (.return_, 1) := by decide +kernel
theorem dX12_setPath_0 : decode cX12_setPath 0 = .ok (.aload_n 0, 1) := by decide +kernel
theorem dX12_setPath_1 : decode cX12_setPath 1 = .ok (.iload_n 1, 1) := by decide +kernel
theorem dX12_setPath_2 : decode cX12_setPath 2 = .ok (.invokestatic 249, 3) := by decide +kernel
theorem dX12_setPath_5 : decode cX12_setPath 5 = .ok (.iload_n 2, 1) := by decide +kernel
theorem dX12_setPath_6 : decode cX12_setPath 6 = .ok (.iconst 1, 1) := by decide +kernel
theorem dX12_setPath_7 : decode cX12_setPath 7 = .ok (.bipush 30, 2) := by decide +kernel
theorem dX12_setPath_9 : decode cX12_setPath 9 = .ok (.invokestatic 236, 3) := by decide +kernel
theorem dX12_setPath_12 : decode cX12_setPath 12 = .ok (.ifCond .eq 39, 3) := by decide +kernel
theorem dX12_setPath_15 : decode cX12_setPath 15 = .ok (.iload_n 3, 1) := by decide +kernel
theorem dX12_setPath_16 : decode cX12_setPath 16 = .ok (.iconst 1, 1) := by decide +kernel
theorem dX12_setPath_17 : decode cX12_setPath 17 = .ok (.bipush 9, 2) := by decide +kernel
theorem dX12_setPath_19 : decode cX12_setPath 19 = .ok (.invokestatic 236, 3) := by decide +kernel
theorem dX12_setPath_22 : decode cX12_setPath 22 = .ok (.ifCond .eq 29, 3) := by decide +kernel
theorem dX12_setPath_25 : decode cX12_setPath 25 = .ok (.iload 4, 2) := by decide +kernel
theorem dX12_setPath_27 : decode cX12_setPath 27 = .ok (.iconst 1, 1) := by decide +kernel
theorem dX12_setPath_28 : decode cX12_setPath 28 = .ok (.bipush 30, 2) := by decide +kernel
theorem dX12_setPath_30 : decode cX12_setPath 30 = .ok (.invokestatic 236, 3) := by decide +kernel
theorem dX12_setPath_33 : decode cX12_setPath 33 = .ok (.ifCond .eq 18, 3) := by decide +kernel
theorem dX12_setPath_36 : decode cX12_setPath 36 = .ok (.iload 5, 2) := by decide +kernel
theorem dX12_setPath_38 : decode cX12_setPath 38 = .ok (.iconst 0, 1) := by decide +kernel
theorem dX12_setPath_39 : decode cX12_setPath 39 = .ok (.bipush 30, 2) := by decide +kernel
theorem dX12_setPath_41 : decode cX12_setPath 41 = .ok (.invokestatic 236, 3) := by decide +kernel
theorem dX12_setPath_44 : decode cX12_setPath 44 = .ok (.ifCond .eq 7, 3) := by decide +kernel
theorem dX12_setPath_47 : decode cX12_setPath 47 = .ok (.iconst 1, 1) := by decide +kernel
theorem dX12_setPath_48 : decode cX12_setPath 48 = .ok (.goto 4, 3) := by decide +kernel
theorem dX12_setPath_51 : decode cX12_setPath 51 = .ok (.iconst 0, 1) := by decide +kernel
theorem dX12_setPath_52 : decode cX12_setPath 52 = .ok (.iconst 1, 1) := by decide +kernel
theorem dX12_setPath_53 : decode cX12_setPath 53 = .ok (.invokevirtual 253, 3) := by decide +kernel
theorem dX12_setPath_56 : decode cX12_setPath 56 = .ok (.ifCond .eq 33, 3) := by decide +kernel
theorem dX12_setPath_59 : decode cX12_setPath 59 = .ok (.aload_n 0, 1) := by decide +kernel
theorem dX12_setPath_60 : decode cX12_setPath 60 = .ok (.getfield 7, 3) := by decide +kernel
theorem dX12_setPath_63 : decode cX12_setPath 63 = .ok (.iload_n 1, 1) := by decide +kernel
theorem dX12_setPath_64 : decode cX12_setPath 64 = .ok (.iload_n 2, 1) := by decide +kernel
theorem dX12_setPath_65 : decode cX12_setPath 65 = .ok (.iastore, 1) := by decide +kernel
theorem dX12_setPath_66 : decode cX12_setPath 66 = .ok (.aload_n 0, 1) := by decide +kernel
theorem dX12_setPath_67 : decode cX12_setPath 67 = .ok (.getfield 13, 3) := by decide +kernel
theorem dX12_setPath_70 : decode cX12_setPath 70 = .ok (.iload_n 1, 1) := by decide +kernel
theorem dX12_setPath_71 : decode cX12_setPath 71 = .ok (.iload_n 3, 1) := by decide +kernel
theorem dX12_setPath_72 : decode cX12_setPath 72 = .ok (.iastore, 1) := by decide +kernel
theorem dX12_setPath_73 : decode cX12_setPath 73 = .ok (.aload_n 0, 1) := by decide +kernel
theorem dX12_setPath_74 : decode cX12_setPath 74 = .ok (.getfield 16, 3) := by decide +kernel
theorem dX12_setPath_77 : decode cX12_setPath 77 = .ok (.iload_n 1, 1) := by decide +kernel
theorem dX12_setPath_78 : decode cX12_setPath 78 = .ok (.iload 4, 2) := by decide +kernel
theorem dX12_setPath_80 : decode cX12_setPath 80 = .ok (.iastore, 1) := by decide +kernel
theorem dX12_setPath_81 : decode cX12_setPath 81 = .ok (.aload_n 0, 1) := by decide +kernel
theorem dX12_setPath_82 : decode cX12_setPath 82 = .ok (.getfield 19, 3) := by decide +kernel
theorem dX12_setPath_85 : decode cX12_setPath 85 = .ok (.iload_n 1, 1) := by decide +kernel
theorem dX12_setPath_86 : decode cX12_setPath 86 = .ok (.iload 5, 2) := by decide +kernel
theorem dX12_setPath_88 : decode cX12_setPath 88 = .ok (.iastore, 1) := by decide +kernel
theorem dX12_setPath_89 : decode cX12_setPath 89 = .ok (.return_, 1) := by decide +kernel
theorem dX12_setUp_0 : decode cX12_setUp 0 = .ok (.aload_n 0, 1) := by decide +kernel
theorem dX12_setUp_1 : decode cX12_setUp 1 = .ok (.iload_n 1, 1) := by decide +kernel
theorem dX12_setUp_2 : decode cX12_setUp 2 = .ok (.invokestatic 249, 3) := by decide +kernel
theorem dX12_setUp_5 : decode cX12_setUp 5 = .ok (.iconst 1, 1) := by decide +kernel
theorem dX12_setUp_6 : decode cX12_setUp 6 = .ok (.iconst 1, 1) := by decide +kernel
theorem dX12_setUp_7 : decode cX12_setUp 7 = .ok (.invokevirtual 253, 3) := by decide +kernel
theorem dX12_setUp_10 : decode cX12_setUp 10 = .ok (.ifCond .ne 5, 3) := by decide +kernel
theorem dX12_setUp_13 : decode cX12_setUp 13 = .ok (.iconst 0, 1) := by decide +kernel
theorem dX12_setUp_14 : decode cX12_setUp 14 = .ok (.ireturn, 1) := by decide +kernel
theorem dX12_setUp_15 : decode cX12_setUp 15 = .ok (.aload_n 0, 1) := by decide +kernel
theorem dX12_setUp_16 : decode cX12_setUp 16 = .ok (.getfield 22, 3) := by decide +kernel
theorem dX12_setUp_19 : decode cX12_setUp 19 = .ok (.iload_n 1, 1) := by decide +kernel
theorem dX12_setUp_20 : decode cX12_setUp 20 = .ok (.baload, 1) := by decide +kernel
theorem dX12_setUp_21 : decode cX12_setUp 21 = .ok (.ifCond .ne 7, 3) := by decide +kernel
theorem dX12_setUp_24 : decode cX12_setUp 24 = .ok (.iconst 1, 1) := by decide +kernel
theorem dX12_setUp_25 : decode cX12_setUp 25 = .ok (.goto 4, 3) := by decide +kernel
theorem dX12_setUp_28 : decode cX12_setUp 28 = .ok (.iconst 0, 1) := by decide +kernel
theorem dX12_setUp_29 : decode cX12_setUp 29 = .ok (.istore_n 3, 1) := by decide +kernel
theorem dX12_setUp_30 : decode cX12_setUp 30 = .ok (.aload_n 0, 1) := by decide +kernel
theorem dX12_setUp_31 : decode cX12_setUp 31 = .ok (.getfield 22, 3) := by decide +kernel
theorem dX12_setUp_34 : decode cX12_setUp 34 = .ok (.iload_n 1, 1) := by decide +kernel
theorem dX12_setUp_35 : decode cX12_setUp 35 = .ok (.iload_n 2, 1) := by decide +kernel
theorem dX12_setUp_36 : decode cX12_setUp 36 = .ok (.ifCond .ne 7, 3) := by decide +kernel
theorem dX12_setUp_39 : decode cX12_setUp 39 = .ok (.iconst 1, 1) := by decide +kernel
theorem dX12_setUp_40 : decode cX12_setUp 40 = .ok (.goto 4, 3) := by decide +kernel
theorem dX12_setUp_43 : decode cX12_setUp 43 = .ok (.iconst 0, 1) := by decide +kernel
theorem dX12_setUp_44 : decode cX12_setUp 44 = .ok (.bastore, 1) := by decide +kernel
theorem dX12_setUp_45 : decode cX12_setUp 45 = .ok (.iload_n 3, 1) := by decide +kernel
theorem dX12_setUp_46 : decode cX12_setUp 46 = .ok (.ireturn, 1) := by decide +kernel
theorem dX12_lose_0 : decode cX12_lose 0 = .ok (.aload_n 0, 1) := by decide +kernel
theorem dX12_lose_1 : decode cX12_lose 1 = .ok (.iload_n 1, 1) := by decide +kernel
theorem dX12_lose_2 : decode cX12_lose 2 = .ok (.invokestatic 249, 3) := by decide +kernel
theorem dX12_lose_5 : decode cX12_lose 5 = .ok (.iload_n 3, 1) := by decide +kernel
theorem dX12_lose_6 : decode cX12_lose 6 = .ok (.iconst 0, 1) := by decide +kernel
theorem dX12_lose_7 : decode cX12_lose 7 = .ok (.bipush 20, 2) := by decide +kernel
theorem dX12_lose_9 : decode cX12_lose 9 = .ok (.invokestatic 236, 3) := by decide +kernel
theorem dX12_lose_12 : decode cX12_lose 12 = .ok (.iconst 1, 1) := by decide +kernel
theorem dX12_lose_13 : decode cX12_lose 13 = .ok (.invokevirtual 253, 3) := by decide +kernel
theorem dX12_lose_16 : decode cX12_lose 16 = .ok (.ifCond .eq 24, 3) := by decide +kernel
theorem dX12_lose_19 : decode cX12_lose 19 = .ok (.iload_n 2, 1) := by decide +kernel
theorem dX12_lose_20 : decode cX12_lose 20 = .ok (.ifCond .eq 13, 3) := by decide +kernel
theorem dX12_lose_23 : decode cX12_lose 23 = .ok (.aload_n 0, 1) := by decide +kernel
theorem dX12_lose_24 : decode cX12_lose 24 = .ok (.getfield 26, 3) := by decide +kernel
theorem dX12_lose_27 : decode cX12_lose 27 = .ok (.iload_n 1, 1) := by decide +kernel
theorem dX12_lose_28 : decode cX12_lose 28 = .ok (.iload_n 3, 1) := by decide +kernel
theorem dX12_lose_29 : decode cX12_lose 29 = .ok (.iastore, 1) := by decide +kernel
theorem dX12_lose_30 : decode cX12_lose 30 = .ok (.goto 10, 3) := by decide +kernel
theorem dX12_lose_33 : decode cX12_lose 33 = .ok (.aload_n 0, 1) := by decide +kernel
theorem dX12_lose_34 : decode cX12_lose 34 = .ok (.getfield 29, 3) := by decide +kernel
theorem dX12_lose_37 : decode cX12_lose 37 = .ok (.iload_n 1, 1) := by decide +kernel
theorem dX12_lose_38 : decode cX12_lose 38 = .ok (.iload_n 3, 1) := by decide +kernel
theorem dX12_lose_39 : decode cX12_lose 39 = .ok (.iastore, 1) := by decide +kernel
theorem dX12_lose_40 : decode cX12_lose 40 = .ok (.return_, 1) := by decide +kernel
theorem dX12_late_0 : decode cX12_late 0 = .ok (.aload_n 0, 1) := by decide +kernel
theorem dX12_late_1 : decode cX12_late 1 = .ok (.iload_n 1, 1) := by decide +kernel
theorem dX12_late_2 : decode cX12_late 2 = .ok (.invokestatic 249, 3) := by decide +kernel
theorem dX12_late_5 : decode cX12_late 5 = .ok (.iload_n 2, 1) := by decide +kernel
theorem dX12_late_6 : decode cX12_late 6 = .ok (.iconst 0, 1) := by decide +kernel
theorem dX12_late_7 : decode cX12_late 7 = .ok (.bipush 20, 2) := by decide +kernel
theorem dX12_late_9 : decode cX12_late 9 = .ok (.invokestatic 236, 3) := by decide +kernel
theorem dX12_late_12 : decode cX12_late 12 = .ok (.ifCond .eq 17, 3) := by decide +kernel
theorem dX12_late_15 : decode cX12_late 15 = .ok (.iload_n 3, 1) := by decide +kernel
theorem dX12_late_16 : decode cX12_late 16 = .ok (.iconst 0, 1) := by decide +kernel
theorem dX12_late_17 : decode cX12_late 17 = .ok (.bipush 50, 2) := by decide +kernel
theorem dX12_late_19 : decode cX12_late 19 = .ok (.invokestatic 236, 3) := by decide +kernel
theorem dX12_late_22 : decode cX12_late 22 = .ok (.ifCond .eq 7, 3) := by decide +kernel
theorem dX12_late_25 : decode cX12_late 25 = .ok (.iconst 1, 1) := by decide +kernel
theorem dX12_late_26 : decode cX12_late 26 = .ok (.goto 4, 3) := by decide +kernel
theorem dX12_late_29 : decode cX12_late 29 = .ok (.iconst 0, 1) := by decide +kernel
theorem dX12_late_30 : decode cX12_late 30 = .ok (.iconst 1, 1) := by decide +kernel
theorem dX12_late_31 : decode cX12_late 31 = .ok (.invokevirtual 253, 3) := by decide +kernel
theorem dX12_late_34 : decode cX12_late 34 = .ok (.ifCond .eq 17, 3) := by decide +kernel
theorem dX12_late_37 : decode cX12_late 37 = .ok (.aload_n 0, 1) := by decide +kernel
theorem dX12_late_38 : decode cX12_late 38 = .ok (.getfield 32, 3) := by decide +kernel
theorem dX12_late_41 : decode cX12_late 41 = .ok (.iload_n 1, 1) := by decide +kernel
theorem dX12_late_42 : decode cX12_late 42 = .ok (.iload_n 2, 1) := by decide +kernel
theorem dX12_late_43 : decode cX12_late 43 = .ok (.iastore, 1) := by decide +kernel
theorem dX12_late_44 : decode cX12_late 44 = .ok (.aload_n 0, 1) := by decide +kernel
theorem dX12_late_45 : decode cX12_late 45 = .ok (.getfield 35, 3) := by decide +kernel
theorem dX12_late_48 : decode cX12_late 48 = .ok (.iload_n 1, 1) := by decide +kernel
theorem dX12_late_49 : decode cX12_late 49 = .ok (.iload_n 3, 1) := by decide +kernel
theorem dX12_late_50 : decode cX12_late 50 = .ok (.iastore, 1) := by decide +kernel
theorem dX12_late_51 : decode cX12_late 51 = .ok (.return_, 1) := by decide +kernel
theorem dX12_foreign_0 : decode cX12_foreign 0 = .ok (.aload_n 0, 1) := by decide +kernel
theorem dX12_foreign_1 : decode cX12_foreign 1 = .ok (.iload_n 1, 1) := by decide +kernel
theorem dX12_foreign_2 : decode cX12_foreign 2 = .ok (.invokestatic 249, 3) := by decide +kernel
theorem dX12_foreign_5 : decode cX12_foreign 5 = .ok (.iload_n 2, 1) := by decide +kernel
theorem dX12_foreign_6 : decode cX12_foreign 6 = .ok (.iconst 1, 1) := by decide +kernel
theorem dX12_foreign_7 : decode cX12_foreign 7 = .ok (.bipush 30, 2) := by decide +kernel
theorem dX12_foreign_9 : decode cX12_foreign 9 = .ok (.invokestatic 236, 3) := by decide +kernel
theorem dX12_foreign_12 : decode cX12_foreign 12 = .ok (.iconst 1, 1) := by decide +kernel
theorem dX12_foreign_13 : decode cX12_foreign 13 = .ok (.invokevirtual 253, 3) := by decide +kernel
theorem dX12_foreign_16 : decode cX12_foreign 16 = .ok (.ifCond .ne 5, 3) := by decide +kernel
theorem dX12_foreign_19 : decode cX12_foreign 19 = .ok (.iconst 0, 1) := by decide +kernel
theorem dX12_foreign_20 : decode cX12_foreign 20 = .ok (.ireturn, 1) := by decide +kernel
theorem dX12_foreign_21 : decode cX12_foreign 21 = .ok (.iconst 0, 1) := by decide +kernel
theorem dX12_foreign_22 : decode cX12_foreign 22 = .ok (.istore_n 3, 1) := by decide +kernel
theorem dX12_foreign_23 : decode cX12_foreign 23 = .ok (.iload_n 3, 1) := by decide +kernel
theorem dX12_foreign_24 : decode cX12_foreign 24 = .ok (.iload_n 2, 1) := by decide +kernel
theorem dX12_foreign_25 : decode cX12_foreign 25 = .ok (.if_icmp .ge 51, 3) := by decide +kernel
theorem dX12_foreign_28 : decode cX12_foreign 28 = .ok (.aload_n 0, 1) := by decide +kernel
theorem dX12_foreign_29 : decode cX12_foreign 29 = .ok (.getfield 41, 3) := by decide +kernel
theorem dX12_foreign_32 : decode cX12_foreign 32 = .ok (.iload_n 1, 1) := by decide +kernel
theorem dX12_foreign_33 : decode cX12_foreign 33 = .ok (.iaload, 1) := by decide +kernel
theorem dX12_foreign_34 : decode cX12_foreign 34 = .ok (.aload_n 0, 1) := by decide +kernel
theorem dX12_foreign_35 : decode cX12_foreign 35 = .ok (.getfield 16, 3) := by decide +kernel
theorem dX12_foreign_38 : decode cX12_foreign 38 = .ok (.iload_n 1, 1) := by decide +kernel
theorem dX12_foreign_39 : decode cX12_foreign 39 = .ok (.iaload, 1) := by decide +kernel
theorem dX12_foreign_40 : decode cX12_foreign 40 = .ok (.if_icmp .ge 36, 3) := by decide +kernel
theorem dX12_foreign_43 : decode cX12_foreign 43 = .ok (.aload_n 0, 1) := by decide +kernel
theorem dX12_foreign_44 : decode cX12_foreign 44 = .ok (.getfield 38, 3) := by decide +kernel
theorem dX12_foreign_47 : decode cX12_foreign 47 = .ok (.bipush 30, 2) := by decide +kernel
theorem dX12_foreign_49 : decode cX12_foreign 49 = .ok (.iload_n 1, 1) := by decide +kernel
theorem dX12_foreign_50 : decode cX12_foreign 50 = .ok (.imul, 1) := by decide +kernel
theorem dX12_foreign_51 : decode cX12_foreign 51 = .ok (.aload_n 0, 1) := by decide +kernel
theorem dX12_foreign_52 : decode cX12_foreign 52 = .ok (.getfield 41, 3) := by decide +kernel
theorem dX12_foreign_55 : decode cX12_foreign 55 = .ok (.iload_n 1, 1) := by decide +kernel
theorem dX12_foreign_56 : decode cX12_foreign 56 = .ok (.iaload, 1) := by decide +kernel
theorem dX12_foreign_57 : decode cX12_foreign 57 = .ok (.iadd, 1) := by decide +kernel
theorem dX12_foreign_58 : decode cX12_foreign 58 = .ok (.iconst (-1), 1) := by decide +kernel
theorem dX12_foreign_59 : decode cX12_foreign 59 = .ok (.iastore, 1) := by decide +kernel
theorem dX12_foreign_60 : decode cX12_foreign 60 = .ok (.aload_n 0, 1) := by decide +kernel
theorem dX12_foreign_61 : decode cX12_foreign 61 = .ok (.getfield 41, 3) := by decide +kernel
theorem dX12_foreign_64 : decode cX12_foreign 64 = .ok (.iload_n 1, 1) := by decide +kernel
theorem dX12_foreign_65 : decode cX12_foreign 65 = .ok (.dup2, 1) := by decide +kernel
theorem dX12_foreign_66 : decode cX12_foreign 66 = .ok (.iaload, 1) := by decide +kernel
theorem dX12_foreign_67 : decode cX12_foreign 67 = .ok (.iconst 1, 1) := by decide +kernel
theorem dX12_foreign_68 : decode cX12_foreign 68 = .ok (.iadd, 1) := by decide +kernel
theorem dX12_foreign_69 : decode cX12_foreign 69 = .ok (.iastore, 1) := by decide +kernel
theorem dX12_foreign_70 : decode cX12_foreign 70 = .ok (.iinc 3 1, 3) := by decide +kernel
theorem dX12_foreign_73 : decode cX12_foreign 73 = .ok (.goto (-50), 3) := by decide +kernel
theorem dX12_foreign_76 : decode cX12_foreign 76 = .ok (.iload_n 3, 1) := by decide +kernel
theorem dX12_foreign_77 : decode cX12_foreign 77 = .ok (.ireturn, 1) := by decide +kernel
theorem dX12_leaves_0 : decode cX12_leaves 0 = .ok (.aload_n 0, 1) := by decide +kernel
theorem dX12_leaves_1 : decode cX12_leaves 1 = .ok (.getfield 41, 3) := by decide +kernel
theorem dX12_leaves_4 : decode cX12_leaves 4 = .ok (.iload_n 1, 1) := by decide +kernel
theorem dX12_leaves_5 : decode cX12_leaves 5 = .ok (.iaload, 1) := by decide +kernel
theorem dX12_leaves_6 : decode cX12_leaves 6 = .ok (.aload_n 0, 1) := by decide +kernel
theorem dX12_leaves_7 : decode cX12_leaves 7 = .ok (.getfield 13, 3) := by decide +kernel
theorem dX12_leaves_10 : decode cX12_leaves 10 = .ok (.iload_n 1, 1) := by decide +kernel
theorem dX12_leaves_11 : decode cX12_leaves 11 = .ok (.iaload, 1) := by decide +kernel
theorem dX12_leaves_12 : decode cX12_leaves 12 = .ok (.if_icmp .ge 12, 3) := by decide +kernel
theorem dX12_leaves_15 : decode cX12_leaves 15 = .ok (.aload_n 0, 1) := by decide +kernel
theorem dX12_leaves_16 : decode cX12_leaves 16 = .ok (.getfield 41, 3) := by decide +kernel
theorem dX12_leaves_19 : decode cX12_leaves 19 = .ok (.iload_n 1, 1) := by decide +kernel
theorem dX12_leaves_20 : decode cX12_leaves 20 = .ok (.iaload, 1) := by decide +kernel
theorem dX12_leaves_21 : decode cX12_leaves 21 = .ok (.goto 9, 3) := by decide +kernel
theorem dX12_leaves_24 : decode cX12_leaves 24 = .ok (.aload_n 0, 1) := by decide +kernel
theorem dX12_leaves_25 : decode cX12_leaves 25 = .ok (.getfield 13, 3) := by decide +kernel
theorem dX12_leaves_28 : decode cX12_leaves 28 = .ok (.iload_n 1, 1) := by decide +kernel
theorem dX12_leaves_29 : decode cX12_leaves 29 = .ok (.iaload, 1) := by decide +kernel
theorem dX12_leaves_30 : decode cX12_leaves 30 = .ok (.istore_n 2, 1) := by decide +kernel
theorem dX12_leaves_31 : decode cX12_leaves 31 = .ok (.iconst 0, 1) := by decide +kernel
theorem dX12_leaves_32 : decode cX12_leaves 32 = .ok (.istore_n 3, 1) := by decide +kernel
theorem dX12_leaves_33 : decode cX12_leaves 33 = .ok (.iload_n 3, 1) := by decide +kernel
theorem dX12_leaves_34 : decode cX12_leaves 34 = .ok (.iload_n 2, 1) := by decide +kernel
theorem dX12_leaves_35 : decode cX12_leaves 35 = .ok (.if_icmp .ge 120, 3) := by decide +kernel
theorem dX12_leaves_38 : decode cX12_leaves 38 = .ok (.aload_n 0, 1) := by decide +kernel
theorem dX12_leaves_39 : decode cX12_leaves 39 = .ok (.getfield 38, 3) := by decide +kernel
theorem dX12_leaves_42 : decode cX12_leaves 42 = .ok (.bipush 30, 2) := by decide +kernel
theorem dX12_leaves_44 : decode cX12_leaves 44 = .ok (.iload_n 1, 1) := by decide +kernel
theorem dX12_leaves_45 : decode cX12_leaves 45 = .ok (.imul, 1) := by decide +kernel
theorem dX12_leaves_46 : decode cX12_leaves 46 = .ok (.iload_n 3, 1) := by decide +kernel
theorem dX12_leaves_47 : decode cX12_leaves 47 = .ok (.iadd, 1) := by decide +kernel
theorem dX12_leaves_48 : decode cX12_leaves 48 = .ok (.iaload, 1) := by decide +kernel
theorem dX12_leaves_49 : decode cX12_leaves 49 = .ok (.istore 4, 2) := by decide +kernel
theorem dX12_leaves_51 : decode cX12_leaves 51 = .ok (.iload 4, 2) := by decide +kernel
theorem dX12_leaves_53 : decode cX12_leaves 53 = .ok (.iconst (-1), 1) := by decide +kernel
theorem dX12_leaves_54 : decode cX12_leaves 54 = .ok (.if_icmp .eq 95, 3) := by decide +kernel
theorem dX12_leaves_57 : decode cX12_leaves 57 = .ok (.aload_n 0, 1) := by decide +kernel
theorem dX12_leaves_58 : decode cX12_leaves 58 = .ok (.getfield 32, 3) := by decide +kernel
theorem dX12_leaves_61 : decode cX12_leaves 61 = .ok (.iload_n 1, 1) := by decide +kernel
theorem dX12_leaves_62 : decode cX12_leaves 62 = .ok (.iaload, 1) := by decide +kernel
theorem dX12_leaves_63 : decode cX12_leaves 63 = .ok (.ifCond .le 7, 3) := by decide +kernel
theorem dX12_leaves_66 : decode cX12_leaves 66 = .ok (.iconst 1, 1) := by decide +kernel
theorem dX12_leaves_67 : decode cX12_leaves 67 = .ok (.goto 4, 3) := by decide +kernel
theorem dX12_leaves_70 : decode cX12_leaves 70 = .ok (.iconst 0, 1) := by decide +kernel
theorem dX12_leaves_71 : decode cX12_leaves 71 = .ok (.istore 5, 2) := by decide +kernel
theorem dX12_leaves_73 : decode cX12_leaves 73 = .ok (.aload_n 0, 1) := by decide +kernel
theorem dX12_leaves_74 : decode cX12_leaves 74 = .ok (.getfield 32, 3) := by decide +kernel
theorem dX12_leaves_77 : decode cX12_leaves 77 = .ok (.iload_n 1, 1) := by decide +kernel
theorem dX12_leaves_78 : decode cX12_leaves 78 = .ok (.dup2, 1) := by decide +kernel
theorem dX12_leaves_79 : decode cX12_leaves 79 = .ok (.iaload, 1) := by decide +kernel
theorem dX12_leaves_80 : decode cX12_leaves 80 = .ok (.iload 5, 2) := by decide +kernel
theorem dX12_leaves_82 : decode cX12_leaves 82 = .ok (.ifCond .eq 7, 3) := by decide +kernel
theorem dX12_leaves_85 : decode cX12_leaves 85 = .ok (.iconst 1, 1) := by decide +kernel
theorem dX12_leaves_86 : decode cX12_leaves 86 = .ok (.goto 4, 3) := by decide +kernel
theorem dX12_leaves_89 : decode cX12_leaves 89 = .ok (.iconst 0, 1) := by decide +kernel
theorem dX12_leaves_90 : decode cX12_leaves 90 = .ok (.isub, 1) := by decide +kernel
theorem dX12_leaves_91 : decode cX12_leaves 91 = .ok (.iastore, 1) := by decide +kernel
theorem dX12_leaves_92 : decode cX12_leaves 92 = .ok (.aload_n 0, 1) := by decide +kernel
theorem dX12_leaves_93 : decode cX12_leaves 93 = .ok (.getfield 53, 3) := by decide +kernel
theorem dX12_leaves_96 : decode cX12_leaves 96 = .ok (.aload_n 0, 1) := by decide +kernel
theorem dX12_leaves_97 : decode cX12_leaves 97 = .ok (.getfield 257, 3) := by decide +kernel
theorem dX12_leaves_100 : decode cX12_leaves 100 = .ok (.iload 4, 2) := by decide +kernel
theorem dX12_leaves_102 : decode cX12_leaves 102 = .ok (.iastore, 1) := by decide +kernel
theorem dX12_leaves_103 : decode cX12_leaves 103 = .ok (.aload_n 0, 1) := by decide +kernel
theorem dX12_leaves_104 : decode cX12_leaves 104 = .ok (.getfield 56, 3) := by decide +kernel
theorem dX12_leaves_107 : decode cX12_leaves 107 = .ok (.aload_n 0, 1) := by decide +kernel
theorem dX12_leaves_108 : decode cX12_leaves 108 = .ok (.getfield 257, 3) := by decide +kernel
theorem dX12_leaves_111 : decode cX12_leaves 111 = .ok (.aload_n 0, 1) := by decide +kernel
theorem dX12_leaves_112 : decode cX12_leaves 112 = .ok (.getfield 246, 3) := by decide +kernel
theorem dX12_leaves_115 : decode cX12_leaves 115 = .ok (.aload_n 0, 1) := by decide +kernel
theorem dX12_leaves_116 : decode cX12_leaves 116 = .ok (.getfield 7, 3) := by decide +kernel
theorem dX12_leaves_119 : decode cX12_leaves 119 = .ok (.iload_n 1, 1) := by decide +kernel
theorem dX12_leaves_120 : decode cX12_leaves 120 = .ok (.iaload, 1) := by decide +kernel
theorem dX12_leaves_121 : decode cX12_leaves 121 = .ok (.iadd, 1) := by decide +kernel
theorem dX12_leaves_122 : decode cX12_leaves 122 = .ok (.iload 5, 2) := by decide +kernel
theorem dX12_leaves_124 : decode cX12_leaves 124 = .ok (.ifCond .eq 12, 3) := by decide +kernel
theorem dX12_leaves_127 : decode cX12_leaves 127 = .ok (.aload_n 0, 1) := by decide +kernel
theorem dX12_leaves_128 : decode cX12_leaves 128 = .ok (.getfield 35, 3) := by decide +kernel
theorem dX12_leaves_131 : decode cX12_leaves 131 = .ok (.iload_n 1, 1) := by decide +kernel
theorem dX12_leaves_132 : decode cX12_leaves 132 = .ok (.iaload, 1) := by decide +kernel
theorem dX12_leaves_133 : decode cX12_leaves 133 = .ok (.goto 4, 3) := by decide +kernel
theorem dX12_leaves_136 : decode cX12_leaves 136 = .ok (.iconst 0, 1) := by decide +kernel
theorem dX12_leaves_137 : decode cX12_leaves 137 = .ok (.iadd, 1) := by decide +kernel
theorem dX12_leaves_138 : decode cX12_leaves 138 = .ok (.iastore, 1) := by decide +kernel
theorem dX12_leaves_139 : decode cX12_leaves 139 = .ok (.aload_n 0, 1) := by decide +kernel
theorem dX12_leaves_140 : decode cX12_leaves 140 = .ok (.dup, 1) := by decide +kernel
theorem dX12_leaves_141 : decode cX12_leaves 141 = .ok (.getfield 257, 3) := by decide +kernel
theorem dX12_leaves_144 : decode cX12_leaves 144 = .ok (.iconst 1, 1) := by decide +kernel
theorem dX12_leaves_145 : decode cX12_leaves 145 = .ok (.iadd, 1) := by decide +kernel
theorem dX12_leaves_146 : decode cX12_leaves 146 = .ok (.putfield 257, 3) := by decide +kernel
theorem dX12_leaves_149 : decode cX12_leaves 149 = .ok (.iinc 3 1, 3) := by decide +kernel
theorem dX12_leaves_152 : decode cX12_leaves 152 = .ok (.goto (-119), 3) := by decide +kernel
theorem dX12_leaves_155 : decode cX12_leaves 155 = .ok (.iload_n 2, 1) := by decide +kernel
theorem dX12_leaves_156 : decode cX12_leaves 156 = .ok (.istore_n 3, 1) := by decide +kernel
theorem dX12_leaves_157 : decode cX12_leaves 157 = .ok (.iload_n 3, 1) := by decide +kernel
theorem dX12_leaves_158 : decode cX12_leaves 158 = .ok (.aload_n 0, 1) := by decide +kernel
theorem dX12_leaves_159 : decode cX12_leaves 159 = .ok (.getfield 41, 3) := by decide +kernel
theorem dX12_leaves_162 : decode cX12_leaves 162 = .ok (.iload_n 1, 1) := by decide +kernel
theorem dX12_leaves_163 : decode cX12_leaves 163 = .ok (.iaload, 1) := by decide +kernel
theorem dX12_leaves_164 : decode cX12_leaves 164 = .ok (.if_icmp .ge 33, 3) := by decide +kernel
theorem dX12_leaves_167 : decode cX12_leaves 167 = .ok (.aload_n 0, 1) := by decide +kernel
theorem dX12_leaves_168 : decode cX12_leaves 168 = .ok (.getfield 38, 3) := by decide +kernel
theorem dX12_leaves_171 : decode cX12_leaves 171 = .ok (.bipush 30, 2) := by decide +kernel
theorem dX12_leaves_173 : decode cX12_leaves 173 = .ok (.iload_n 1, 1) := by decide +kernel
theorem dX12_leaves_174 : decode cX12_leaves 174 = .ok (.imul, 1) := by decide +kernel
theorem dX12_leaves_175 : decode cX12_leaves 175 = .ok (.iload_n 3, 1) := by decide +kernel
theorem dX12_leaves_176 : decode cX12_leaves 176 = .ok (.iadd, 1) := by decide +kernel
theorem dX12_leaves_177 : decode cX12_leaves 177 = .ok (.iload_n 2, 1) := by decide +kernel
theorem dX12_leaves_178 : decode cX12_leaves 178 = .ok (.isub, 1) := by decide +kernel
theorem dX12_leaves_179 : decode cX12_leaves 179 = .ok (.aload_n 0, 1) := by decide +kernel
theorem dX12_leaves_180 : decode cX12_leaves 180 = .ok (.getfield 38, 3) := by decide +kernel
theorem dX12_leaves_183 : decode cX12_leaves 183 = .ok (.bipush 30, 2) := by decide +kernel
theorem dX12_leaves_185 : decode cX12_leaves 185 = .ok (.iload_n 1, 1) := by decide +kernel
theorem dX12_leaves_186 : decode cX12_leaves 186 = .ok (.imul, 1) := by decide +kernel
theorem dX12_leaves_187 : decode cX12_leaves 187 = .ok (.iload_n 3, 1) := by decide +kernel
theorem dX12_leaves_188 : decode cX12_leaves 188 = .ok (.iadd, 1) := by decide +kernel
theorem dX12_leaves_189 : decode cX12_leaves 189 = .ok (.iaload, 1) := by decide +kernel
theorem dX12_leaves_190 : decode cX12_leaves 190 = .ok (.iastore, 1) := by decide +kernel
theorem dX12_leaves_191 : decode cX12_leaves 191 = .ok (.iinc 3 1, 3) := by decide +kernel
theorem dX12_leaves_194 : decode cX12_leaves 194 = .ok (.goto (-37), 3) := by decide +kernel
theorem dX12_leaves_197 : decode cX12_leaves 197 = .ok (.aload_n 0, 1) := by decide +kernel
theorem dX12_leaves_198 : decode cX12_leaves 198 = .ok (.getfield 41, 3) := by decide +kernel
theorem dX12_leaves_201 : decode cX12_leaves 201 = .ok (.iload_n 1, 1) := by decide +kernel
theorem dX12_leaves_202 : decode cX12_leaves 202 = .ok (.dup2, 1) := by decide +kernel
theorem dX12_leaves_203 : decode cX12_leaves 203 = .ok (.iaload, 1) := by decide +kernel
theorem dX12_leaves_204 : decode cX12_leaves 204 = .ok (.iload_n 2, 1) := by decide +kernel
theorem dX12_leaves_205 : decode cX12_leaves 205 = .ok (.isub, 1) := by decide +kernel
theorem dX12_leaves_206 : decode cX12_leaves 206 = .ok (.iastore, 1) := by decide +kernel
theorem dX12_leaves_207 : decode cX12_leaves 207 = .ok (.return_, 1) := by decide +kernel
theorem dX12_gotOf_0 : decode cX12_gotOf 0 = .ok (.iconst 0, 1) := by decide +kernel
theorem dX12_gotOf_1 : decode cX12_gotOf 1 = .ok (.istore_n 2, 1) := by decide +kernel
theorem dX12_gotOf_2 : decode cX12_gotOf 2 = .ok (.iload_n 2, 1) := by decide +kernel
theorem dX12_gotOf_3 : decode cX12_gotOf 3 = .ok (.sipush 200, 3) := by decide +kernel
theorem dX12_gotOf_6 : decode cX12_gotOf 6 = .ok (.if_icmp .ge 24, 3) := by decide +kernel
theorem dX12_gotOf_9 : decode cX12_gotOf 9 = .ok (.aload_n 0, 1) := by decide +kernel
theorem dX12_gotOf_10 : decode cX12_gotOf 10 = .ok (.getfield 85, 3) := by decide +kernel
theorem dX12_gotOf_13 : decode cX12_gotOf 13 = .ok (.sipush 200, 3) := by decide +kernel
theorem dX12_gotOf_16 : decode cX12_gotOf 16 = .ok (.iload_n 1, 1) := by decide +kernel
theorem dX12_gotOf_17 : decode cX12_gotOf 17 = .ok (.imul, 1) := by decide +kernel
theorem dX12_gotOf_18 : decode cX12_gotOf 18 = .ok (.iload_n 2, 1) := by decide +kernel
theorem dX12_gotOf_19 : decode cX12_gotOf 19 = .ok (.iadd, 1) := by decide +kernel
theorem dX12_gotOf_20 : decode cX12_gotOf 20 = .ok (.baload, 1) := by decide +kernel
theorem dX12_gotOf_21 : decode cX12_gotOf 21 = .ok (.ifCond .eq 9, 3) := by decide +kernel
theorem dX12_gotOf_24 : decode cX12_gotOf 24 = .ok (.iinc 2 1, 3) := by decide +kernel
theorem dX12_gotOf_27 : decode cX12_gotOf 27 = .ok (.goto (-25), 3) := by decide +kernel
theorem dX12_gotOf_30 : decode cX12_gotOf 30 = .ok (.iload_n 2, 1) := by decide +kernel
theorem dX12_gotOf_31 : decode cX12_gotOf 31 = .ok (.ireturn, 1) := by decide +kernel
theorem dX12_acknowledges_0 : decode cX12_acknowledges 0 = .ok (.bipush 15, 2) := by decide +kernel
theorem dX12_acknowledges_2 : decode cX12_acknowledges 2 = .ok (.aload_n 0, 1) := by decide +kernel
theorem dX12_acknowledges_3 : decode cX12_acknowledges 3 = .ok (.getfield 260, 3) := by decide +kernel
theorem dX12_acknowledges_6 : decode cX12_acknowledges 6 = .ok (.imul, 1) := by decide +kernel
theorem dX12_acknowledges_7 : decode cX12_acknowledges 7 = .ok (.istore_n 1, 1) := by decide +kernel
theorem dX12_acknowledges_8 : decode cX12_acknowledges 8 = .ok (.iconst 0, 1) := by decide +kernel
theorem dX12_acknowledges_9 : decode cX12_acknowledges 9 = .ok (.istore_n 2, 1) := by decide +kernel
theorem dX12_acknowledges_10 : decode cX12_acknowledges 10 = .ok (.sipush 399, 3) := by decide +kernel
theorem dX12_acknowledges_13 : decode cX12_acknowledges 13 = .ok (.istore_n 3, 1) := by decide +kernel
theorem dX12_acknowledges_14 : decode cX12_acknowledges 14 = .ok (.iload_n 3, 1) := by decide +kernel
theorem dX12_acknowledges_15 : decode cX12_acknowledges 15 = .ok (.ifCond .lt 77, 3) := by decide +kernel
theorem dX12_acknowledges_18 : decode cX12_acknowledges 18 = .ok (.iload_n 2, 1) := by decide +kernel
theorem dX12_acknowledges_19 : decode cX12_acknowledges 19 = .ok (.iconst 4, 1) := by decide +kernel
theorem dX12_acknowledges_20 : decode cX12_acknowledges 20 = .ok (.if_icmp .ge 72, 3) := by decide +kernel
theorem dX12_acknowledges_23 : decode cX12_acknowledges 23 = .ok (.aload_n 0, 1) := by decide +kernel
theorem dX12_acknowledges_24 : decode cX12_acknowledges 24 = .ok (.getfield 82, 3) := by decide +kernel
theorem dX12_acknowledges_27 : decode cX12_acknowledges 27 = .ok (.iload_n 3, 1) := by decide +kernel
theorem dX12_acknowledges_28 : decode cX12_acknowledges 28 = .ok (.baload, 1) := by decide +kernel
theorem dX12_acknowledges_29 : decode cX12_acknowledges 29 = .ok (.ifCond .eq 57, 3) := by decide +kernel
theorem dX12_acknowledges_32 : decode cX12_acknowledges 32 = .ok (.iload_n 3, 1) := by decide +kernel
theorem dX12_acknowledges_33 : decode cX12_acknowledges 33 = .ok (.istore 4, 2) := by decide +kernel
theorem dX12_acknowledges_35 : decode cX12_acknowledges 35 = .ok (.iload_n 3, 1) := by decide +kernel
theorem dX12_acknowledges_36 : decode cX12_acknowledges 36 = .ok (.ifCond .le 20, 3) := by decide +kernel
theorem dX12_acknowledges_39 : decode cX12_acknowledges 39 = .ok (.aload_n 0, 1) := by decide +kernel
theorem dX12_acknowledges_40 : decode cX12_acknowledges 40 = .ok (.getfield 82, 3) := by decide +kernel
theorem dX12_acknowledges_43 : decode cX12_acknowledges 43 = .ok (.iload_n 3, 1) := by decide +kernel
theorem dX12_acknowledges_44 : decode cX12_acknowledges 44 = .ok (.iconst 1, 1) := by decide +kernel
theorem dX12_acknowledges_45 : decode cX12_acknowledges 45 = .ok (.isub, 1) := by decide +kernel
theorem dX12_acknowledges_46 : decode cX12_acknowledges 46 = .ok (.baload, 1) := by decide +kernel
theorem dX12_acknowledges_47 : decode cX12_acknowledges 47 = .ok (.ifCond .eq 9, 3) := by decide +kernel
theorem dX12_acknowledges_50 : decode cX12_acknowledges 50 = .ok (.iinc 3 (-1), 3) := by decide +kernel
theorem dX12_acknowledges_53 : decode cX12_acknowledges 53 = .ok (.goto (-18), 3) := by decide +kernel
theorem dX12_acknowledges_56 : decode cX12_acknowledges 56 = .ok (.aload_n 0, 1) := by decide +kernel
theorem dX12_acknowledges_57 : decode cX12_acknowledges 57 = .ok (.getfield 72, 3) := by decide +kernel
theorem dX12_acknowledges_60 : decode cX12_acknowledges 60 = .ok (.iload_n 1, 1) := by decide +kernel
theorem dX12_acknowledges_61 : decode cX12_acknowledges 61 = .ok (.iconst 1, 1) := by decide +kernel
theorem dX12_acknowledges_62 : decode cX12_acknowledges 62 = .ok (.iadd, 1) := by decide +kernel
theorem dX12_acknowledges_63 : decode cX12_acknowledges 63 = .ok (.iconst 2, 1) := by decide +kernel
theorem dX12_acknowledges_64 : decode cX12_acknowledges 64 = .ok (.iload_n 2, 1) := by decide +kernel
theorem dX12_acknowledges_65 : decode cX12_acknowledges 65 = .ok (.imul, 1) := by decide +kernel
theorem dX12_acknowledges_66 : decode cX12_acknowledges 66 = .ok (.iadd, 1) := by decide +kernel
theorem dX12_acknowledges_67 : decode cX12_acknowledges 67 = .ok (.iload_n 3, 1) := by decide +kernel
theorem dX12_acknowledges_68 : decode cX12_acknowledges 68 = .ok (.iastore, 1) := by decide +kernel
theorem dX12_acknowledges_69 : decode cX12_acknowledges 69 = .ok (.aload_n 0, 1) := by decide +kernel
theorem dX12_acknowledges_70 : decode cX12_acknowledges 70 = .ok (.getfield 72, 3) := by decide +kernel
theorem dX12_acknowledges_73 : decode cX12_acknowledges 73 = .ok (.iload_n 1, 1) := by decide +kernel
theorem dX12_acknowledges_74 : decode cX12_acknowledges 74 = .ok (.iconst 2, 1) := by decide +kernel
theorem dX12_acknowledges_75 : decode cX12_acknowledges 75 = .ok (.iadd, 1) := by decide +kernel
theorem dX12_acknowledges_76 : decode cX12_acknowledges 76 = .ok (.iconst 2, 1) := by decide +kernel
theorem dX12_acknowledges_77 : decode cX12_acknowledges 77 = .ok (.iload_n 2, 1) := by decide +kernel
theorem dX12_acknowledges_78 : decode cX12_acknowledges 78 = .ok (.imul, 1) := by decide +kernel
theorem dX12_acknowledges_79 : decode cX12_acknowledges 79 = .ok (.iadd, 1) := by decide +kernel
theorem dX12_acknowledges_80 : decode cX12_acknowledges 80 = .ok (.iload 4, 2) := by decide +kernel
theorem dX12_acknowledges_82 : decode cX12_acknowledges 82 = .ok (.iastore, 1) := by decide +kernel
theorem dX12_acknowledges_83 : decode cX12_acknowledges 83 = .ok (.iinc 2 1, 3) := by decide +kernel
theorem dX12_acknowledges_86 : decode cX12_acknowledges 86 = .ok (.iinc 3 (-1), 3) := by decide +kernel
theorem dX12_acknowledges_89 : decode cX12_acknowledges 89 = .ok (.goto (-75), 3) := by decide +kernel
theorem dX12_acknowledges_92 : decode cX12_acknowledges 92 = .ok (.aload_n 0, 1) := by decide +kernel
theorem dX12_acknowledges_93 : decode cX12_acknowledges 93 = .ok (.getfield 72, 3) := by decide +kernel
theorem dX12_acknowledges_96 : decode cX12_acknowledges 96 = .ok (.iload_n 1, 1) := by decide +kernel
theorem dX12_acknowledges_97 : decode cX12_acknowledges 97 = .ok (.iload_n 2, 1) := by decide +kernel
theorem dX12_acknowledges_98 : decode cX12_acknowledges 98 = .ok (.iastore, 1) := by decide +kernel
theorem dX12_acknowledges_99 : decode cX12_acknowledges 99 = .ok (.aload_n 0, 1) := by decide +kernel
theorem dX12_acknowledges_100 : decode cX12_acknowledges 100 = .ok (.getfield 72, 3) := by decide +kernel
theorem dX12_acknowledges_103 : decode cX12_acknowledges 103 = .ok (.iload_n 1, 1) := by decide +kernel
theorem dX12_acknowledges_104 : decode cX12_acknowledges 104 = .ok (.bipush 9, 2) := by decide +kernel
theorem dX12_acknowledges_106 : decode cX12_acknowledges 106 = .ok (.iadd, 1) := by decide +kernel
theorem dX12_acknowledges_107 : decode cX12_acknowledges 107 = .ok (.aload_n 0, 1) := by decide +kernel
theorem dX12_acknowledges_108 : decode cX12_acknowledges 108 = .ok (.getfield 263, 3) := by decide +kernel
theorem dX12_acknowledges_111 : decode cX12_acknowledges 111 = .ok (.iastore, 1) := by decide +kernel
theorem dX12_acknowledges_112 : decode cX12_acknowledges 112 = .ok (.bipush 100, 2) := by decide +kernel
theorem dX12_acknowledges_114 : decode cX12_acknowledges 114 = .ok (.istore 4, 2) := by decide +kernel
theorem dX12_acknowledges_116 : decode cX12_acknowledges 116 = .ok (.iconst 0, 1) := by decide +kernel
theorem dX12_acknowledges_117 : decode cX12_acknowledges 117 = .ok (.istore 5, 2) := by decide +kernel
theorem dX12_acknowledges_119 : decode cX12_acknowledges 119 = .ok (.iload 5, 2) := by decide +kernel
theorem dX12_acknowledges_121 : decode cX12_acknowledges 121 = .ok (.iconst 4, 1) := by decide +kernel
theorem dX12_acknowledges_122 : decode cX12_acknowledges 122 = .ok (.if_icmp .ge 43, 3) := by decide +kernel
theorem dX12_acknowledges_125 : decode cX12_acknowledges 125 = .ok (.aload_n 0, 1) := by decide +kernel
theorem dX12_acknowledges_126 : decode cX12_acknowledges 126 = .ok (.getfield 72, 3) := by decide +kernel
theorem dX12_acknowledges_129 : decode cX12_acknowledges 129 = .ok (.iload_n 1, 1) := by decide +kernel
theorem dX12_acknowledges_130 : decode cX12_acknowledges 130 = .ok (.bipush 10, 2) := by decide +kernel
theorem dX12_acknowledges_132 : decode cX12_acknowledges 132 = .ok (.iadd, 1) := by decide +kernel
theorem dX12_acknowledges_133 : decode cX12_acknowledges 133 = .ok (.iload 5, 2) := by decide +kernel
theorem dX12_acknowledges_135 : decode cX12_acknowledges 135 = .ok (.iadd, 1) := by decide +kernel
theorem dX12_acknowledges_136 : decode cX12_acknowledges 136 = .ok (.aload_n 0, 1) := by decide +kernel
theorem dX12_acknowledges_137 : decode cX12_acknowledges 137 = .ok (.getfield 88, 3) := by decide +kernel
theorem dX12_acknowledges_140 : decode cX12_acknowledges 140 = .ok (.iload 5, 2) := by decide +kernel
theorem dX12_acknowledges_142 : decode cX12_acknowledges 142 = .ok (.iaload, 1) := by decide +kernel
theorem dX12_acknowledges_143 : decode cX12_acknowledges 143 = .ok (.bipush 40, 2) := by decide +kernel
theorem dX12_acknowledges_145 : decode cX12_acknowledges 145 = .ok (.iadd, 1) := by decide +kernel
theorem dX12_acknowledges_146 : decode cX12_acknowledges 146 = .ok (.iastore, 1) := by decide +kernel
theorem dX12_acknowledges_147 : decode cX12_acknowledges 147 = .ok (.iload 4, 2) := by decide +kernel
theorem dX12_acknowledges_149 : decode cX12_acknowledges 149 = .ok (.aload_n 0, 1) := by decide +kernel
theorem dX12_acknowledges_150 : decode cX12_acknowledges 150 = .ok (.getfield 88, 3) := by decide +kernel
theorem dX12_acknowledges_153 : decode cX12_acknowledges 153 = .ok (.iload 5, 2) := by decide +kernel
theorem dX12_acknowledges_155 : decode cX12_acknowledges 155 = .ok (.iaload, 1) := by decide +kernel
theorem dX12_acknowledges_156 : decode cX12_acknowledges 156 = .ok (.iadd, 1) := by decide +kernel
theorem dX12_acknowledges_157 : decode cX12_acknowledges 157 = .ok (.istore 4, 2) := by decide +kernel
theorem dX12_acknowledges_159 : decode cX12_acknowledges 159 = .ok (.iinc 5 1, 3) := by decide +kernel
theorem dX12_acknowledges_162 : decode cX12_acknowledges 162 = .ok (.goto (-43), 3) := by decide +kernel
theorem dX12_acknowledges_165 : decode cX12_acknowledges 165 = .ok (.aload_n 0, 1) := by decide +kernel
theorem dX12_acknowledges_166 : decode cX12_acknowledges 166 = .ok (.getfield 72, 3) := by decide +kernel
theorem dX12_acknowledges_169 : decode cX12_acknowledges 169 = .ok (.iload_n 1, 1) := by decide +kernel
theorem dX12_acknowledges_170 : decode cX12_acknowledges 170 = .ok (.bipush 14, 2) := by decide +kernel
theorem dX12_acknowledges_172 : decode cX12_acknowledges 172 = .ok (.iadd, 1) := by decide +kernel
theorem dX12_acknowledges_173 : decode cX12_acknowledges 173 = .ok (.iload 4, 2) := by decide +kernel
theorem dX12_acknowledges_175 : decode cX12_acknowledges 175 = .ok (.iastore, 1) := by decide +kernel
theorem dX12_acknowledges_176 : decode cX12_acknowledges 176 = .ok (.aload_n 0, 1) := by decide +kernel
theorem dX12_acknowledges_177 : decode cX12_acknowledges 177 = .ok (.dup, 1) := by decide +kernel
theorem dX12_acknowledges_178 : decode cX12_acknowledges 178 = .ok (.getfield 260, 3) := by decide +kernel
theorem dX12_acknowledges_181 : decode cX12_acknowledges 181 = .ok (.iconst 1, 1) := by decide +kernel
theorem dX12_acknowledges_182 : decode cX12_acknowledges 182 = .ok (.iadd, 1) := by decide +kernel
theorem dX12_acknowledges_183 : decode cX12_acknowledges 183 = .ok (.putfield 260, 3) := by decide +kernel
theorem dX12_acknowledges_186 : decode cX12_acknowledges 186 = .ok (.aload_n 0, 1) := by decide +kernel
theorem dX12_acknowledges_187 : decode cX12_acknowledges 187 = .ok (.getfield 229, 3) := by decide +kernel
theorem dX12_acknowledges_190 : decode cX12_acknowledges 190 = .ok (.iconst 4, 1) := by decide +kernel
theorem dX12_acknowledges_191 : decode cX12_acknowledges 191 = .ok (.dup2, 1) := by decide +kernel
theorem dX12_acknowledges_192 : decode cX12_acknowledges 192 = .ok (.iaload, 1) := by decide +kernel
theorem dX12_acknowledges_193 : decode cX12_acknowledges 193 = .ok (.iconst 1, 1) := by decide +kernel
theorem dX12_acknowledges_194 : decode cX12_acknowledges 194 = .ok (.iadd, 1) := by decide +kernel
theorem dX12_acknowledges_195 : decode cX12_acknowledges 195 = .ok (.iastore, 1) := by decide +kernel
theorem dX12_acknowledges_196 : decode cX12_acknowledges 196 = .ok (.aload_n 0, 1) := by decide +kernel
theorem dX12_acknowledges_197 : decode cX12_acknowledges 197 = .ok (.iconst 0, 1) := by decide +kernel
theorem dX12_acknowledges_198 : decode cX12_acknowledges 198 = .ok (.putfield 266, 3) := by decide +kernel
theorem dX12_acknowledges_201 : decode cX12_acknowledges 201 = .ok (.aload_n 0, 1) := by decide +kernel
theorem dX12_acknowledges_202 : decode cX12_acknowledges 202 = .ok (.iconst (-1), 1) := by decide +kernel
theorem dX12_acknowledges_203 : decode cX12_acknowledges 203 = .ok (.putfield 94, 3) := by decide +kernel
theorem dX12_acknowledges_206 : decode cX12_acknowledges 206 = .ok (.aload_n 0, 1) := by decide +kernel
theorem dX12_acknowledges_207 : decode cX12_acknowledges 207 = .ok (.aload_n 0, 1) := by decide +kernel
theorem dX12_acknowledges_208 : decode cX12_acknowledges 208 = .ok (.getfield 97, 3) := by decide +kernel
theorem dX12_acknowledges_211 : decode cX12_acknowledges 211 = .ok (.bipush 7, 2) := by decide +kernel
theorem dX12_acknowledges_213 : decode cX12_acknowledges 213 = .ok (.aload_n 0, 1) := by decide +kernel
theorem dX12_acknowledges_214 : decode cX12_acknowledges 214 = .ok (.getfield 260, 3) := by decide +kernel
theorem dX12_acknowledges_217 : decode cX12_acknowledges 217 = .ok (.iconst 1, 1) := by decide +kernel
theorem dX12_acknowledges_218 : decode cX12_acknowledges 218 = .ok (.isub, 1) := by decide +kernel
theorem dX12_acknowledges_219 : decode cX12_acknowledges 219 = .ok (.invokevirtual 269, 3) := by decide +kernel
theorem dX12_acknowledges_222 : decode cX12_acknowledges 222 = .ok (.return_, 1) := by decide +kernel
theorem dX12_isByKey_0 : decode cX12_isByKey 0 = .ok (.iload_n 1, 1) := by decide +kernel
theorem dX12_isByKey_1 : decode cX12_isByKey 1 = .ok (.aload_n 0, 1) := by decide +kernel
theorem dX12_isByKey_2 : decode cX12_isByKey 2 = .ok (.getfield 272, 3) := by decide +kernel
theorem dX12_isByKey_5 : decode cX12_isByKey 5 = .ok (.if_icmp .eq 25, 3) := by decide +kernel
theorem dX12_isByKey_8 : decode cX12_isByKey 8 = .ok (.iload_n 1, 1) := by decide +kernel
theorem dX12_isByKey_9 : decode cX12_isByKey 9 = .ok (.aload_n 0, 1) := by decide +kernel
theorem dX12_isByKey_10 : decode cX12_isByKey 10 = .ok (.getfield 78, 3) := by decide +kernel
theorem dX12_isByKey_13 : decode cX12_isByKey 13 = .ok (.if_icmp .ne 21, 3) := by decide +kernel
theorem dX12_isByKey_16 : decode cX12_isByKey 16 = .ok (.aload_n 0, 1) := by decide +kernel
theorem dX12_isByKey_17 : decode cX12_isByKey 17 = .ok (.getfield 246, 3) := by decide +kernel
theorem dX12_isByKey_20 : decode cX12_isByKey 20 = .ok (.aload_n 0, 1) := by decide +kernel
theorem dX12_isByKey_21 : decode cX12_isByKey 21 = .ok (.getfield 275, 3) := by decide +kernel
theorem dX12_isByKey_24 : decode cX12_isByKey 24 = .ok (.isub, 1) := by decide +kernel
theorem dX12_isByKey_25 : decode cX12_isByKey 25 = .ok (.bipush 8, 2) := by decide +kernel
theorem dX12_isByKey_27 : decode cX12_isByKey 27 = .ok (.if_icmp .ge 7, 3) := by decide +kernel
theorem dX12_isByKey_30 : decode cX12_isByKey 30 = .ok (.iconst 1, 1) := by decide +kernel
theorem dX12_isByKey_31 : decode cX12_isByKey 31 = .ok (.goto 4, 3) := by decide +kernel
theorem dX12_isByKey_34 : decode cX12_isByKey 34 = .ok (.iconst 0, 1) := by decide +kernel
theorem dX12_isByKey_35 : decode cX12_isByKey 35 = .ok (.ireturn, 1) := by decide +kernel
theorem dX12_takes_0 : decode cX12_takes 0 = .ok (.aload_n 0, 1) := by decide +kernel
theorem dX12_takes_1 : decode cX12_takes 1 = .ok (.getfield 142, 3) := by decide +kernel
theorem dX12_takes_4 : decode cX12_takes 4 = .ok (.iload_n 1, 1) := by decide +kernel
theorem dX12_takes_5 : decode cX12_takes 5 = .ok (.iconst 2, 1) := by decide +kernel
theorem dX12_takes_6 : decode cX12_takes 6 = .ok (.iastore, 1) := by decide +kernel
theorem dX12_takes_7 : decode cX12_takes 7 = .ok (.aload_n 0, 1) := by decide +kernel
theorem dX12_takes_8 : decode cX12_takes 8 = .ok (.getfield 278, 3) := by decide +kernel
theorem dX12_takes_11 : decode cX12_takes 11 = .ok (.iconst 1, 1) := by decide +kernel
theorem dX12_takes_12 : decode cX12_takes 12 = .ok (.if_icmp .eq 4, 3) := by decide +kernel
theorem dX12_takes_15 : decode cX12_takes 15 = .ok (.return_, 1) := by decide +kernel
theorem dX12_takes_16 : decode cX12_takes 16 = .ok (.aload_n 0, 1) := by decide +kernel
theorem dX12_takes_17 : decode cX12_takes 17 = .ok (.aload_n 0, 1) := by decide +kernel
theorem dX12_takes_18 : decode cX12_takes 18 = .ok (.getfield 124, 3) := by decide +kernel
theorem dX12_takes_21 : decode cX12_takes 21 = .ok (.iload_n 1, 1) := by decide +kernel
theorem dX12_takes_22 : decode cX12_takes 22 = .ok (.iaload, 1) := by decide +kernel
theorem dX12_takes_23 : decode cX12_takes 23 = .ok (.putfield 97, 3) := by decide +kernel
theorem dX12_takes_26 : decode cX12_takes 26 = .ok (.aload_n 0, 1) := by decide +kernel
theorem dX12_takes_27 : decode cX12_takes 27 = .ok (.getfield 151, 3) := by decide +kernel
theorem dX12_takes_30 : decode cX12_takes 30 = .ok (.iload_n 1, 1) := by decide +kernel
theorem dX12_takes_31 : decode cX12_takes 31 = .ok (.baload, 1) := by decide +kernel
theorem dX12_takes_32 : decode cX12_takes 32 = .ok (.ifCond .eq 11, 3) := by decide +kernel
theorem dX12_takes_35 : decode cX12_takes 35 = .ok (.aload_n 0, 1) := by decide +kernel
theorem dX12_takes_36 : decode cX12_takes 36 = .ok (.getfield 281, 3) := by decide +kernel
theorem dX12_takes_39 : decode cX12_takes 39 = .ok (.ifCond .ne 4, 3) := by decide +kernel
theorem dX12_takes_42 : decode cX12_takes 42 = .ok (.return_, 1) := by decide +kernel
theorem dX12_takes_43 : decode cX12_takes 43 = .ok (.aload_n 0, 1) := by decide +kernel
theorem dX12_takes_44 : decode cX12_takes 44 = .ok (.getfield 145, 3) := by decide +kernel
theorem dX12_takes_47 : decode cX12_takes 47 = .ok (.iload_n 1, 1) := by decide +kernel
theorem dX12_takes_48 : decode cX12_takes 48 = .ok (.iaload, 1) := by decide +kernel
theorem dX12_takes_49 : decode cX12_takes 49 = .ok (.aload_n 0, 1) := by decide +kernel
theorem dX12_takes_50 : decode cX12_takes 50 = .ok (.getfield 272, 3) := by decide +kernel
theorem dX12_takes_53 : decode cX12_takes 53 = .ok (.if_icmp .le 32, 3) := by decide +kernel
theorem dX12_takes_56 : decode cX12_takes 56 = .ok (.aload_n 0, 1) := by decide +kernel
theorem dX12_takes_57 : decode cX12_takes 57 = .ok (.aload_n 0, 1) := by decide +kernel
theorem dX12_takes_58 : decode cX12_takes 58 = .ok (.getfield 272, 3) := by decide +kernel
theorem dX12_takes_61 : decode cX12_takes 61 = .ok (.putfield 78, 3) := by decide +kernel
theorem dX12_takes_64 : decode cX12_takes 64 = .ok (.aload_n 0, 1) := by decide +kernel
theorem dX12_takes_65 : decode cX12_takes 65 = .ok (.aload_n 0, 1) := by decide +kernel
theorem dX12_takes_66 : decode cX12_takes 66 = .ok (.getfield 145, 3) := by decide +kernel
theorem dX12_takes_69 : decode cX12_takes 69 = .ok (.iload_n 1, 1) := by decide +kernel
theorem dX12_takes_70 : decode cX12_takes 70 = .ok (.iaload, 1) := by decide +kernel
theorem dX12_takes_71 : decode cX12_takes 71 = .ok (.putfield 272, 3) := by decide +kernel
theorem dX12_takes_74 : decode cX12_takes 74 = .ok (.aload_n 0, 1) := by decide +kernel
theorem dX12_takes_75 : decode cX12_takes 75 = .ok (.aload_n 0, 1) := by decide +kernel
theorem dX12_takes_76 : decode cX12_takes 76 = .ok (.getfield 246, 3) := by decide +kernel
theorem dX12_takes_79 : decode cX12_takes 79 = .ok (.putfield 275, 3) := by decide +kernel
theorem dX12_takes_82 : decode cX12_takes 82 = .ok (.goto 17, 3) := by decide +kernel
theorem dX12_takes_85 : decode cX12_takes 85 = .ok (.aload_n 0, 1) := by decide +kernel
theorem dX12_takes_86 : decode cX12_takes 86 = .ok (.aload_n 0, 1) := by decide +kernel
theorem dX12_takes_87 : decode cX12_takes 87 = .ok (.getfield 145, 3) := by decide +kernel
theorem dX12_takes_90 : decode cX12_takes 90 = .ok (.iload_n 1, 1) := by decide +kernel
theorem dX12_takes_91 : decode cX12_takes 91 = .ok (.iaload, 1) := by decide +kernel
theorem dX12_takes_92 : decode cX12_takes 92 = .ok (.invokevirtual 285, 3) := by decide +kernel
theorem dX12_takes_95 : decode cX12_takes 95 = .ok (.ifCond .ne 4, 3) := by decide +kernel
theorem dX12_takes_98 : decode cX12_takes 98 = .ok (.return_, 1) := by decide +kernel
theorem dX12_takes_99 : decode cX12_takes 99 = .ok (.aload_n 0, 1) := by decide +kernel
theorem dX12_takes_100 : decode cX12_takes 100 = .ok (.getfield 142, 3) := by decide +kernel
theorem dX12_takes_103 : decode cX12_takes 103 = .ok (.iload_n 1, 1) := by decide +kernel
theorem dX12_takes_104 : decode cX12_takes 104 = .ok (.iconst 1, 1) := by decide +kernel
theorem dX12_takes_105 : decode cX12_takes 105 = .ok (.iastore, 1) := by decide +kernel
theorem dX12_takes_106 : decode cX12_takes 106 = .ok (.aload_n 0, 1) := by decide +kernel
theorem dX12_takes_107 : decode cX12_takes 107 = .ok (.getfield 82, 3) := by decide +kernel
theorem dX12_takes_110 : decode cX12_takes 110 = .ok (.iload_n 1, 1) := by decide +kernel
theorem dX12_takes_111 : decode cX12_takes 111 = .ok (.iconst 1, 1) := by decide +kernel
theorem dX12_takes_112 : decode cX12_takes 112 = .ok (.bastore, 1) := by decide +kernel
theorem dX12_takes_113 : decode cX12_takes 113 = .ok (.aload_n 0, 1) := by decide +kernel
theorem dX12_takes_114 : decode cX12_takes 114 = .ok (.dup, 1) := by decide +kernel
theorem dX12_takes_115 : decode cX12_takes 115 = .ok (.getfield 263, 3) := by decide +kernel
theorem dX12_takes_118 : decode cX12_takes 118 = .ok (.aload_n 0, 1) := by decide +kernel
theorem dX12_takes_119 : decode cX12_takes 119 = .ok (.getfield 154, 3) := by decide +kernel
theorem dX12_takes_122 : decode cX12_takes 122 = .ok (.iload_n 1, 1) := by decide +kernel
theorem dX12_takes_123 : decode cX12_takes 123 = .ok (.baload, 1) := by decide +kernel
theorem dX12_takes_124 : decode cX12_takes 124 = .ok (.ifCond .eq 7, 3) := by decide +kernel
theorem dX12_takes_127 : decode cX12_takes 127 = .ok (.iconst 1, 1) := by decide +kernel
theorem dX12_takes_128 : decode cX12_takes 128 = .ok (.goto 4, 3) := by decide +kernel
theorem dX12_takes_131 : decode cX12_takes 131 = .ok (.iconst 0, 1) := by decide +kernel
theorem dX12_takes_132 : decode cX12_takes 132 = .ok (.iadd, 1) := by decide +kernel
theorem dX12_takes_133 : decode cX12_takes 133 = .ok (.putfield 263, 3) := by decide +kernel
theorem dX12_takes_136 : decode cX12_takes 136 = .ok (.iconst 0, 1) := by decide +kernel
theorem dX12_takes_137 : decode cX12_takes 137 = .ok (.istore_n 2, 1) := by decide +kernel
theorem dX12_takes_138 : decode cX12_takes 138 = .ok (.iload_n 2, 1) := by decide +kernel
theorem dX12_takes_139 : decode cX12_takes 139 = .ok (.aload_n 0, 1) := by decide +kernel
theorem dX12_takes_140 : decode cX12_takes 140 = .ok (.getfield 136, 3) := by decide +kernel
theorem dX12_takes_143 : decode cX12_takes 143 = .ok (.iload_n 1, 1) := by decide +kernel
theorem dX12_takes_144 : decode cX12_takes 144 = .ok (.iaload, 1) := by decide +kernel
theorem dX12_takes_145 : decode cX12_takes 145 = .ok (.if_icmp .ge 34, 3) := by decide +kernel
theorem dX12_takes_148 : decode cX12_takes 148 = .ok (.aload_n 0, 1) := by decide +kernel
theorem dX12_takes_149 : decode cX12_takes 149 = .ok (.getfield 85, 3) := by decide +kernel
theorem dX12_takes_152 : decode cX12_takes 152 = .ok (.sipush 200, 3) := by decide +kernel
theorem dX12_takes_155 : decode cX12_takes 155 = .ok (.aload_n 0, 1) := by decide +kernel
theorem dX12_takes_156 : decode cX12_takes 156 = .ok (.getfield 130, 3) := by decide +kernel
theorem dX12_takes_159 : decode cX12_takes 159 = .ok (.iload_n 1, 1) := by decide +kernel
theorem dX12_takes_160 : decode cX12_takes 160 = .ok (.iaload, 1) := by decide +kernel
theorem dX12_takes_161 : decode cX12_takes 161 = .ok (.imul, 1) := by decide +kernel
theorem dX12_takes_162 : decode cX12_takes 162 = .ok (.aload_n 0, 1) := by decide +kernel
theorem dX12_takes_163 : decode cX12_takes 163 = .ok (.getfield 133, 3) := by decide +kernel
theorem dX12_takes_166 : decode cX12_takes 166 = .ok (.iload_n 1, 1) := by decide +kernel
theorem dX12_takes_167 : decode cX12_takes 167 = .ok (.iaload, 1) := by decide +kernel
theorem dX12_takes_168 : decode cX12_takes 168 = .ok (.iadd, 1) := by decide +kernel
theorem dX12_takes_169 : decode cX12_takes 169 = .ok (.iload_n 2, 1) := by decide +kernel
theorem dX12_takes_170 : decode cX12_takes 170 = .ok (.iadd, 1) := by decide +kernel
theorem dX12_takes_171 : decode cX12_takes 171 = .ok (.iconst 1, 1) := by decide +kernel
theorem dX12_takes_172 : decode cX12_takes 172 = .ok (.bastore, 1) := by decide +kernel
theorem dX12_takes_173 : decode cX12_takes 173 = .ok (.iinc 2 1, 3) := by decide +kernel
theorem dX12_takes_176 : decode cX12_takes 176 = .ok (.goto (-38), 3) := by decide +kernel
theorem dX12_takes_179 : decode cX12_takes 179 = .ok (.iload_n 1, 1) := by decide +kernel
theorem dX12_takes_180 : decode cX12_takes 180 = .ok (.aload_n 0, 1) := by decide +kernel
theorem dX12_takes_181 : decode cX12_takes 181 = .ok (.getfield 91, 3) := by decide +kernel
theorem dX12_takes_184 : decode cX12_takes 184 = .ok (.iconst 1, 1) := by decide +kernel
theorem dX12_takes_185 : decode cX12_takes 185 = .ok (.iadd, 1) := by decide +kernel
theorem dX12_takes_186 : decode cX12_takes 186 = .ok (.if_icmp .ne 7, 3) := by decide +kernel
theorem dX12_takes_189 : decode cX12_takes 189 = .ok (.iconst 1, 1) := by decide +kernel
theorem dX12_takes_190 : decode cX12_takes 190 = .ok (.goto 4, 3) := by decide +kernel
theorem dX12_takes_193 : decode cX12_takes 193 = .ok (.iconst 0, 1) := by decide +kernel
theorem dX12_takes_194 : decode cX12_takes 194 = .ok (.istore_n 2, 1) := by decide +kernel
theorem dX12_takes_195 : decode cX12_takes 195 = .ok (.aload_n 0, 1) := by decide +kernel
theorem dX12_takes_196 : decode cX12_takes 196 = .ok (.aload_n 0, 1) := by decide +kernel
theorem dX12_takes_197 : decode cX12_takes 197 = .ok (.getfield 91, 3) := by decide +kernel
theorem dX12_takes_200 : decode cX12_takes 200 = .ok (.iload_n 1, 1) := by decide +kernel
theorem dX12_takes_201 : decode cX12_takes 201 = .ok (.invokestatic 288, 3) := by decide +kernel
theorem dX12_takes_204 : decode cX12_takes 204 = .ok (.putfield 91, 3) := by decide +kernel
theorem dX12_takes_207 : decode cX12_takes 207 = .ok (.aload_n 0, 1) := by decide +kernel
theorem dX12_takes_208 : decode cX12_takes 208 = .ok (.dup, 1) := by decide +kernel
theorem dX12_takes_209 : decode cX12_takes 209 = .ok (.getfield 266, 3) := by decide +kernel
theorem dX12_takes_212 : decode cX12_takes 212 = .ok (.iconst 1, 1) := by decide +kernel
theorem dX12_takes_213 : decode cX12_takes 213 = .ok (.iadd, 1) := by decide +kernel
theorem dX12_takes_214 : decode cX12_takes 214 = .ok (.putfield 266, 3) := by decide +kernel
theorem dX12_takes_217 : decode cX12_takes 217 = .ok (.aload_n 0, 1) := by decide +kernel
theorem dX12_takes_218 : decode cX12_takes 218 = .ok (.getfield 148, 3) := by decide +kernel
theorem dX12_takes_221 : decode cX12_takes 221 = .ok (.iload_n 1, 1) := by decide +kernel
theorem dX12_takes_222 : decode cX12_takes 222 = .ok (.baload, 1) := by decide +kernel
theorem dX12_takes_223 : decode cX12_takes 223 = .ok (.ifCond .ne 15, 3) := by decide +kernel
theorem dX12_takes_226 : decode cX12_takes 226 = .ok (.iload_n 2, 1) := by decide +kernel
theorem dX12_takes_227 : decode cX12_takes 227 = .ok (.ifCond .eq 11, 3) := by decide +kernel
theorem dX12_takes_230 : decode cX12_takes 230 = .ok (.aload_n 0, 1) := by decide +kernel
theorem dX12_takes_231 : decode cX12_takes 231 = .ok (.getfield 266, 3) := by decide +kernel
theorem dX12_takes_234 : decode cX12_takes 234 = .ok (.iconst 2, 1) := by decide +kernel
theorem dX12_takes_235 : decode cX12_takes 235 = .ok (.if_icmp .ne 10, 3) := by decide +kernel
theorem dX12_takes_238 : decode cX12_takes 238 = .ok (.aload_n 0, 1) := by decide +kernel
theorem dX12_takes_239 : decode cX12_takes 239 = .ok (.invokevirtual 292, 3) := by decide +kernel
theorem dX12_takes_242 : decode cX12_takes 242 = .ok (.goto 13, 3) := by decide +kernel
theorem dX12_takes_245 : decode cX12_takes 245 = .ok (.aload_n 0, 1) := by decide +kernel
theorem dX12_takes_246 : decode cX12_takes 246 = .ok (.aload_n 0, 1) := by decide +kernel
theorem dX12_takes_247 : decode cX12_takes 247 = .ok (.getfield 246, 3) := by decide +kernel
theorem dX12_takes_250 : decode cX12_takes 250 = .ok (.iconst 3, 1) := by decide +kernel
theorem dX12_takes_251 : decode cX12_takes 251 = .ok (.iadd, 1) := by decide +kernel
theorem dX12_takes_252 : decode cX12_takes 252 = .ok (.putfield 94, 3) := by decide +kernel
theorem dX12_takes_255 : decode cX12_takes 255 = .ok (.return_, 1) := by decide +kernel
theorem dX12_hears_0 : decode cX12_hears 0 = .ok (.iload_n 2, 1) := by decide +kernel
theorem dX12_hears_1 : decode cX12_hears 1 = .ok (.iconst 2, 1) := by decide +kernel
theorem dX12_hears_2 : decode cX12_hears 2 = .ok (.irem, 1) := by decide +kernel
theorem dX12_hears_3 : decode cX12_hears 3 = .ok (.iconst 1, 1) := by decide +kernel
theorem dX12_hears_4 : decode cX12_hears 4 = .ok (.if_icmp .ne 7, 3) := by decide +kernel
theorem dX12_hears_7 : decode cX12_hears 7 = .ok (.iconst 1, 1) := by decide +kernel
theorem dX12_hears_8 : decode cX12_hears 8 = .ok (.goto 4, 3) := by decide +kernel
theorem dX12_hears_11 : decode cX12_hears 11 = .ok (.iconst 0, 1) := by decide +kernel
theorem dX12_hears_12 : decode cX12_hears 12 = .ok (.istore_n 3, 1) := by decide +kernel
theorem dX12_hears_13 : decode cX12_hears 13 = .ok (.iload_n 2, 1) := by decide +kernel
theorem dX12_hears_14 : decode cX12_hears 14 = .ok (.iconst 2, 1) := by decide +kernel
theorem dX12_hears_15 : decode cX12_hears 15 = .ok (.idiv, 1) := by decide +kernel
theorem dX12_hears_16 : decode cX12_hears 16 = .ok (.iconst 1, 1) := by decide +kernel
theorem dX12_hears_17 : decode cX12_hears 17 = .ok (.isub, 1) := by decide +kernel
theorem dX12_hears_18 : decode cX12_hears 18 = .ok (.istore 4, 2) := by decide +kernel
theorem dX12_hears_20 : decode cX12_hears 20 = .ok (.aload_n 0, 1) := by decide +kernel
theorem dX12_hears_21 : decode cX12_hears 21 = .ok (.getfield 278, 3) := by decide +kernel
theorem dX12_hears_24 : decode cX12_hears 24 = .ok (.iconst 2, 1) := by decide +kernel
theorem dX12_hears_25 : decode cX12_hears 25 = .ok (.if_icmp .ne 4, 3) := by decide +kernel
theorem dX12_hears_28 : decode cX12_hears 28 = .ok (.return_, 1) := by decide +kernel
theorem dX12_hears_29 : decode cX12_hears 29 = .ok (.aload_n 0, 1) := by decide +kernel
theorem dX12_hears_30 : decode cX12_hears 30 = .ok (.getfield 278, 3) := by decide +kernel
theorem dX12_hears_33 : decode cX12_hears 33 = .ok (.iconst 1, 1) := by decide +kernel
theorem dX12_hears_34 : decode cX12_hears 34 = .ok (.if_icmp .ne 25, 3) := by decide +kernel
theorem dX12_hears_37 : decode cX12_hears 37 = .ok (.aload_n 0, 1) := by decide +kernel
theorem dX12_hears_38 : decode cX12_hears 38 = .ok (.iload_n 1, 1) := by decide +kernel
theorem dX12_hears_39 : decode cX12_hears 39 = .ok (.bipush 6, 2) := by decide +kernel
theorem dX12_hears_41 : decode cX12_hears 41 = .ok (.aload_n 0, 1) := by decide +kernel
theorem dX12_hears_42 : decode cX12_hears 42 = .ok (.getfield 281, 3) := by decide +kernel
theorem dX12_hears_45 : decode cX12_hears 45 = .ok (.ifCond .eq 7, 3) := by decide +kernel
theorem dX12_hears_48 : decode cX12_hears 48 = .ok (.iconst 1, 1) := by decide +kernel
theorem dX12_hears_49 : decode cX12_hears 49 = .ok (.goto 4, 3) := by decide +kernel
theorem dX12_hears_52 : decode cX12_hears 52 = .ok (.iconst 0, 1) := by decide +kernel
theorem dX12_hears_53 : decode cX12_hears 53 = .ok (.invokevirtual 269, 3) := by decide +kernel
theorem dX12_hears_56 : decode cX12_hears 56 = .ok (.goto 87, 3) := by decide +kernel
theorem dX12_hears_59 : decode cX12_hears 59 = .ok (.aload_n 0, 1) := by decide +kernel
theorem dX12_hears_60 : decode cX12_hears 60 = .ok (.getfield 295, 3) := by decide +kernel
theorem dX12_hears_63 : decode cX12_hears 63 = .ok (.ifCond .eq 17, 3) := by decide +kernel
theorem dX12_hears_66 : decode cX12_hears 66 = .ok (.iload_n 3, 1) := by decide +kernel
theorem dX12_hears_67 : decode cX12_hears 67 = .ok (.ifCond .ne 13, 3) := by decide +kernel
theorem dX12_hears_70 : decode cX12_hears 70 = .ok (.aload_n 0, 1) := by decide +kernel
theorem dX12_hears_71 : decode cX12_hears 71 = .ok (.iload_n 1, 1) := by decide +kernel
theorem dX12_hears_72 : decode cX12_hears 72 = .ok (.iconst 5, 1) := by decide +kernel
theorem dX12_hears_73 : decode cX12_hears 73 = .ok (.iconst 0, 1) := by decide +kernel
theorem dX12_hears_74 : decode cX12_hears 74 = .ok (.invokevirtual 269, 3) := by decide +kernel
theorem dX12_hears_77 : decode cX12_hears 77 = .ok (.goto 66, 3) := by decide +kernel
theorem dX12_hears_80 : decode cX12_hears 80 = .ok (.aload_n 0, 1) := by decide +kernel
theorem dX12_hears_81 : decode cX12_hears 81 = .ok (.iconst 1, 1) := by decide +kernel
theorem dX12_hears_82 : decode cX12_hears 82 = .ok (.putfield 278, 3) := by decide +kernel
theorem dX12_hears_85 : decode cX12_hears 85 = .ok (.aload_n 0, 1) := by decide +kernel
theorem dX12_hears_86 : decode cX12_hears 86 = .ok (.iload 4, 2) := by decide +kernel
theorem dX12_hears_88 : decode cX12_hears 88 = .ok (.ifCond .lt 17, 3) := by decide +kernel
theorem dX12_hears_91 : decode cX12_hears 91 = .ok (.aload_n 0, 1) := by decide +kernel
theorem dX12_hears_92 : decode cX12_hears 92 = .ok (.getfield 75, 3) := by decide +kernel
theorem dX12_hears_95 : decode cX12_hears 95 = .ok (.iload 4, 2) := by decide +kernel
theorem dX12_hears_97 : decode cX12_hears 97 = .ok (.baload, 1) := by decide +kernel
theorem dX12_hears_98 : decode cX12_hears 98 = .ok (.ifCond .ne 7, 3) := by decide +kernel
theorem dX12_hears_101 : decode cX12_hears 101 = .ok (.iconst 1, 1) := by decide +kernel
theorem dX12_hears_102 : decode cX12_hears 102 = .ok (.goto 4, 3) := by decide +kernel
theorem dX12_hears_105 : decode cX12_hears 105 = .ok (.iconst 0, 1) := by decide +kernel
theorem dX12_hears_106 : decode cX12_hears 106 = .ok (.putfield 281, 3) := by decide +kernel
theorem dX12_hears_109 : decode cX12_hears 109 = .ok (.aload_n 0, 1) := by decide +kernel
theorem dX12_hears_110 : decode cX12_hears 110 = .ok (.getfield 281, 3) := by decide +kernel
theorem dX12_hears_113 : decode cX12_hears 113 = .ok (.ifCond .eq 11, 3) := by decide +kernel
theorem dX12_hears_116 : decode cX12_hears 116 = .ok (.aload_n 0, 1) := by decide +kernel
theorem dX12_hears_117 : decode cX12_hears 117 = .ok (.getfield 75, 3) := by decide +kernel
theorem dX12_hears_120 : decode cX12_hears 120 = .ok (.iload 4, 2) := by decide +kernel
theorem dX12_hears_122 : decode cX12_hears 122 = .ok (.iconst 1, 1) := by decide +kernel
theorem dX12_hears_123 : decode cX12_hears 123 = .ok (.bastore, 1) := by decide +kernel
theorem dX12_hears_124 : decode cX12_hears 124 = .ok (.aload_n 0, 1) := by decide +kernel
theorem dX12_hears_125 : decode cX12_hears 125 = .ok (.iload_n 1, 1) := by decide +kernel
theorem dX12_hears_126 : decode cX12_hears 126 = .ok (.bipush 6, 2) := by decide +kernel
theorem dX12_hears_128 : decode cX12_hears 128 = .ok (.aload_n 0, 1) := by decide +kernel
theorem dX12_hears_129 : decode cX12_hears 129 = .ok (.getfield 281, 3) := by decide +kernel
theorem dX12_hears_132 : decode cX12_hears 132 = .ok (.ifCond .eq 7, 3) := by decide +kernel
theorem dX12_hears_135 : decode cX12_hears 135 = .ok (.iconst 1, 1) := by decide +kernel
theorem dX12_hears_136 : decode cX12_hears 136 = .ok (.goto 4, 3) := by decide +kernel
theorem dX12_hears_139 : decode cX12_hears 139 = .ok (.iconst 0, 1) := by decide +kernel
theorem dX12_hears_140 : decode cX12_hears 140 = .ok (.invokevirtual 269, 3) := by decide +kernel
theorem dX12_hears_143 : decode cX12_hears 143 = .ok (.return_, 1) := by decide +kernel
theorem dX12_arrivesAtServer_0 : decode cX12_arrivesAtServer 0 = .ok (.aload_n 0, 1) := by decide +kernel
theorem dX12_arrivesAtServer_1 : decode cX12_arrivesAtServer 1 = .ok (.getfield 44, 3) := by decide +kernel
theorem dX12_arrivesAtServer_4 : decode cX12_arrivesAtServer 4 = .ok (.iload_n 1, 1) := by decide +kernel
theorem dX12_arrivesAtServer_5 : decode cX12_arrivesAtServer 5 = .ok (.iaload, 1) := by decide +kernel
theorem dX12_arrivesAtServer_6 : decode cX12_arrivesAtServer 6 = .ok (.istore_n 2, 1) := by decide +kernel
theorem dX12_arrivesAtServer_7 : decode cX12_arrivesAtServer 7 = .ok (.aload_n 0, 1) := by decide +kernel
theorem dX12_arrivesAtServer_8 : decode cX12_arrivesAtServer 8 = .ok (.getfield 50, 3) := by decide +kernel
theorem dX12_arrivesAtServer_11 : decode cX12_arrivesAtServer 11 = .ok (.iload_n 1, 1) := by decide +kernel
theorem dX12_arrivesAtServer_12 : decode cX12_arrivesAtServer 12 = .ok (.iaload, 1) := by decide +kernel
theorem dX12_arrivesAtServer_13 : decode cX12_arrivesAtServer 13 = .ok (.istore_n 3, 1) := by decide +kernel
theorem dX12_arrivesAtServer_14 : decode cX12_arrivesAtServer 14 = .ok (.iload_n 2, 1) := by decide +kernel
theorem dX12_arrivesAtServer_15 : decode cX12_arrivesAtServer 15 = .ok (.iconst 1, 1) := by decide +kernel
theorem dX12_arrivesAtServer_16 : decode cX12_arrivesAtServer 16 = .ok (.if_icmp .ne 15, 3) := by decide +kernel
theorem dX12_arrivesAtServer_19 : decode cX12_arrivesAtServer 19 = .ok (.aload_n 0, 1) := by decide +kernel
theorem dX12_arrivesAtServer_20 : decode cX12_arrivesAtServer 20 = .ok (.iload_n 3, 1) := by decide +kernel
theorem dX12_arrivesAtServer_21 : decode cX12_arrivesAtServer 21 = .ok (.aload_n 0, 1) := by decide +kernel
theorem dX12_arrivesAtServer_22 : decode cX12_arrivesAtServer 22 = .ok (.getfield 47, 3) := by decide +kernel
theorem dX12_arrivesAtServer_25 : decode cX12_arrivesAtServer 25 = .ok (.iload_n 1, 1) := by decide +kernel
theorem dX12_arrivesAtServer_26 : decode cX12_arrivesAtServer 26 = .ok (.iaload, 1) := by decide +kernel
theorem dX12_arrivesAtServer_27 : decode cX12_arrivesAtServer 27 = .ok (.invokevirtual 298, 3) := by decide +kernel
theorem dX12_arrivesAtServer_30 : decode cX12_arrivesAtServer 30 = .ok (.return_, 1) := by decide +kernel
theorem dX12_arrivesAtServer_31 : decode cX12_arrivesAtServer 31 = .ok (.iload_n 2, 1) := by decide +kernel
theorem dX12_arrivesAtServer_32 : decode cX12_arrivesAtServer 32 = .ok (.iconst 2, 1) := by decide +kernel
theorem dX12_arrivesAtServer_33 : decode cX12_arrivesAtServer 33 = .ok (.if_icmp .ne 13, 3) := by decide +kernel
theorem dX12_arrivesAtServer_36 : decode cX12_arrivesAtServer 36 = .ok (.aload_n 0, 1) := by decide +kernel
theorem dX12_arrivesAtServer_37 : decode cX12_arrivesAtServer 37 = .ok (.aload_n 0, 1) := by decide +kernel
theorem dX12_arrivesAtServer_38 : decode cX12_arrivesAtServer 38 = .ok (.getfield 47, 3) := by decide +kernel
theorem dX12_arrivesAtServer_41 : decode cX12_arrivesAtServer 41 = .ok (.iload_n 1, 1) := by decide +kernel
theorem dX12_arrivesAtServer_42 : decode cX12_arrivesAtServer 42 = .ok (.iaload, 1) := by decide +kernel
theorem dX12_arrivesAtServer_43 : decode cX12_arrivesAtServer 43 = .ok (.invokevirtual 302, 3) := by decide +kernel
theorem dX12_arrivesAtServer_46 : decode cX12_arrivesAtServer 46 = .ok (.aload_n 0, 1) := by decide +kernel
theorem dX12_arrivesAtServer_47 : decode cX12_arrivesAtServer 47 = .ok (.getfield 278, 3) := by decide +kernel
theorem dX12_arrivesAtServer_50 : decode cX12_arrivesAtServer 50 = .ok (.iconst 3, 1) := by decide +kernel
theorem dX12_arrivesAtServer_51 : decode cX12_arrivesAtServer 51 = .ok (.if_icmp .ne 14, 3) := by decide +kernel
theorem dX12_arrivesAtServer_54 : decode cX12_arrivesAtServer 54 = .ok (.aload_n 0, 1) := by decide +kernel
theorem dX12_arrivesAtServer_55 : decode cX12_arrivesAtServer 55 = .ok (.iload_n 3, 1) := by decide +kernel
theorem dX12_arrivesAtServer_56 : decode cX12_arrivesAtServer 56 = .ok (.bipush 9, 2) := by decide +kernel
theorem dX12_arrivesAtServer_58 : decode cX12_arrivesAtServer 58 = .ok (.iconst 0, 1) := by decide +kernel
theorem dX12_arrivesAtServer_59 : decode cX12_arrivesAtServer 59 = .ok (.invokevirtual 269, 3) := by decide +kernel
theorem dX12_arrivesAtServer_62 : decode cX12_arrivesAtServer 62 = .ok (.goto 37, 3) := by decide +kernel
theorem dX12_arrivesAtServer_65 : decode cX12_arrivesAtServer 65 = .ok (.iload_n 2, 1) := by decide +kernel
theorem dX12_arrivesAtServer_66 : decode cX12_arrivesAtServer 66 = .ok (.iconst 3, 1) := by decide +kernel
theorem dX12_arrivesAtServer_67 : decode cX12_arrivesAtServer 67 = .ok (.if_icmp .ne 22, 3) := by decide +kernel
theorem dX12_arrivesAtServer_70 : decode cX12_arrivesAtServer 70 = .ok (.aload_n 0, 1) := by decide +kernel
theorem dX12_arrivesAtServer_71 : decode cX12_arrivesAtServer 71 = .ok (.getfield 278, 3) := by decide +kernel
theorem dX12_arrivesAtServer_74 : decode cX12_arrivesAtServer 74 = .ok (.iconst 1, 1) := by decide +kernel
theorem dX12_arrivesAtServer_75 : decode cX12_arrivesAtServer 75 = .ok (.if_icmp .ne 14, 3) := by decide +kernel
theorem dX12_arrivesAtServer_78 : decode cX12_arrivesAtServer 78 = .ok (.aload_n 0, 1) := by decide +kernel
theorem dX12_arrivesAtServer_79 : decode cX12_arrivesAtServer 79 = .ok (.iload_n 3, 1) := by decide +kernel
theorem dX12_arrivesAtServer_80 : decode cX12_arrivesAtServer 80 = .ok (.bipush 8, 2) := by decide +kernel
theorem dX12_arrivesAtServer_82 : decode cX12_arrivesAtServer 82 = .ok (.iconst 0, 1) := by decide +kernel
theorem dX12_arrivesAtServer_83 : decode cX12_arrivesAtServer 83 = .ok (.invokevirtual 269, 3) := by decide +kernel
theorem dX12_arrivesAtServer_86 : decode cX12_arrivesAtServer 86 = .ok (.goto 13, 3) := by decide +kernel
theorem dX12_arrivesAtServer_89 : decode cX12_arrivesAtServer 89 = .ok (.iload_n 2, 1) := by decide +kernel
theorem dX12_arrivesAtServer_90 : decode cX12_arrivesAtServer 90 = .ok (.iconst 4, 1) := by decide +kernel
theorem dX12_arrivesAtServer_91 : decode cX12_arrivesAtServer 91 = .ok (.if_icmp .ne 8, 3) := by decide +kernel
theorem dX12_arrivesAtServer_94 : decode cX12_arrivesAtServer 94 = .ok (.aload_n 0, 1) := by decide +kernel
theorem dX12_arrivesAtServer_95 : decode cX12_arrivesAtServer 95 = .ok (.iconst 2, 1) := by decide +kernel
theorem dX12_arrivesAtServer_96 : decode cX12_arrivesAtServer 96 = .ok (.putfield 278, 3) := by decide +kernel
theorem dX12_arrivesAtServer_99 : decode cX12_arrivesAtServer 99 = .ok (.return_, 1) := by decide +kernel
theorem dX12_setCookies_0 : decode cX12_setCookies 0 = .ok (.aload_n 0, 1) := by decide +kernel
theorem dX12_setCookies_1 : decode cX12_setCookies 1 = .ok (.iconst 0, 1) := by decide +kernel
theorem dX12_setCookies_2 : decode cX12_setCookies 2 = .ok (.putfield 233, 3) := by decide +kernel
theorem dX12_setCookies_5 : decode cX12_setCookies 5 = .ok (.aload_n 0, 1) := by decide +kernel
theorem dX12_setCookies_6 : decode cX12_setCookies 6 = .ok (.getfield 295, 3) := by decide +kernel
theorem dX12_setCookies_9 : decode cX12_setCookies 9 = .ok (.istore_n 2, 1) := by decide +kernel
theorem dX12_setCookies_10 : decode cX12_setCookies 10 = .ok (.aload_n 0, 1) := by decide +kernel
theorem dX12_setCookies_11 : decode cX12_setCookies 11 = .ok (.iload_n 1, 1) := by decide +kernel
theorem dX12_setCookies_12 : decode cX12_setCookies 12 = .ok (.putfield 295, 3) := by decide +kernel
theorem dX12_setCookies_15 : decode cX12_setCookies 15 = .ok (.iload_n 2, 1) := by decide +kernel
theorem dX12_setCookies_16 : decode cX12_setCookies 16 = .ok (.ireturn, 1) := by decide +kernel
theorem dX12_read_0 : decode cX12_read 0 = .ok (.aload_n 0, 1) := by decide +kernel
theorem dX12_read_1 : decode cX12_read 1 = .ok (.iload_n 1, 1) := by decide +kernel
theorem dX12_read_2 : decode cX12_read 2 = .ok (.invokestatic 306, 3) := by decide +kernel
theorem dX12_read_5 : decode cX12_read 5 = .ok (.iload_n 2, 1) := by decide +kernel
theorem dX12_read_6 : decode cX12_read 6 = .ok (.iconst 1, 1) := by decide +kernel
theorem dX12_read_7 : decode cX12_read 7 = .ok (.sipush 200, 3) := by decide +kernel
theorem dX12_read_10 : decode cX12_read 10 = .ok (.invokestatic 236, 3) := by decide +kernel
theorem dX12_read_13 : decode cX12_read 13 = .ok (.iconst 1, 1) := by decide +kernel
theorem dX12_read_14 : decode cX12_read 14 = .ok (.invokevirtual 253, 3) := by decide +kernel
theorem dX12_read_17 : decode cX12_read 17 = .ok (.ifCond .ne 5, 3) := by decide +kernel
theorem dX12_read_20 : decode cX12_read 20 = .ok (.iconst 0, 1) := by decide +kernel
theorem dX12_read_21 : decode cX12_read 21 = .ok (.ireturn, 1) := by decide +kernel
theorem dX12_read_22 : decode cX12_read 22 = .ok (.aload_n 0, 1) := by decide +kernel
theorem dX12_read_23 : decode cX12_read 23 = .ok (.iload_n 1, 1) := by decide +kernel
theorem dX12_read_24 : decode cX12_read 24 = .ok (.invokevirtual 309, 3) := by decide +kernel
theorem dX12_read_27 : decode cX12_read 27 = .ok (.aload_n 0, 1) := by decide +kernel
theorem dX12_read_28 : decode cX12_read 28 = .ok (.getfield 88, 3) := by decide +kernel
theorem dX12_read_31 : decode cX12_read 31 = .ok (.iload_n 1, 1) := by decide +kernel
theorem dX12_read_32 : decode cX12_read 32 = .ok (.iaload, 1) := by decide +kernel
theorem dX12_read_33 : decode cX12_read 33 = .ok (.isub, 1) := by decide +kernel
theorem dX12_read_34 : decode cX12_read 34 = .ok (.istore_n 3, 1) := by decide +kernel
theorem dX12_read_35 : decode cX12_read 35 = .ok (.iload_n 2, 1) := by decide +kernel
theorem dX12_read_36 : decode cX12_read 36 = .ok (.iload_n 3, 1) := by decide +kernel
theorem dX12_read_37 : decode cX12_read 37 = .ok (.if_icmp .ge 7, 3) := by decide +kernel
theorem dX12_read_40 : decode cX12_read 40 = .ok (.iload_n 2, 1) := by decide +kernel
theorem dX12_read_41 : decode cX12_read 41 = .ok (.goto 4, 3) := by decide +kernel
theorem dX12_read_44 : decode cX12_read 44 = .ok (.iload_n 3, 1) := by decide +kernel
theorem dX12_read_45 : decode cX12_read 45 = .ok (.istore 4, 2) := by decide +kernel
theorem dX12_read_47 : decode cX12_read 47 = .ok (.aload_n 0, 1) := by decide +kernel
theorem dX12_read_48 : decode cX12_read 48 = .ok (.getfield 88, 3) := by decide +kernel
theorem dX12_read_51 : decode cX12_read 51 = .ok (.iload_n 1, 1) := by decide +kernel
theorem dX12_read_52 : decode cX12_read 52 = .ok (.dup2, 1) := by decide +kernel
theorem dX12_read_53 : decode cX12_read 53 = .ok (.iaload, 1) := by decide +kernel
theorem dX12_read_54 : decode cX12_read 54 = .ok (.iload 4, 2) := by decide +kernel
theorem dX12_read_56 : decode cX12_read 56 = .ok (.iadd, 1) := by decide +kernel
theorem dX12_read_57 : decode cX12_read 57 = .ok (.iastore, 1) := by decide +kernel
theorem dX12_read_58 : decode cX12_read 58 = .ok (.iload 4, 2) := by decide +kernel
theorem dX12_read_60 : decode cX12_read 60 = .ok (.ifCond .le 23, 3) := by decide +kernel
theorem dX12_read_63 : decode cX12_read 63 = .ok (.aload_n 0, 1) := by decide +kernel
theorem dX12_read_64 : decode cX12_read 64 = .ok (.getfield 278, 3) := by decide +kernel
theorem dX12_read_67 : decode cX12_read 67 = .ok (.iconst 1, 1) := by decide +kernel
theorem dX12_read_68 : decode cX12_read 68 = .ok (.if_icmp .ne 15, 3) := by decide +kernel
theorem dX12_read_71 : decode cX12_read 71 = .ok (.aload_n 0, 1) := by decide +kernel
theorem dX12_read_72 : decode cX12_read 72 = .ok (.getfield 97, 3) := by decide +kernel
theorem dX12_read_75 : decode cX12_read 75 = .ok (.iconst (-1), 1) := by decide +kernel
theorem dX12_read_76 : decode cX12_read 76 = .ok (.if_icmp .eq 7, 3) := by decide +kernel
theorem dX12_read_79 : decode cX12_read 79 = .ok (.aload_n 0, 1) := by decide +kernel
theorem dX12_read_80 : decode cX12_read 80 = .ok (.invokevirtual 292, 3) := by decide +kernel
theorem dX12_read_83 : decode cX12_read 83 = .ok (.iload 4, 2) := by decide +kernel
theorem dX12_read_85 : decode cX12_read 85 = .ok (.ireturn, 1) := by decide +kernel
theorem dX12_loseState_0 : decode cX12_loseState 0 = .ok (.aload_n 0, 1) := by decide +kernel
theorem dX12_loseState_1 : decode cX12_loseState 1 = .ok (.iconst 0, 1) := by decide +kernel
theorem dX12_loseState_2 : decode cX12_loseState 2 = .ok (.putfield 233, 3) := by decide +kernel
theorem dX12_loseState_5 : decode cX12_loseState 5 = .ok (.aload_n 0, 1) := by decide +kernel
theorem dX12_loseState_6 : decode cX12_loseState 6 = .ok (.iconst 3, 1) := by decide +kernel
theorem dX12_loseState_7 : decode cX12_loseState 7 = .ok (.putfield 278, 3) := by decide +kernel
theorem dX12_loseState_10 : decode cX12_loseState 10 = .ok (.iconst 0, 1) := by decide +kernel
theorem dX12_loseState_11 : decode cX12_loseState 11 = .ok (.istore_n 1, 1) := by decide +kernel
theorem dX12_loseState_12 : decode cX12_loseState 12 = .ok (.iload_n 1, 1) := by decide +kernel
theorem dX12_loseState_13 : decode cX12_loseState 13 = .ok (.sipush 400, 3) := by decide +kernel
theorem dX12_loseState_16 : decode cX12_loseState 16 = .ok (.if_icmp .ge 16, 3) := by decide +kernel
theorem dX12_loseState_19 : decode cX12_loseState 19 = .ok (.aload_n 0, 1) := by decide +kernel
theorem dX12_loseState_20 : decode cX12_loseState 20 = .ok (.getfield 82, 3) := by decide +kernel
theorem dX12_loseState_23 : decode cX12_loseState 23 = .ok (.iload_n 1, 1) := by decide +kernel
theorem dX12_loseState_24 : decode cX12_loseState 24 = .ok (.iconst 0, 1) := by decide +kernel
theorem dX12_loseState_25 : decode cX12_loseState 25 = .ok (.bastore, 1) := by decide +kernel
theorem dX12_loseState_26 : decode cX12_loseState 26 = .ok (.iinc 1 1, 3) := by decide +kernel
theorem dX12_loseState_29 : decode cX12_loseState 29 = .ok (.goto (-17), 3) := by decide +kernel
theorem dX12_loseState_32 : decode cX12_loseState 32 = .ok (.aload_n 0, 1) := by decide +kernel
theorem dX12_loseState_33 : decode cX12_loseState 33 = .ok (.iconst (-1), 1) := by decide +kernel
theorem dX12_loseState_34 : decode cX12_loseState 34 = .ok (.putfield 91, 3) := by decide +kernel
theorem dX12_loseState_37 : decode cX12_loseState 37 = .ok (.aload_n 0, 1) := by decide +kernel
theorem dX12_loseState_38 : decode cX12_loseState 38 = .ok (.iconst 0, 1) := by decide +kernel
theorem dX12_loseState_39 : decode cX12_loseState 39 = .ok (.putfield 266, 3) := by decide +kernel
theorem dX12_loseState_42 : decode cX12_loseState 42 = .ok (.aload_n 0, 1) := by decide +kernel
theorem dX12_loseState_43 : decode cX12_loseState 43 = .ok (.iconst (-1), 1) := by decide +kernel
theorem dX12_loseState_44 : decode cX12_loseState 44 = .ok (.putfield 94, 3) := by decide +kernel
theorem dX12_loseState_47 : decode cX12_loseState 47 = .ok (.aload_n 0, 1) := by decide +kernel
theorem dX12_loseState_48 : decode cX12_loseState 48 = .ok (.iconst (-1), 1) := by decide +kernel
theorem dX12_loseState_49 : decode cX12_loseState 49 = .ok (.putfield 97, 3) := by decide +kernel
theorem dX12_loseState_52 : decode cX12_loseState 52 = .ok (.aload_n 0, 1) := by decide +kernel
theorem dX12_loseState_53 : decode cX12_loseState 53 = .ok (.iconst 0, 1) := by decide +kernel
theorem dX12_loseState_54 : decode cX12_loseState 54 = .ok (.putfield 263, 3) := by decide +kernel
theorem dX12_loseState_57 : decode cX12_loseState 57 = .ok (.return_, 1) := by decide +kernel
theorem dX12_measures_0 : decode cX12_measures 0 = .ok (.aload_n 0, 1) := by decide +kernel
theorem dX12_measures_1 : decode cX12_measures 1 = .ok (.getfield 181, 3) := by decide +kernel
theorem dX12_measures_4 : decode cX12_measures 4 = .ok (.iload_n 1, 1) := by decide +kernel
theorem dX12_measures_5 : decode cX12_measures 5 = .ok (.iload_n 2, 1) := by decide +kernel
theorem dX12_measures_6 : decode cX12_measures 6 = .ok (.iastore, 1) := by decide +kernel
theorem dX12_measures_7 : decode cX12_measures 7 = .ok (.aload_n 0, 1) := by decide +kernel
theorem dX12_measures_8 : decode cX12_measures 8 = .ok (.getfield 184, 3) := by decide +kernel
theorem dX12_measures_11 : decode cX12_measures 11 = .ok (.iload_n 1, 1) := by decide +kernel
theorem dX12_measures_12 : decode cX12_measures 12 = .ok (.baload, 1) := by decide +kernel
theorem dX12_measures_13 : decode cX12_measures 13 = .ok (.ifCond .ne 37, 3) := by decide +kernel
theorem dX12_measures_16 : decode cX12_measures 16 = .ok (.aload_n 0, 1) := by decide +kernel
theorem dX12_measures_17 : decode cX12_measures 17 = .ok (.getfield 184, 3) := by decide +kernel
theorem dX12_measures_20 : decode cX12_measures 20 = .ok (.iload_n 1, 1) := by decide +kernel
theorem dX12_measures_21 : decode cX12_measures 21 = .ok (.iconst 1, 1) := by decide +kernel
theorem dX12_measures_22 : decode cX12_measures 22 = .ok (.bastore, 1) := by decide +kernel
theorem dX12_measures_23 : decode cX12_measures 23 = .ok (.aload_n 0, 1) := by decide +kernel
theorem dX12_measures_24 : decode cX12_measures 24 = .ok (.getfield 172, 3) := by decide +kernel
theorem dX12_measures_27 : decode cX12_measures 27 = .ok (.iload_n 1, 1) := by decide +kernel
theorem dX12_measures_28 : decode cX12_measures 28 = .ok (.bipush 8, 2) := by decide +kernel
theorem dX12_measures_30 : decode cX12_measures 30 = .ok (.iload_n 2, 1) := by decide +kernel
theorem dX12_measures_31 : decode cX12_measures 31 = .ok (.imul, 1) := by decide +kernel
theorem dX12_measures_32 : decode cX12_measures 32 = .ok (.iastore, 1) := by decide +kernel
theorem dX12_measures_33 : decode cX12_measures 33 = .ok (.aload_n 0, 1) := by decide +kernel
theorem dX12_measures_34 : decode cX12_measures 34 = .ok (.getfield 175, 3) := by decide +kernel
theorem dX12_measures_37 : decode cX12_measures 37 = .ok (.iload_n 1, 1) := by decide +kernel
theorem dX12_measures_38 : decode cX12_measures 38 = .ok (.iconst 2, 1) := by decide +kernel
theorem dX12_measures_39 : decode cX12_measures 39 = .ok (.iload_n 2, 1) := by decide +kernel
theorem dX12_measures_40 : decode cX12_measures 40 = .ok (.imul, 1) := by decide +kernel
theorem dX12_measures_41 : decode cX12_measures 41 = .ok (.iastore, 1) := by decide +kernel
theorem dX12_measures_42 : decode cX12_measures 42 = .ok (.aload_n 0, 1) := by decide +kernel
theorem dX12_measures_43 : decode cX12_measures 43 = .ok (.getfield 178, 3) := by decide +kernel
theorem dX12_measures_46 : decode cX12_measures 46 = .ok (.iload_n 1, 1) := by decide +kernel
theorem dX12_measures_47 : decode cX12_measures 47 = .ok (.iload_n 2, 1) := by decide +kernel
theorem dX12_measures_48 : decode cX12_measures 48 = .ok (.iastore, 1) := by decide +kernel
theorem dX12_measures_49 : decode cX12_measures 49 = .ok (.return_, 1) := by decide +kernel
theorem dX12_measures_50 : decode cX12_measures 50 = .ok (.aload_n 0, 1) := by decide +kernel
theorem dX12_measures_51 : decode cX12_measures 51 = .ok (.getfield 178, 3) := by decide +kernel
theorem dX12_measures_54 : decode cX12_measures 54 = .ok (.iload_n 1, 1) := by decide +kernel
theorem dX12_measures_55 : decode cX12_measures 55 = .ok (.iload_n 2, 1) := by decide +kernel
theorem dX12_measures_56 : decode cX12_measures 56 = .ok (.aload_n 0, 1) := by decide +kernel
theorem dX12_measures_57 : decode cX12_measures 57 = .ok (.getfield 178, 3) := by decide +kernel
theorem dX12_measures_60 : decode cX12_measures 60 = .ok (.iload_n 1, 1) := by decide +kernel
theorem dX12_measures_61 : decode cX12_measures 61 = .ok (.iaload, 1) := by decide +kernel
theorem dX12_measures_62 : decode cX12_measures 62 = .ok (.if_icmp .ge 7, 3) := by decide +kernel
theorem dX12_measures_65 : decode cX12_measures 65 = .ok (.iload_n 2, 1) := by decide +kernel
theorem dX12_measures_66 : decode cX12_measures 66 = .ok (.goto 9, 3) := by decide +kernel
theorem dX12_measures_69 : decode cX12_measures 69 = .ok (.aload_n 0, 1) := by decide +kernel
theorem dX12_measures_70 : decode cX12_measures 70 = .ok (.getfield 178, 3) := by decide +kernel
theorem dX12_measures_73 : decode cX12_measures 73 = .ok (.iload_n 1, 1) := by decide +kernel
theorem dX12_measures_74 : decode cX12_measures 74 = .ok (.iaload, 1) := by decide +kernel
theorem dX12_measures_75 : decode cX12_measures 75 = .ok (.iastore, 1) := by decide +kernel
theorem dX12_measures_76 : decode cX12_measures 76 = .ok (.iload_n 2, 1) := by decide +kernel
theorem dX12_measures_77 : decode cX12_measures 77 = .ok (.aload_n 0, 1) := by decide +kernel
theorem dX12_measures_78 : decode cX12_measures 78 = .ok (.getfield 172, 3) := by decide +kernel
theorem dX12_measures_81 : decode cX12_measures 81 = .ok (.iload_n 1, 1) := by decide +kernel
theorem dX12_measures_82 : decode cX12_measures 82 = .ok (.iaload, 1) := by decide +kernel
theorem dX12_measures_83 : decode cX12_measures 83 = .ok (.bipush 8, 2) := by decide +kernel
theorem dX12_measures_85 : decode cX12_measures 85 = .ok (.idiv, 1) := by decide +kernel
theorem dX12_measures_86 : decode cX12_measures 86 = .ok (.isub, 1) := by decide +kernel
theorem dX12_measures_87 : decode cX12_measures 87 = .ok (.istore_n 3, 1) := by decide +kernel
theorem dX12_measures_88 : decode cX12_measures 88 = .ok (.aload_n 0, 1) := by decide +kernel
theorem dX12_measures_89 : decode cX12_measures 89 = .ok (.getfield 175, 3) := by decide +kernel
theorem dX12_measures_92 : decode cX12_measures 92 = .ok (.iload_n 1, 1) := by decide +kernel
theorem dX12_measures_93 : decode cX12_measures 93 = .ok (.dup2, 1) := by decide +kernel
theorem dX12_measures_94 : decode cX12_measures 94 = .ok (.iaload, 1) := by decide +kernel
theorem dX12_measures_95 : decode cX12_measures 95 = .ok (.iload_n 3, 1) := by decide +kernel
theorem dX12_measures_96 : decode cX12_measures 96 = .ok (.ifCond .ge 8, 3) := by decide +kernel
theorem dX12_measures_99 : decode cX12_measures 99 = .ok (.iload_n 3, 1) := by decide +kernel
theorem dX12_measures_100 : decode cX12_measures 100 = .ok (.ineg, 1) := by decide +kernel
theorem dX12_measures_101 : decode cX12_measures 101 = .ok (.goto 4, 3) := by decide +kernel
theorem dX12_measures_104 : decode cX12_measures 104 = .ok (.iload_n 3, 1) := by decide +kernel
theorem dX12_measures_105 : decode cX12_measures 105 = .ok (.aload_n 0, 1) := by decide +kernel
theorem dX12_measures_106 : decode cX12_measures 106 = .ok (.getfield 175, 3) := by decide +kernel
theorem dX12_measures_109 : decode cX12_measures 109 = .ok (.iload_n 1, 1) := by decide +kernel
theorem dX12_measures_110 : decode cX12_measures 110 = .ok (.iaload, 1) := by decide +kernel
theorem dX12_measures_111 : decode cX12_measures 111 = .ok (.iconst 4, 1) := by decide +kernel
theorem dX12_measures_112 : decode cX12_measures 112 = .ok (.idiv, 1) := by decide +kernel
theorem dX12_measures_113 : decode cX12_measures 113 = .ok (.isub, 1) := by decide +kernel
theorem dX12_measures_114 : decode cX12_measures 114 = .ok (.iadd, 1) := by decide +kernel
theorem dX12_measures_115 : decode cX12_measures 115 = .ok (.iastore, 1) := by decide +kernel
theorem dX12_measures_116 : decode cX12_measures 116 = .ok (.aload_n 0, 1) := by decide +kernel
theorem dX12_measures_117 : decode cX12_measures 117 = .ok (.getfield 172, 3) := by decide +kernel
theorem dX12_measures_120 : decode cX12_measures 120 = .ok (.iload_n 1, 1) := by decide +kernel
theorem dX12_measures_121 : decode cX12_measures 121 = .ok (.dup2, 1) := by decide +kernel
theorem dX12_measures_122 : decode cX12_measures 122 = .ok (.iaload, 1) := by decide +kernel
theorem dX12_measures_123 : decode cX12_measures 123 = .ok (.iload_n 2, 1) := by decide +kernel
theorem dX12_measures_124 : decode cX12_measures 124 = .ok (.aload_n 0, 1) := by decide +kernel
theorem dX12_measures_125 : decode cX12_measures 125 = .ok (.getfield 172, 3) := by decide +kernel
theorem dX12_measures_128 : decode cX12_measures 128 = .ok (.iload_n 1, 1) := by decide +kernel
theorem dX12_measures_129 : decode cX12_measures 129 = .ok (.iaload, 1) := by decide +kernel
theorem dX12_measures_130 : decode cX12_measures 130 = .ok (.bipush 8, 2) := by decide +kernel
theorem dX12_measures_132 : decode cX12_measures 132 = .ok (.idiv, 1) := by decide +kernel
theorem dX12_measures_133 : decode cX12_measures 133 = .ok (.isub, 1) := by decide +kernel
theorem dX12_measures_134 : decode cX12_measures 134 = .ok (.iadd, 1) := by decide +kernel
theorem dX12_measures_135 : decode cX12_measures 135 = .ok (.iastore, 1) := by decide +kernel
theorem dX12_measures_136 : decode cX12_measures 136 = .ok (.return_, 1) := by decide +kernel
theorem dX12_inFlight_0 : decode cX12_inFlight 0 = .ok (.iconst 0, 1) := by decide +kernel
theorem dX12_inFlight_1 : decode cX12_inFlight 1 = .ok (.istore_n 2, 1) := by decide +kernel
theorem dX12_inFlight_2 : decode cX12_inFlight 2 = .ok (.iconst 0, 1) := by decide +kernel
theorem dX12_inFlight_3 : decode cX12_inFlight 3 = .ok (.istore_n 3, 1) := by decide +kernel
theorem dX12_inFlight_4 : decode cX12_inFlight 4 = .ok (.iload_n 3, 1) := by decide +kernel
theorem dX12_inFlight_5 : decode cX12_inFlight 5 = .ok (.aload_n 0, 1) := by decide +kernel
theorem dX12_inFlight_6 : decode cX12_inFlight 6 = .ok (.getfield 313, 3) := by decide +kernel
theorem dX12_inFlight_9 : decode cX12_inFlight 9 = .ok (.if_icmp .ge 36, 3) := by decide +kernel
theorem dX12_inFlight_12 : decode cX12_inFlight 12 = .ok (.iload_n 2, 1) := by decide +kernel
theorem dX12_inFlight_13 : decode cX12_inFlight 13 = .ok (.aload_n 0, 1) := by decide +kernel
theorem dX12_inFlight_14 : decode cX12_inFlight 14 = .ok (.getfield 124, 3) := by decide +kernel
theorem dX12_inFlight_17 : decode cX12_inFlight 17 = .ok (.iload_n 3, 1) := by decide +kernel
theorem dX12_inFlight_18 : decode cX12_inFlight 18 = .ok (.iaload, 1) := by decide +kernel
theorem dX12_inFlight_19 : decode cX12_inFlight 19 = .ok (.iload_n 1, 1) := by decide +kernel
theorem dX12_inFlight_20 : decode cX12_inFlight 20 = .ok (.if_icmp .ne 16, 3) := by decide +kernel
theorem dX12_inFlight_23 : decode cX12_inFlight 23 = .ok (.aload_n 0, 1) := by decide +kernel
theorem dX12_inFlight_24 : decode cX12_inFlight 24 = .ok (.getfield 139, 3) := by decide +kernel
theorem dX12_inFlight_27 : decode cX12_inFlight 27 = .ok (.iload_n 3, 1) := by decide +kernel
theorem dX12_inFlight_28 : decode cX12_inFlight 28 = .ok (.iaload, 1) := by decide +kernel
theorem dX12_inFlight_29 : decode cX12_inFlight 29 = .ok (.ifCond .ne 7, 3) := by decide +kernel
theorem dX12_inFlight_32 : decode cX12_inFlight 32 = .ok (.iconst 1, 1) := by decide +kernel
theorem dX12_inFlight_33 : decode cX12_inFlight 33 = .ok (.goto 4, 3) := by decide +kernel
theorem dX12_inFlight_36 : decode cX12_inFlight 36 = .ok (.iconst 0, 1) := by decide +kernel
theorem dX12_inFlight_37 : decode cX12_inFlight 37 = .ok (.iadd, 1) := by decide +kernel
theorem dX12_inFlight_38 : decode cX12_inFlight 38 = .ok (.istore_n 2, 1) := by decide +kernel
theorem dX12_inFlight_39 : decode cX12_inFlight 39 = .ok (.iinc 3 1, 3) := by decide +kernel
theorem dX12_inFlight_42 : decode cX12_inFlight 42 = .ok (.goto (-38), 3) := by decide +kernel
theorem dX12_inFlight_45 : decode cX12_inFlight 45 = .ok (.iload_n 2, 1) := by decide +kernel
theorem dX12_inFlight_46 : decode cX12_inFlight 46 = .ok (.ireturn, 1) := by decide +kernel
theorem dX12_byCube_0 : decode cX12_byCube 0 = .ok (.aload_n 0, 1) := by decide +kernel
theorem dX12_byCube_1 : decode cX12_byCube 1 = .ok (.getfield 220, 3) := by decide +kernel
theorem dX12_byCube_4 : decode cX12_byCube 4 = .ok (.iload_n 1, 1) := by decide +kernel
theorem dX12_byCube_5 : decode cX12_byCube 5 = .ok (.iaload, 1) := by decide +kernel
theorem dX12_byCube_6 : decode cX12_byCube 6 = .ok (.i2l, 1) := by decide +kernel
theorem dX12_byCube_7 : decode cX12_byCube 7 = .ok (.lstore_n 2, 1) := by decide +kernel
theorem dX12_byCube_8 : decode cX12_byCube 8 = .ok (.lconst 0, 1) := by decide +kernel
theorem dX12_byCube_9 : decode cX12_byCube 9 = .ok (.lstore 4, 2) := by decide +kernel
theorem dX12_byCube_11 : decode cX12_byCube 11 = .ok (.ldc2_w 316, 3) := by decide +kernel
theorem dX12_byCube_14 : decode cX12_byCube 14 = .ok (.lload 4, 2) := by decide +kernel
theorem dX12_byCube_16 : decode cX12_byCube 16 = .ok (.lmul, 1) := by decide +kernel
theorem dX12_byCube_17 : decode cX12_byCube 17 = .ok (.lload 4, 2) := by decide +kernel
theorem dX12_byCube_19 : decode cX12_byCube 19 = .ok (.lmul, 1) := by decide +kernel
theorem dX12_byCube_20 : decode cX12_byCube 20 = .ok (.lload 4, 2) := by decide +kernel
theorem dX12_byCube_22 : decode cX12_byCube 22 = .ok (.lmul, 1) := by decide +kernel
theorem dX12_byCube_23 : decode cX12_byCube 23 = .ok (.ldc2_w 318, 3) := by decide +kernel
theorem dX12_byCube_26 : decode cX12_byCube 26 = .ok (.ldiv, 1) := by decide +kernel
theorem dX12_byCube_27 : decode cX12_byCube 27 = .ok (.ldc2_w 320, 3) := by decide +kernel
theorem dX12_byCube_30 : decode cX12_byCube 30 = .ok (.lload_n 2, 1) := by decide +kernel
theorem dX12_byCube_31 : decode cX12_byCube 31 = .ok (.lmul, 1) := by decide +kernel
theorem dX12_byCube_32 : decode cX12_byCube 32 = .ok (.ldc2_w 322, 3) := by decide +kernel
theorem dX12_byCube_35 : decode cX12_byCube 35 = .ok (.ldiv, 1) := by decide +kernel
theorem dX12_byCube_36 : decode cX12_byCube 36 = .ok (.lcmp, 1) := by decide +kernel
theorem dX12_byCube_37 : decode cX12_byCube 37 = .ok (.ifCond .ge 12, 3) := by decide +kernel
theorem dX12_byCube_40 : decode cX12_byCube 40 = .ok (.lload 4, 2) := by decide +kernel
theorem dX12_byCube_42 : decode cX12_byCube 42 = .ok (.lconst 1, 1) := by decide +kernel
theorem dX12_byCube_43 : decode cX12_byCube 43 = .ok (.ladd, 1) := by decide +kernel
theorem dX12_byCube_44 : decode cX12_byCube 44 = .ok (.lstore 4, 2) := by decide +kernel
theorem dX12_byCube_46 : decode cX12_byCube 46 = .ok (.goto (-35), 3) := by decide +kernel
theorem dX12_byCube_49 : decode cX12_byCube 49 = .ok (.aload_n 0, 1) := by decide +kernel
theorem dX12_byCube_50 : decode cX12_byCube 50 = .ok (.getfield 246, 3) := by decide +kernel
theorem dX12_byCube_53 : decode cX12_byCube 53 = .ok (.aload_n 0, 1) := by decide +kernel
theorem dX12_byCube_54 : decode cX12_byCube 54 = .ok (.getfield 214, 3) := by decide +kernel
theorem dX12_byCube_57 : decode cX12_byCube 57 = .ok (.iload_n 1, 1) := by decide +kernel
theorem dX12_byCube_58 : decode cX12_byCube 58 = .ok (.iaload, 1) := by decide +kernel
theorem dX12_byCube_59 : decode cX12_byCube 59 = .ok (.isub, 1) := by decide +kernel
theorem dX12_byCube_60 : decode cX12_byCube 60 = .ok (.i2l, 1) := by decide +kernel
theorem dX12_byCube_61 : decode cX12_byCube 61 = .ok (.lload 4, 2) := by decide +kernel
theorem dX12_byCube_63 : decode cX12_byCube 63 = .ok (.lsub, 1) := by decide +kernel
theorem dX12_byCube_64 : decode cX12_byCube 64 = .ok (.lstore 6, 2) := by decide +kernel
theorem dX12_byCube_66 : decode cX12_byCube 66 = .ok (.lload_n 2, 1) := by decide +kernel
theorem dX12_byCube_67 : decode cX12_byCube 67 = .ok (.ldc2_w 316, 3) := by decide +kernel
theorem dX12_byCube_70 : decode cX12_byCube 70 = .ok (.lload 6, 2) := by decide +kernel
theorem dX12_byCube_72 : decode cX12_byCube 72 = .ok (.lmul, 1) := by decide +kernel
theorem dX12_byCube_73 : decode cX12_byCube 73 = .ok (.lload 6, 2) := by decide +kernel
theorem dX12_byCube_75 : decode cX12_byCube 75 = .ok (.lmul, 1) := by decide +kernel
theorem dX12_byCube_76 : decode cX12_byCube 76 = .ok (.lload 6, 2) := by decide +kernel
