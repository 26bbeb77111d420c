theorem dX3_accessRefusal_0 : decode cX3_accessRefusal 0 = .ok (.aload_n 1, 1) := by decide +kernel
theorem dX3_accessRefusal_1 : decode cX3_accessRefusal 1 = .ok (.getfield 83, 3) := by decide +kernel
theorem dX3_accessRefusal_4 : decode cX3_accessRefusal 4 = .ok (.ifCond .eq 6, 3) := by decide +kernel
theorem dX3_accessRefusal_7 : decode cX3_accessRefusal 7 = .ok (.bipush (-3), 2) := by decide +kernel
theorem dX3_accessRefusal_9 : decode cX3_accessRefusal 9 = .ok (.ireturn, 1) := by decide +kernel
theorem dX3_accessRefusal_10 : decode cX3_accessRefusal 10 = .ok (.aload_n 0, 1) := by decide +kernel
theorem dX3_accessRefusal_11 : decode cX3_accessRefusal 11 = .ok (.aload_n 2, 1) := by decide +kernel
theorem dX3_accessRefusal_12 : decode cX3_accessRefusal 12 = .ok (.invokevirtual 104, 3) := by decide +kernel
theorem dX3_accessRefusal_15 : decode cX3_accessRefusal 15 = .ok (.istore 4, 2) := by decide +kernel
theorem dX3_accessRefusal_17 : decode cX3_accessRefusal 17 = .ok (.iload 4, 2) := by decide +kernel
theorem dX3_accessRefusal_19 : decode cX3_accessRefusal 19 = .ok (.bipush (-9), 2) := by decide +kernel
theorem dX3_accessRefusal_21 : decode cX3_accessRefusal 21 = .ok (.if_icmp .ne 6, 3) := by decide +kernel
theorem dX3_accessRefusal_24 : decode cX3_accessRefusal 24 = .ok (.bipush (-5), 2) := by decide +kernel
theorem dX3_accessRefusal_26 : decode cX3_accessRefusal 26 = .ok (.ireturn, 1) := by decide +kernel
theorem dX3_accessRefusal_27 : decode cX3_accessRefusal 27 = .ok (.aload_n 0, 1) := by decide +kernel
theorem dX3_accessRefusal_28 : decode cX3_accessRefusal 28 = .ok (.aload_n 1, 1) := by decide +kernel
theorem dX3_accessRefusal_29 : decode cX3_accessRefusal 29 = .ok (.getfield 86, 3) := by decide +kernel
theorem dX3_accessRefusal_32 : decode cX3_accessRefusal 32 = .ok (.invokevirtual 65, 3) := by decide +kernel
theorem dX3_accessRefusal_35 : decode cX3_accessRefusal 35 = .ok (.ifCond .eq 12, 3) := by decide +kernel
theorem dX3_accessRefusal_38 : decode cX3_accessRefusal 38 = .ok (.aload_n 0, 1) := by decide +kernel
theorem dX3_accessRefusal_39 : decode cX3_accessRefusal 39 = .ok (.iload 4, 2) := by decide +kernel
theorem dX3_accessRefusal_41 : decode cX3_accessRefusal 41 = .ok (.invokevirtual 65, 3) := by decide +kernel
theorem dX3_accessRefusal_44 : decode cX3_accessRefusal 44 = .ok (.ifCond .ne 6, 3) := by decide +kernel
theorem dX3_accessRefusal_47 : decode cX3_accessRefusal 47 = .ok (.bipush (-6), 2) := by decide +kernel
theorem dX3_accessRefusal_49 : decode cX3_accessRefusal 49 = .ok (.ireturn, 1) := by decide +kernel
theorem dX3_accessRefusal_50 : decode cX3_accessRefusal 50 = .ok (.aload_n 1, 1) := by decide +kernel
theorem dX3_accessRefusal_51 : decode cX3_accessRefusal 51 = .ok (.aload_n 2, 1) := by decide +kernel
theorem dX3_accessRefusal_52 : decode cX3_accessRefusal 52 = .ok (.iload_n 3, 1) := by decide +kernel
theorem dX3_accessRefusal_53 : decode cX3_accessRefusal 53 = .ok (.invokevirtual 263, 3) := by decide +kernel
theorem dX3_accessRefusal_56 : decode cX3_accessRefusal 56 = .ok (.ifnull 5, 3) := by decide +kernel
theorem dX3_accessRefusal_59 : decode cX3_accessRefusal 59 = .ok (.iconst 0, 1) := by decide +kernel
theorem dX3_accessRefusal_60 : decode cX3_accessRefusal 60 = .ok (.ireturn, 1) := by decide +kernel
theorem dX3_accessRefusal_61 : decode cX3_accessRefusal 61 = .ok (.aload_n 2, 1) := by decide +kernel
theorem dX3_accessRefusal_62 : decode cX3_accessRefusal 62 = .ok (.getfield 149, 3) := by decide +kernel
theorem dX3_accessRefusal_65 : decode cX3_accessRefusal 65 = .ok (.iload_n 3, 1) := by decide +kernel
theorem dX3_accessRefusal_66 : decode cX3_accessRefusal 66 = .ok (.iaload, 1) := by decide +kernel
theorem dX3_accessRefusal_67 : decode cX3_accessRefusal 67 = .ok (.bipush (-9), 2) := by decide +kernel
theorem dX3_accessRefusal_69 : decode cX3_accessRefusal 69 = .ok (.if_icmp .eq 6, 3) := by decide +kernel
theorem dX3_accessRefusal_72 : decode cX3_accessRefusal 72 = .ok (.bipush (-6), 2) := by decide +kernel
theorem dX3_accessRefusal_74 : decode cX3_accessRefusal 74 = .ok (.ireturn, 1) := by decide +kernel
theorem dX3_accessRefusal_75 : decode cX3_accessRefusal 75 = .ok (.aload_n 1, 1) := by decide +kernel
theorem dX3_accessRefusal_76 : decode cX3_accessRefusal 76 = .ok (.getfield 205, 3) := by decide +kernel
theorem dX3_accessRefusal_79 : decode cX3_accessRefusal 79 = .ok (.invokevirtual 46, 3) := by decide +kernel
theorem dX3_accessRefusal_82 : decode cX3_accessRefusal 82 = .ok (.bipush 8, 2) := by decide +kernel
theorem dX3_accessRefusal_84 : decode cX3_accessRefusal 84 = .ok (.if_icmp .lt 8, 3) := by decide +kernel
theorem dX3_accessRefusal_87 : decode cX3_accessRefusal 87 = .ok (.bipush (-4), 2) := by decide +kernel
theorem dX3_accessRefusal_89 : decode cX3_accessRefusal 89 = .ok (.goto 4, 3) := by decide +kernel
theorem dX3_accessRefusal_92 : decode cX3_accessRefusal 92 = .ok (.iconst 0, 1) := by decide +kernel
theorem dX3_accessRefusal_93 : decode cX3_accessRefusal 93 = .ok (.ireturn, 1) := by decide +kernel
theorem dX3_itemFor_0 : decode cX3_itemFor 0 = .ok (.aload_n 1, 1) := by decide +kernel
theorem dX3_itemFor_1 : decode cX3_itemFor 1 = .ok (.aload_n 2, 1) := by decide +kernel
theorem dX3_itemFor_2 : decode cX3_itemFor 2 = .ok (.iload_n 3, 1) := by decide +kernel
theorem dX3_itemFor_3 : decode cX3_itemFor 3 = .ok (.invokevirtual 263, 3) := by decide +kernel
theorem dX3_itemFor_6 : decode cX3_itemFor 6 = .ok (.astore 4, 2) := by decide +kernel
theorem dX3_itemFor_8 : decode cX3_itemFor 8 = .ok (.aload 4, 2) := by decide +kernel
theorem dX3_itemFor_10 : decode cX3_itemFor 10 = .ok (.ifnull 6, 3) := by decide +kernel
theorem dX3_itemFor_13 : decode cX3_itemFor 13 = .ok (.aload 4, 2) := by decide +kernel
theorem dX3_itemFor_15 : decode cX3_itemFor 15 = .ok (.areturn, 1) := by decide +kernel
theorem dX3_itemFor_16 : decode cX3_itemFor 16 = .ok (.aload_n 0, 1) := by decide +kernel
theorem dX3_itemFor_17 : decode cX3_itemFor 17 = .ok (.aload_n 2, 1) := by decide +kernel
theorem dX3_itemFor_18 : decode cX3_itemFor 18 = .ok (.invokevirtual 104, 3) := by decide +kernel
theorem dX3_itemFor_21 : decode cX3_itemFor 21 = .ok (.iload_n 3, 1) := by decide +kernel
theorem dX3_itemFor_22 : decode cX3_itemFor 22 = .ok (.invokestatic 122, 3) := by decide +kernel
theorem dX3_itemFor_25 : decode cX3_itemFor 25 = .ok (.istore 5, 2) := by decide +kernel
theorem dX3_itemFor_27 : decode cX3_itemFor 27 = .ok (.new 173, 3) := by decide +kernel
theorem dX3_itemFor_30 : decode cX3_itemFor 30 = .ok (.dup, 1) := by decide +kernel
theorem dX3_itemFor_31 : decode cX3_itemFor 31 = .ok (.aload_n 2, 1) := by decide +kernel
theorem dX3_itemFor_32 : decode cX3_itemFor 32 = .ok (.iload_n 3, 1) := by decide +kernel
theorem dX3_itemFor_33 : decode cX3_itemFor 33 = .ok (.aload_n 2, 1) := by decide +kernel
theorem dX3_itemFor_34 : decode cX3_itemFor 34 = .ok (.getfield 126, 3) := by decide +kernel
theorem dX3_itemFor_37 : decode cX3_itemFor 37 = .ok (.iload 5, 2) := by decide +kernel
theorem dX3_itemFor_39 : decode cX3_itemFor 39 = .ok (.iaload, 1) := by decide +kernel
theorem dX3_itemFor_40 : decode cX3_itemFor 40 = .ok (.aload_n 2, 1) := by decide +kernel
theorem dX3_itemFor_41 : decode cX3_itemFor 41 = .ok (.getfield 129, 3) := by decide +kernel
theorem dX3_itemFor_44 : decode cX3_itemFor 44 = .ok (.iload 5, 2) := by decide +kernel
theorem dX3_itemFor_46 : decode cX3_itemFor 46 = .ok (.iaload, 1) := by decide +kernel
theorem dX3_itemFor_47 : decode cX3_itemFor 47 = .ok (.invokespecial 270, 3) := by decide +kernel
theorem dX3_itemFor_50 : decode cX3_itemFor 50 = .ok (.astore 6, 2) := by decide +kernel
theorem dX3_itemFor_52 : decode cX3_itemFor 52 = .ok (.aload_n 1, 1) := by decide +kernel
theorem dX3_itemFor_53 : decode cX3_itemFor 53 = .ok (.getfield 205, 3) := by decide +kernel
theorem dX3_itemFor_56 : decode cX3_itemFor 56 = .ok (.aload 6, 2) := by decide +kernel
theorem dX3_itemFor_58 : decode cX3_itemFor 58 = .ok (.invokevirtual 58, 3) := by decide +kernel
theorem dX3_itemFor_61 : decode cX3_itemFor 61 = .ok (.pop, 1) := by decide +kernel
theorem dX3_itemFor_62 : decode cX3_itemFor 62 = .ok (.aload 6, 2) := by decide +kernel
theorem dX3_itemFor_64 : decode cX3_itemFor 64 = .ok (.areturn, 1) := by decide +kernel
theorem dX3_endingRefusal_0 : decode cX3_endingRefusal 0 = .ok (.aload_n 1, 1) := by decide +kernel
theorem dX3_endingRefusal_1 : decode cX3_endingRefusal 1 = .ok (.getfield 83, 3) := by decide +kernel
theorem dX3_endingRefusal_4 : decode cX3_endingRefusal 4 = .ok (.ifCond .eq 6, 3) := by decide +kernel
theorem dX3_endingRefusal_7 : decode cX3_endingRefusal 7 = .ok (.bipush (-3), 2) := by decide +kernel
theorem dX3_endingRefusal_9 : decode cX3_endingRefusal 9 = .ok (.ireturn, 1) := by decide +kernel
theorem dX3_endingRefusal_10 : decode cX3_endingRefusal 10 = .ok (.aload_n 0, 1) := by decide +kernel
theorem dX3_endingRefusal_11 : decode cX3_endingRefusal 11 = .ok (.aload_n 1, 1) := by decide +kernel
theorem dX3_endingRefusal_12 : decode cX3_endingRefusal 12 = .ok (.getfield 86, 3) := by decide +kernel
theorem dX3_endingRefusal_15 : decode cX3_endingRefusal 15 = .ok (.invokevirtual 65, 3) := by decide +kernel
theorem dX3_endingRefusal_18 : decode cX3_endingRefusal 18 = .ok (.ifCond .eq 7, 3) := by decide +kernel
theorem dX3_endingRefusal_21 : decode cX3_endingRefusal 21 = .ok (.iconst 0, 1) := by decide +kernel
theorem dX3_endingRefusal_22 : decode cX3_endingRefusal 22 = .ok (.goto 5, 3) := by decide +kernel
theorem dX3_endingRefusal_25 : decode cX3_endingRefusal 25 = .ok (.bipush (-6), 2) := by decide +kernel
theorem dX3_endingRefusal_27 : decode cX3_endingRefusal 27 = .ok (.ireturn, 1) := by decide +kernel
theorem dX3_tryAct_0 : decode cX3_tryAct 0 = .ok (.aload_n 1, 1) := by decide +kernel
theorem dX3_tryAct_1 : decode cX3_tryAct 1 = .ok (.aload_n 1, 1) := by decide +kernel
theorem dX3_tryAct_2 : decode cX3_tryAct 2 = .ok (.getfield 273, 3) := by decide +kernel
theorem dX3_tryAct_5 : decode cX3_tryAct 5 = .ok (.bipush 6, 2) := by decide +kernel
theorem dX3_tryAct_7 : decode cX3_tryAct 7 = .ok (.idiv, 1) := by decide +kernel
theorem dX3_tryAct_8 : decode cX3_tryAct 8 = .ok (.invokevirtual 214, 3) := by decide +kernel
theorem dX3_tryAct_11 : decode cX3_tryAct 11 = .ok (.astore_n 2, 1) := by decide +kernel
theorem dX3_tryAct_12 : decode cX3_tryAct 12 = .ok (.aload_n 1, 1) := by decide +kernel
theorem dX3_tryAct_13 : decode cX3_tryAct 13 = .ok (.invokevirtual 201, 3) := by decide +kernel
theorem dX3_tryAct_16 : decode cX3_tryAct 16 = .ok (.ifCond .eq 7, 3) := by decide +kernel
theorem dX3_tryAct_19 : decode cX3_tryAct 19 = .ok (.aload_n 2, 1) := by decide +kernel
theorem dX3_tryAct_20 : decode cX3_tryAct 20 = .ok (.ifnonnull 6, 3) := by decide +kernel
theorem dX3_tryAct_23 : decode cX3_tryAct 23 = .ok (.bipush (-3), 2) := by decide +kernel
theorem dX3_tryAct_25 : decode cX3_tryAct 25 = .ok (.ireturn, 1) := by decide +kernel
theorem dX3_tryAct_26 : decode cX3_tryAct 26 = .ok (.aload_n 0, 1) := by decide +kernel
theorem dX3_tryAct_27 : decode cX3_tryAct 27 = .ok (.aload_n 1, 1) := by decide +kernel
theorem dX3_tryAct_28 : decode cX3_tryAct 28 = .ok (.aload_n 2, 1) := by decide +kernel
theorem dX3_tryAct_29 : decode cX3_tryAct 29 = .ok (.invokevirtual 276, 3) := by decide +kernel
theorem dX3_tryAct_32 : decode cX3_tryAct 32 = .ok (.istore_n 3, 1) := by decide +kernel
theorem dX3_tryAct_33 : decode cX3_tryAct 33 = .ok (.iload_n 3, 1) := by decide +kernel
theorem dX3_tryAct_34 : decode cX3_tryAct 34 = .ok (.bipush (-9), 2) := by decide +kernel
theorem dX3_tryAct_36 : decode cX3_tryAct 36 = .ok (.if_icmp .ne 6, 3) := by decide +kernel
theorem dX3_tryAct_39 : decode cX3_tryAct 39 = .ok (.bipush (-5), 2) := by decide +kernel
theorem dX3_tryAct_41 : decode cX3_tryAct 41 = .ok (.ireturn, 1) := by decide +kernel
theorem dX3_tryAct_42 : decode cX3_tryAct 42 = .ok (.aload_n 0, 1) := by decide +kernel
theorem dX3_tryAct_43 : decode cX3_tryAct 43 = .ok (.aload_n 1, 1) := by decide +kernel
theorem dX3_tryAct_44 : decode cX3_tryAct 44 = .ok (.getfield 86, 3) := by decide +kernel
theorem dX3_tryAct_47 : decode cX3_tryAct 47 = .ok (.invokevirtual 65, 3) := by decide +kernel
theorem dX3_tryAct_50 : decode cX3_tryAct 50 = .ok (.ifCond .eq 11, 3) := by decide +kernel
theorem dX3_tryAct_53 : decode cX3_tryAct 53 = .ok (.aload_n 0, 1) := by decide +kernel
theorem dX3_tryAct_54 : decode cX3_tryAct 54 = .ok (.iload_n 3, 1) := by decide +kernel
theorem dX3_tryAct_55 : decode cX3_tryAct 55 = .ok (.invokevirtual 65, 3) := by decide +kernel
theorem dX3_tryAct_58 : decode cX3_tryAct 58 = .ok (.ifCond .ne 6, 3) := by decide +kernel
theorem dX3_tryAct_61 : decode cX3_tryAct 61 = .ok (.bipush (-6), 2) := by decide +kernel
theorem dX3_tryAct_63 : decode cX3_tryAct 63 = .ok (.ireturn, 1) := by decide +kernel
theorem dX3_tryAct_64 : decode cX3_tryAct 64 = .ok (.aload_n 1, 1) := by decide +kernel
theorem dX3_tryAct_65 : decode cX3_tryAct 65 = .ok (.dup, 1) := by decide +kernel
theorem dX3_tryAct_66 : decode cX3_tryAct 66 = .ok (.getfield 273, 3) := by decide +kernel
theorem dX3_tryAct_69 : decode cX3_tryAct 69 = .ok (.iconst 1, 1) := by decide +kernel
theorem dX3_tryAct_70 : decode cX3_tryAct 70 = .ok (.iadd, 1) := by decide +kernel
theorem dX3_tryAct_71 : decode cX3_tryAct 71 = .ok (.putfield 273, 3) := by decide +kernel
theorem dX3_tryAct_74 : decode cX3_tryAct 74 = .ok (.aload_n 0, 1) := by decide +kernel
theorem dX3_tryAct_75 : decode cX3_tryAct 75 = .ok (.aload_n 1, 1) := by decide +kernel
theorem dX3_tryAct_76 : decode cX3_tryAct 76 = .ok (.aload_n 2, 1) := by decide +kernel
theorem dX3_tryAct_77 : decode cX3_tryAct 77 = .ok (.iload_n 3, 1) := by decide +kernel
theorem dX3_tryAct_78 : decode cX3_tryAct 78 = .ok (.invokevirtual 280, 3) := by decide +kernel
theorem dX3_tryAct_81 : decode cX3_tryAct 81 = .ok (.aload_n 0, 1) := by decide +kernel
theorem dX3_tryAct_82 : decode cX3_tryAct 82 = .ok (.aload_n 1, 1) := by decide +kernel
theorem dX3_tryAct_83 : decode cX3_tryAct 83 = .ok (.invokevirtual 194, 3) := by decide +kernel
theorem dX3_tryAct_86 : decode cX3_tryAct 86 = .ok (.aload_n 1, 1) := by decide +kernel
theorem dX3_tryAct_87 : decode cX3_tryAct 87 = .ok (.getfield 83, 3) := by decide +kernel
theorem dX3_tryAct_90 : decode cX3_tryAct 90 = .ok (.ireturn, 1) := by decide +kernel
theorem dX3_machineOfAct_0 : decode cX3_machineOfAct 0 = .ok (.aload_n 0, 1) := by decide +kernel
theorem dX3_machineOfAct_1 : decode cX3_machineOfAct 1 = .ok (.aload_n 2, 1) := by decide +kernel
theorem dX3_machineOfAct_2 : decode cX3_machineOfAct 2 = .ok (.getfield 218, 3) := by decide +kernel
theorem dX3_machineOfAct_5 : decode cX3_machineOfAct 5 = .ok (.invokevirtual 284, 3) := by decide +kernel
theorem dX3_machineOfAct_8 : decode cX3_machineOfAct 8 = .ok (.ifCond .eq 6, 3) := by decide +kernel
theorem dX3_machineOfAct_11 : decode cX3_machineOfAct 11 = .ok (.bipush (-9), 2) := by decide +kernel
theorem dX3_machineOfAct_13 : decode cX3_machineOfAct 13 = .ok (.ireturn, 1) := by decide +kernel
theorem dX3_machineOfAct_14 : decode cX3_machineOfAct 14 = .ok (.aload_n 1, 1) := by decide +kernel
theorem dX3_machineOfAct_15 : decode cX3_machineOfAct 15 = .ok (.getfield 83, 3) := by decide +kernel
theorem dX3_machineOfAct_18 : decode cX3_machineOfAct 18 = .ok (.iconst 3, 1) := by decide +kernel
theorem dX3_machineOfAct_19 : decode cX3_machineOfAct 19 = .ok (.if_icmp .eq 11, 3) := by decide +kernel
theorem dX3_machineOfAct_22 : decode cX3_machineOfAct 22 = .ok (.aload_n 1, 1) := by decide +kernel
theorem dX3_machineOfAct_23 : decode cX3_machineOfAct 23 = .ok (.getfield 83, 3) := by decide +kernel
theorem dX3_machineOfAct_26 : decode cX3_machineOfAct 26 = .ok (.iconst 5, 1) := by decide +kernel
theorem dX3_machineOfAct_27 : decode cX3_machineOfAct 27 = .ok (.if_icmp .ne 7, 3) := by decide +kernel
theorem dX3_machineOfAct_30 : decode cX3_machineOfAct 30 = .ok (.iconst 1, 1) := by decide +kernel
theorem dX3_machineOfAct_31 : decode cX3_machineOfAct 31 = .ok (.goto 4, 3) := by decide +kernel
theorem dX3_machineOfAct_34 : decode cX3_machineOfAct 34 = .ok (.iconst 0, 1) := by decide +kernel
theorem dX3_machineOfAct_35 : decode cX3_machineOfAct 35 = .ok (.istore_n 3, 1) := by decide +kernel
theorem dX3_machineOfAct_36 : decode cX3_machineOfAct 36 = .ok (.iload_n 3, 1) := by decide +kernel
theorem dX3_machineOfAct_37 : decode cX3_machineOfAct 37 = .ok (.ifCond .eq 18, 3) := by decide +kernel
theorem dX3_machineOfAct_40 : decode cX3_machineOfAct 40 = .ok (.aload_n 2, 1) := by decide +kernel
theorem dX3_machineOfAct_41 : decode cX3_machineOfAct 41 = .ok (.getfield 218, 3) := by decide +kernel
theorem dX3_machineOfAct_44 : decode cX3_machineOfAct 44 = .ok (.getfield 253, 3) := by decide +kernel
theorem dX3_machineOfAct_47 : decode cX3_machineOfAct 47 = .ok (.aload_n 1, 1) := by decide +kernel
theorem dX3_machineOfAct_48 : decode cX3_machineOfAct 48 = .ok (.invokevirtual 287, 3) := by decide +kernel
theorem dX3_machineOfAct_51 : decode cX3_machineOfAct 51 = .ok (.iaload, 1) := by decide +kernel
theorem dX3_machineOfAct_52 : decode cX3_machineOfAct 52 = .ok (.goto 11, 3) := by decide +kernel
theorem dX3_machineOfAct_55 : decode cX3_machineOfAct 55 = .ok (.aload_n 0, 1) := by decide +kernel
theorem dX3_machineOfAct_56 : decode cX3_machineOfAct 56 = .ok (.aload_n 2, 1) := by decide +kernel
theorem dX3_machineOfAct_57 : decode cX3_machineOfAct 57 = .ok (.getfield 218, 3) := by decide +kernel
theorem dX3_machineOfAct_60 : decode cX3_machineOfAct 60 = .ok (.invokevirtual 104, 3) := by decide +kernel
theorem dX3_machineOfAct_63 : decode cX3_machineOfAct 63 = .ok (.ireturn, 1) := by decide +kernel
theorem dX3_act_0 : decode cX3_act 0 = .ok (.iload_n 3, 1) := by decide +kernel
theorem dX3_act_1 : decode cX3_act 1 = .ok (.aload_n 2, 1) := by decide +kernel
theorem dX3_act_2 : decode cX3_act 2 = .ok (.getfield 222, 3) := by decide +kernel
theorem dX3_act_5 : decode cX3_act 5 = .ok (.invokestatic 122, 3) := by decide +kernel
theorem dX3_act_8 : decode cX3_act 8 = .ok (.istore 4, 2) := by decide +kernel
theorem dX3_act_10 : decode cX3_act 10 = .ok (.aload_n 1, 1) := by decide +kernel
theorem dX3_act_11 : decode cX3_act 11 = .ok (.getfield 83, 3) := by decide +kernel
theorem dX3_act_14 : decode cX3_act 14 = .ok (.tableswitch 226 1 6 #[38, 75, 93, 109, 161, 209], 38) := by decide +kernel
theorem dX3_act_52 : decode cX3_act 52 = .ok (.aload_n 2, 1) := by decide +kernel
theorem dX3_act_53 : decode cX3_act 53 = .ok (.iload 4, 2) := by decide +kernel
theorem dX3_act_55 : decode cX3_act 55 = .ok (.invokestatic 290, 3) := by decide +kernel
theorem dX3_act_58 : decode cX3_act 58 = .ok (.ifCond .eq 12, 3) := by decide +kernel
theorem dX3_act_61 : decode cX3_act 61 = .ok (.aload_n 1, 1) := by decide +kernel
theorem dX3_act_62 : decode cX3_act 62 = .ok (.bipush 6, 2) := by decide +kernel
theorem dX3_act_64 : decode cX3_act 64 = .ok (.invokevirtual 89, 3) := by decide +kernel
theorem dX3_act_67 : decode cX3_act 67 = .ok (.goto 173, 3) := by decide +kernel
theorem dX3_act_70 : decode cX3_act 70 = .ok (.aload_n 2, 1) := by decide +kernel
theorem dX3_act_71 : decode cX3_act 71 = .ok (.getfield 218, 3) := by decide +kernel
theorem dX3_act_74 : decode cX3_act 74 = .ok (.getfield 149, 3) := by decide +kernel
theorem dX3_act_77 : decode cX3_act 77 = .ok (.aload_n 2, 1) := by decide +kernel
theorem dX3_act_78 : decode cX3_act 78 = .ok (.getfield 222, 3) := by decide +kernel
theorem dX3_act_81 : decode cX3_act 81 = .ok (.aload_n 1, 1) := by decide +kernel
theorem dX3_act_82 : decode cX3_act 82 = .ok (.getfield 159, 3) := by decide +kernel
theorem dX3_act_85 : decode cX3_act 85 = .ok (.iastore, 1) := by decide +kernel
theorem dX3_act_86 : decode cX3_act 86 = .ok (.goto 154, 3) := by decide +kernel
theorem dX3_act_89 : decode cX3_act 89 = .ok (.aload_n 2, 1) := by decide +kernel
theorem dX3_act_90 : decode cX3_act 90 = .ok (.iload 4, 2) := by decide +kernel
theorem dX3_act_92 : decode cX3_act 92 = .ok (.invokestatic 290, 3) := by decide +kernel
theorem dX3_act_95 : decode cX3_act 95 = .ok (.ifCond .eq 145, 3) := by decide +kernel
theorem dX3_act_98 : decode cX3_act 98 = .ok (.aload_n 1, 1) := by decide +kernel
theorem dX3_act_99 : decode cX3_act 99 = .ok (.bipush 6, 2) := by decide +kernel
theorem dX3_act_101 : decode cX3_act 101 = .ok (.invokevirtual 89, 3) := by decide +kernel
theorem dX3_act_104 : decode cX3_act 104 = .ok (.goto 136, 3) := by decide +kernel
theorem dX3_act_107 : decode cX3_act 107 = .ok (.aload_n 2, 1) := by decide +kernel
theorem dX3_act_108 : decode cX3_act 108 = .ok (.dup, 1) := by decide +kernel
theorem dX3_act_109 : decode cX3_act 109 = .ok (.getfield 267, 3) := by decide +kernel
theorem dX3_act_112 : decode cX3_act 112 = .ok (.iload_n 3, 1) := by decide +kernel
theorem dX3_act_113 : decode cX3_act 113 = .ok (.invokestatic 68, 3) := by decide +kernel
theorem dX3_act_116 : decode cX3_act 116 = .ok (.ior, 1) := by decide +kernel
theorem dX3_act_117 : decode cX3_act 117 = .ok (.putfield 267, 3) := by decide +kernel
theorem dX3_act_120 : decode cX3_act 120 = .ok (.goto 120, 3) := by decide +kernel
theorem dX3_act_123 : decode cX3_act 123 = .ok (.aload_n 2, 1) := by decide +kernel
theorem dX3_act_124 : decode cX3_act 124 = .ok (.getfield 218, 3) := by decide +kernel
theorem dX3_act_127 : decode cX3_act 127 = .ok (.iload 4, 2) := by decide +kernel
theorem dX3_act_129 : decode cX3_act 129 = .ok (.aload_n 2, 1) := by decide +kernel
theorem dX3_act_130 : decode cX3_act 130 = .ok (.getfield 178, 3) := by decide +kernel
theorem dX3_act_133 : decode cX3_act 133 = .ok (.aload_n 2, 1) := by decide +kernel
theorem dX3_act_134 : decode cX3_act 134 = .ok (.invokevirtual 294, 3) := by decide +kernel
theorem dX3_act_137 : decode cX3_act 137 = .ok (.invokevirtual 132, 3) := by decide +kernel
theorem dX3_act_140 : decode cX3_act 140 = .ok (.aload_n 2, 1) := by decide +kernel
theorem dX3_act_141 : decode cX3_act 141 = .ok (.getfield 218, 3) := by decide +kernel
theorem dX3_act_144 : decode cX3_act 144 = .ok (.getfield 149, 3) := by decide +kernel
theorem dX3_act_147 : decode cX3_act 147 = .ok (.aload_n 2, 1) := by decide +kernel
theorem dX3_act_148 : decode cX3_act 148 = .ok (.getfield 222, 3) := by decide +kernel
theorem dX3_act_151 : decode cX3_act 151 = .ok (.bipush (-9), 2) := by decide +kernel
theorem dX3_act_153 : decode cX3_act 153 = .ok (.iastore, 1) := by decide +kernel
theorem dX3_act_154 : decode cX3_act 154 = .ok (.aload_n 2, 1) := by decide +kernel
theorem dX3_act_155 : decode cX3_act 155 = .ok (.dup, 1) := by decide +kernel
theorem dX3_act_156 : decode cX3_act 156 = .ok (.getfield 297, 3) := by decide +kernel
theorem dX3_act_159 : decode cX3_act 159 = .ok (.iload_n 3, 1) := by decide +kernel
theorem dX3_act_160 : decode cX3_act 160 = .ok (.invokestatic 68, 3) := by decide +kernel
theorem dX3_act_163 : decode cX3_act 163 = .ok (.ior, 1) := by decide +kernel
theorem dX3_act_164 : decode cX3_act 164 = .ok (.putfield 297, 3) := by decide +kernel
theorem dX3_act_167 : decode cX3_act 167 = .ok (.aload_n 1, 1) := by decide +kernel
theorem dX3_act_168 : decode cX3_act 168 = .ok (.iconst 1, 1) := by decide +kernel
theorem dX3_act_169 : decode cX3_act 169 = .ok (.putfield 208, 3) := by decide +kernel
theorem dX3_act_172 : decode cX3_act 172 = .ok (.goto 68, 3) := by decide +kernel
theorem dX3_act_175 : decode cX3_act 175 = .ok (.aload_n 2, 1) := by decide +kernel
theorem dX3_act_176 : decode cX3_act 176 = .ok (.getfield 218, 3) := by decide +kernel
theorem dX3_act_179 : decode cX3_act 179 = .ok (.iload 4, 2) := by decide +kernel
theorem dX3_act_181 : decode cX3_act 181 = .ok (.aload_n 2, 1) := by decide +kernel
theorem dX3_act_182 : decode cX3_act 182 = .ok (.getfield 178, 3) := by decide +kernel
theorem dX3_act_185 : decode cX3_act 185 = .ok (.aload_n 2, 1) := by decide +kernel
theorem dX3_act_186 : decode cX3_act 186 = .ok (.invokevirtual 294, 3) := by decide +kernel
theorem dX3_act_189 : decode cX3_act 189 = .ok (.invokevirtual 300, 3) := by decide +kernel
theorem dX3_act_192 : decode cX3_act 192 = .ok (.aload_n 2, 1) := by decide +kernel
theorem dX3_act_193 : decode cX3_act 193 = .ok (.dup, 1) := by decide +kernel
theorem dX3_act_194 : decode cX3_act 194 = .ok (.getfield 267, 3) := by decide +kernel
theorem dX3_act_197 : decode cX3_act 197 = .ok (.iload_n 3, 1) := by decide +kernel
theorem dX3_act_198 : decode cX3_act 198 = .ok (.invokestatic 68, 3) := by decide +kernel
theorem dX3_act_201 : decode cX3_act 201 = .ok (.iconst (-1), 1) := by decide +kernel
theorem dX3_act_202 : decode cX3_act 202 = .ok (.ixor, 1) := by decide +kernel
theorem dX3_act_203 : decode cX3_act 203 = .ok (.iand, 1) := by decide +kernel
theorem dX3_act_204 : decode cX3_act 204 = .ok (.putfield 267, 3) := by decide +kernel
theorem dX3_act_207 : decode cX3_act 207 = .ok (.aload_n 2, 1) := by decide +kernel
theorem dX3_act_208 : decode cX3_act 208 = .ok (.dup, 1) := by decide +kernel
theorem dX3_act_209 : decode cX3_act 209 = .ok (.getfield 297, 3) := by decide +kernel
theorem dX3_act_212 : decode cX3_act 212 = .ok (.iload_n 3, 1) := by decide +kernel
theorem dX3_act_213 : decode cX3_act 213 = .ok (.invokestatic 68, 3) := by decide +kernel
theorem dX3_act_216 : decode cX3_act 216 = .ok (.ior, 1) := by decide +kernel
theorem dX3_act_217 : decode cX3_act 217 = .ok (.putfield 297, 3) := by decide +kernel
theorem dX3_act_220 : decode cX3_act 220 = .ok (.goto 20, 3) := by decide +kernel
theorem dX3_act_223 : decode cX3_act 223 = .ok (.aload_n 2, 1) := by decide +kernel
theorem dX3_act_224 : decode cX3_act 224 = .ok (.getfield 218, 3) := by decide +kernel
theorem dX3_act_227 : decode cX3_act 227 = .ok (.getfield 149, 3) := by decide +kernel
theorem dX3_act_230 : decode cX3_act 230 = .ok (.aload_n 2, 1) := by decide +kernel
theorem dX3_act_231 : decode cX3_act 231 = .ok (.getfield 222, 3) := by decide +kernel
theorem dX3_act_234 : decode cX3_act 234 = .ok (.bipush (-9), 2) := by decide +kernel
theorem dX3_act_236 : decode cX3_act 236 = .ok (.iastore, 1) := by decide +kernel
theorem dX3_act_237 : decode cX3_act 237 = .ok (.goto 3, 3) := by decide +kernel
theorem dX3_act_240 : decode cX3_act 240 = .ok (.return_, 1) := by decide +kernel
theorem dX3_isTakenOrChanged_0 : decode cX3_isTakenOrChanged 0 = .ok (.aload_n 0, 1) := by decide +kernel
theorem dX3_isTakenOrChanged_1 : decode cX3_isTakenOrChanged 1 = .ok (.getfield 218, 3) := by decide +kernel
theorem dX3_isTakenOrChanged_4 : decode cX3_isTakenOrChanged 4 = .ok (.getfield 149, 3) := by decide +kernel
theorem dX3_isTakenOrChanged_7 : decode cX3_isTakenOrChanged 7 = .ok (.aload_n 0, 1) := by decide +kernel
theorem dX3_isTakenOrChanged_8 : decode cX3_isTakenOrChanged 8 = .ok (.getfield 222, 3) := by decide +kernel
theorem dX3_isTakenOrChanged_11 : decode cX3_isTakenOrChanged 11 = .ok (.iaload, 1) := by decide +kernel
theorem dX3_isTakenOrChanged_12 : decode cX3_isTakenOrChanged 12 = .ok (.bipush (-9), 2) := by decide +kernel
theorem dX3_isTakenOrChanged_14 : decode cX3_isTakenOrChanged 14 = .ok (.if_icmp .ne 19, 3) := by decide +kernel
theorem dX3_isTakenOrChanged_17 : decode cX3_isTakenOrChanged 17 = .ok (.aload_n 0, 1) := by decide +kernel
theorem dX3_isTakenOrChanged_18 : decode cX3_isTakenOrChanged 18 = .ok (.getfield 218, 3) := by decide +kernel
theorem dX3_isTakenOrChanged_21 : decode cX3_isTakenOrChanged 21 = .ok (.getfield 129, 3) := by decide +kernel
theorem dX3_isTakenOrChanged_24 : decode cX3_isTakenOrChanged 24 = .ok (.iload_n 1, 1) := by decide +kernel
theorem dX3_isTakenOrChanged_25 : decode cX3_isTakenOrChanged 25 = .ok (.iaload, 1) := by decide +kernel
theorem dX3_isTakenOrChanged_26 : decode cX3_isTakenOrChanged 26 = .ok (.aload_n 0, 1) := by decide +kernel
theorem dX3_isTakenOrChanged_27 : decode cX3_isTakenOrChanged 27 = .ok (.getfield 223, 3) := by decide +kernel
theorem dX3_isTakenOrChanged_30 : decode cX3_isTakenOrChanged 30 = .ok (.if_icmp .eq 7, 3) := by decide +kernel
theorem dX3_isTakenOrChanged_33 : decode cX3_isTakenOrChanged 33 = .ok (.iconst 1, 1) := by decide +kernel
theorem dX3_isTakenOrChanged_34 : decode cX3_isTakenOrChanged 34 = .ok (.goto 4, 3) := by decide +kernel
theorem dX3_isTakenOrChanged_37 : decode cX3_isTakenOrChanged 37 = .ok (.iconst 0, 1) := by decide +kernel
theorem dX3_isTakenOrChanged_38 : decode cX3_isTakenOrChanged 38 = .ok (.ireturn, 1) := by decide +kernel
theorem dX3_passOver_0 : decode cX3_passOver 0 = .ok (.iconst 0, 1) := by decide +kernel
theorem dX3_passOver_1 : decode cX3_passOver 1 = .ok (.istore_n 2, 1) := by decide +kernel
theorem dX3_passOver_2 : decode cX3_passOver 2 = .ok (.iload_n 2, 1) := by decide +kernel
theorem dX3_passOver_3 : decode cX3_passOver 3 = .ok (.bipush 9, 2) := by decide +kernel
theorem dX3_passOver_5 : decode cX3_passOver 5 = .ok (.if_icmp .ge 45, 3) := by decide +kernel
theorem dX3_passOver_8 : decode cX3_passOver 8 = .ok (.aload_n 1, 1) := by decide +kernel
theorem dX3_passOver_9 : decode cX3_passOver 9 = .ok (.invokevirtual 201, 3) := by decide +kernel
theorem dX3_passOver_12 : decode cX3_passOver 12 = .ok (.ifCond .eq 38, 3) := by decide +kernel
theorem dX3_passOver_15 : decode cX3_passOver 15 = .ok (.aload_n 0, 1) := by decide +kernel
theorem dX3_passOver_16 : decode cX3_passOver 16 = .ok (.aload_n 1, 1) := by decide +kernel
theorem dX3_passOver_17 : decode cX3_passOver 17 = .ok (.invokevirtual 303, 3) := by decide +kernel
theorem dX3_passOver_20 : decode cX3_passOver 20 = .ok (.ifCond .ne 30, 3) := by decide +kernel
theorem dX3_passOver_23 : decode cX3_passOver 23 = .ok (.aload_n 1, 1) := by decide +kernel
theorem dX3_passOver_24 : decode cX3_passOver 24 = .ok (.getfield 83, 3) := by decide +kernel
theorem dX3_passOver_27 : decode cX3_passOver 27 = .ok (.iconst 1, 1) := by decide +kernel
theorem dX3_passOver_28 : decode cX3_passOver 28 = .ok (.if_icmp .ne 8, 3) := by decide +kernel
theorem dX3_passOver_31 : decode cX3_passOver 31 = .ok (.aload_n 0, 1) := by decide +kernel
theorem dX3_passOver_32 : decode cX3_passOver 32 = .ok (.aload_n 1, 1) := by decide +kernel
theorem dX3_passOver_33 : decode cX3_passOver 33 = .ok (.invokevirtual 306, 3) := by decide +kernel
theorem dX3_passOver_36 : decode cX3_passOver 36 = .ok (.aload_n 1, 1) := by decide +kernel
theorem dX3_passOver_37 : decode cX3_passOver 37 = .ok (.aload_n 1, 1) := by decide +kernel
theorem dX3_passOver_38 : decode cX3_passOver 38 = .ok (.invokestatic 309, 3) := by decide +kernel
theorem dX3_passOver_41 : decode cX3_passOver 41 = .ok (.invokevirtual 89, 3) := by decide +kernel
theorem dX3_passOver_44 : decode cX3_passOver 44 = .ok (.iinc 2 1, 3) := by decide +kernel
theorem dX3_passOver_47 : decode cX3_passOver 47 = .ok (.goto (-45), 3) := by decide +kernel
theorem dX3_passOver_50 : decode cX3_passOver 50 = .ok (.return_, 1) := by decide +kernel
theorem dX3_tellPlace_0 : decode cX3_tellPlace 0 = .ok (.aload_n 0, 1) := by decide +kernel
theorem dX3_tellPlace_1 : decode cX3_tellPlace 1 = .ok (.getfield 19, 3) := by decide +kernel
theorem dX3_tellPlace_4 : decode cX3_tellPlace 4 = .ok (.aload_n 1, 1) := by decide +kernel
theorem dX3_tellPlace_5 : decode cX3_tellPlace 5 = .ok (.invokevirtual 58, 3) := by decide +kernel
theorem dX3_tellPlace_8 : decode cX3_tellPlace 8 = .ok (.pop, 1) := by decide +kernel
theorem dX3_tellPlace_9 : decode cX3_tellPlace 9 = .ok (.aload_n 1, 1) := by decide +kernel
theorem dX3_tellPlace_10 : decode cX3_tellPlace 10 = .ok (.aload_n 0, 1) := by decide +kernel
theorem dX3_tellPlace_11 : decode cX3_tellPlace 11 = .ok (.getfield 19, 3) := by decide +kernel
theorem dX3_tellPlace_14 : decode cX3_tellPlace 14 = .ok (.invokevirtual 46, 3) := by decide +kernel
theorem dX3_tellPlace_17 : decode cX3_tellPlace 17 = .ok (.putfield 211, 3) := by decide +kernel
theorem dX3_tellPlace_20 : decode cX3_tellPlace 20 = .ok (.return_, 1) := by decide +kernel
theorem dX3_phaseBehind_0 : decode cX3_phaseBehind 0 = .ok (.aload_n 0, 1) := by decide +kernel
theorem dX3_phaseBehind_1 : decode cX3_phaseBehind 1 = .ok (.getfield 83, 3) := by decide +kernel
theorem dX3_phaseBehind_4 : decode cX3_phaseBehind 4 = .ok (.tableswitch 59 1 5 #[36, 38, 52, 54, 56], 36) := by decide +kernel
theorem dX3_phaseBehind_40 : decode cX3_phaseBehind 40 = .ok (.iconst 2, 1) := by decide +kernel
theorem dX3_phaseBehind_41 : decode cX3_phaseBehind 41 = .ok (.ireturn, 1) := by decide +kernel
theorem dX3_phaseBehind_42 : decode cX3_phaseBehind 42 = .ok (.aload_n 0, 1) := by decide +kernel
theorem dX3_phaseBehind_43 : decode cX3_phaseBehind 43 = .ok (.invokevirtual 187, 3) := by decide +kernel
theorem dX3_phaseBehind_46 : decode cX3_phaseBehind 46 = .ok (.ifCond .ne 8, 3) := by decide +kernel
theorem dX3_phaseBehind_49 : decode cX3_phaseBehind 49 = .ok (.bipush 7, 2) := by decide +kernel
theorem dX3_phaseBehind_51 : decode cX3_phaseBehind 51 = .ok (.goto 4, 3) := by decide +kernel
theorem dX3_phaseBehind_54 : decode cX3_phaseBehind 54 = .ok (.iconst 3, 1) := by decide +kernel
theorem dX3_phaseBehind_55 : decode cX3_phaseBehind 55 = .ok (.ireturn, 1) := by decide +kernel
theorem dX3_phaseBehind_56 : decode cX3_phaseBehind 56 = .ok (.iconst 4, 1) := by decide +kernel
theorem dX3_phaseBehind_57 : decode cX3_phaseBehind 57 = .ok (.ireturn, 1) := by decide +kernel
theorem dX3_phaseBehind_58 : decode cX3_phaseBehind 58 = .ok (.iconst 5, 1) := by decide +kernel
theorem dX3_phaseBehind_59 : decode cX3_phaseBehind 59 = .ok (.ireturn, 1) := by decide +kernel
theorem dX3_phaseBehind_60 : decode cX3_phaseBehind 60 = .ok (.bipush 7, 2) := by decide +kernel
theorem dX3_phaseBehind_62 : decode cX3_phaseBehind 62 = .ok (.ireturn, 1) := by decide +kernel
theorem dX3_phaseBehind_63 : decode cX3_phaseBehind 63 = .ok (.bipush 8, 2) := by decide +kernel
theorem dX3_phaseBehind_65 : decode cX3_phaseBehind 65 = .ok (.ireturn, 1) := by decide +kernel
theorem dX3_findNextAct_0 : decode cX3_findNextAct 0 = .ok (.aload_n 1, 1) := by decide +kernel
theorem dX3_findNextAct_1 : decode cX3_findNextAct 1 = .ok (.invokevirtual 312, 3) := by decide +kernel
theorem dX3_findNextAct_4 : decode cX3_findNextAct 4 = .ok (.istore_n 2, 1) := by decide +kernel
theorem dX3_findNextAct_5 : decode cX3_findNextAct 5 = .ok (.aload_n 1, 1) := by decide +kernel
theorem dX3_findNextAct_6 : decode cX3_findNextAct 6 = .ok (.getfield 273, 3) := by decide +kernel
theorem dX3_findNextAct_9 : decode cX3_findNextAct 9 = .ok (.iload_n 2, 1) := by decide +kernel
theorem dX3_findNextAct_10 : decode cX3_findNextAct 10 = .ok (.if_icmp .ge 47, 3) := by decide +kernel
theorem dX3_findNextAct_13 : decode cX3_findNextAct 13 = .ok (.aload_n 1, 1) := by decide +kernel
theorem dX3_findNextAct_14 : decode cX3_findNextAct 14 = .ok (.aload_n 1, 1) := by decide +kernel
theorem dX3_findNextAct_15 : decode cX3_findNextAct 15 = .ok (.getfield 273, 3) := by decide +kernel
theorem dX3_findNextAct_18 : decode cX3_findNextAct 18 = .ok (.bipush 6, 2) := by decide +kernel
theorem dX3_findNextAct_20 : decode cX3_findNextAct 20 = .ok (.idiv, 1) := by decide +kernel
theorem dX3_findNextAct_21 : decode cX3_findNextAct 21 = .ok (.invokevirtual 214, 3) := by decide +kernel
theorem dX3_findNextAct_24 : decode cX3_findNextAct 24 = .ok (.astore_n 3, 1) := by decide +kernel
theorem dX3_findNextAct_25 : decode cX3_findNextAct 25 = .ok (.aload_n 3, 1) := by decide +kernel
theorem dX3_findNextAct_26 : decode cX3_findNextAct 26 = .ok (.ifnull 18, 3) := by decide +kernel
theorem dX3_findNextAct_29 : decode cX3_findNextAct 29 = .ok (.aload_n 0, 1) := by decide +kernel
theorem dX3_findNextAct_30 : decode cX3_findNextAct 30 = .ok (.aload_n 1, 1) := by decide +kernel
theorem dX3_findNextAct_31 : decode cX3_findNextAct 31 = .ok (.aload_n 3, 1) := by decide +kernel
theorem dX3_findNextAct_32 : decode cX3_findNextAct 32 = .ok (.aload_n 1, 1) := by decide +kernel
theorem dX3_findNextAct_33 : decode cX3_findNextAct 33 = .ok (.invokevirtual 287, 3) := by decide +kernel
theorem dX3_findNextAct_36 : decode cX3_findNextAct 36 = .ok (.invokevirtual 315, 3) := by decide +kernel
theorem dX3_findNextAct_39 : decode cX3_findNextAct 39 = .ok (.ifCond .eq 5, 3) := by decide +kernel
theorem dX3_findNextAct_42 : decode cX3_findNextAct 42 = .ok (.iconst 1, 1) := by decide +kernel
theorem dX3_findNextAct_43 : decode cX3_findNextAct 43 = .ok (.ireturn, 1) := by decide +kernel
theorem dX3_findNextAct_44 : decode cX3_findNextAct 44 = .ok (.aload_n 1, 1) := by decide +kernel
theorem dX3_findNextAct_45 : decode cX3_findNextAct 45 = .ok (.dup, 1) := by decide +kernel
theorem dX3_findNextAct_46 : decode cX3_findNextAct 46 = .ok (.getfield 273, 3) := by decide +kernel
theorem dX3_findNextAct_49 : decode cX3_findNextAct 49 = .ok (.iconst 1, 1) := by decide +kernel
theorem dX3_findNextAct_50 : decode cX3_findNextAct 50 = .ok (.iadd, 1) := by decide +kernel
theorem dX3_findNextAct_51 : decode cX3_findNextAct 51 = .ok (.putfield 273, 3) := by decide +kernel
theorem dX3_findNextAct_54 : decode cX3_findNextAct 54 = .ok (.goto (-49), 3) := by decide +kernel
theorem dX3_findNextAct_57 : decode cX3_findNextAct 57 = .ok (.iconst 0, 1) := by decide +kernel
theorem dX3_findNextAct_58 : decode cX3_findNextAct 58 = .ok (.ireturn, 1) := by decide +kernel
theorem dX3_hasAct_0 : decode cX3_hasAct 0 = .ok (.aload_n 1, 1) := by decide +kernel
theorem dX3_hasAct_1 : decode cX3_hasAct 1 = .ok (.getfield 83, 3) := by decide +kernel
theorem dX3_hasAct_4 : decode cX3_hasAct 4 = .ok (.tableswitch 156 1 6 #[40, 57, 95, 40, 120, 74], 40) := by decide +kernel
theorem dX3_hasAct_44 : decode cX3_hasAct 44 = .ok (.iload_n 3, 1) := by decide +kernel
theorem dX3_hasAct_45 : decode cX3_hasAct 45 = .ok (.ifCond .ne 14, 3) := by decide +kernel
theorem dX3_hasAct_48 : decode cX3_hasAct 48 = .ok (.aload_n 2, 1) := by decide +kernel
theorem dX3_hasAct_49 : decode cX3_hasAct 49 = .ok (.getfield 172, 3) := by decide +kernel
theorem dX3_hasAct_52 : decode cX3_hasAct 52 = .ok (.ifCond .eq 7, 3) := by decide +kernel
theorem dX3_hasAct_55 : decode cX3_hasAct 55 = .ok (.iconst 1, 1) := by decide +kernel
theorem dX3_hasAct_56 : decode cX3_hasAct 56 = .ok (.goto 4, 3) := by decide +kernel
theorem dX3_hasAct_59 : decode cX3_hasAct 59 = .ok (.iconst 0, 1) := by decide +kernel
theorem dX3_hasAct_60 : decode cX3_hasAct 60 = .ok (.ireturn, 1) := by decide +kernel
theorem dX3_hasAct_61 : decode cX3_hasAct 61 = .ok (.iload_n 3, 1) := by decide +kernel
theorem dX3_hasAct_62 : decode cX3_hasAct 62 = .ok (.ifCond .ne 14, 3) := by decide +kernel
theorem dX3_hasAct_65 : decode cX3_hasAct 65 = .ok (.aload_n 2, 1) := by decide +kernel
theorem dX3_hasAct_66 : decode cX3_hasAct 66 = .ok (.getfield 172, 3) := by decide +kernel
theorem dX3_hasAct_69 : decode cX3_hasAct 69 = .ok (.ifCond .ne 7, 3) := by decide +kernel
theorem dX3_hasAct_72 : decode cX3_hasAct 72 = .ok (.iconst 1, 1) := by decide +kernel
theorem dX3_hasAct_73 : decode cX3_hasAct 73 = .ok (.goto 4, 3) := by decide +kernel
theorem dX3_hasAct_76 : decode cX3_hasAct 76 = .ok (.iconst 0, 1) := by decide +kernel
theorem dX3_hasAct_77 : decode cX3_hasAct 77 = .ok (.ireturn, 1) := by decide +kernel
theorem dX3_hasAct_78 : decode cX3_hasAct 78 = .ok (.iload_n 3, 1) := by decide +kernel
theorem dX3_hasAct_79 : decode cX3_hasAct 79 = .ok (.ifCond .ne 18, 3) := by decide +kernel
theorem dX3_hasAct_82 : decode cX3_hasAct 82 = .ok (.aload_n 2, 1) := by decide +kernel
theorem dX3_hasAct_83 : decode cX3_hasAct 83 = .ok (.aload_n 1, 1) := by decide +kernel
theorem dX3_hasAct_84 : decode cX3_hasAct 84 = .ok (.getfield 159, 3) := by decide +kernel
theorem dX3_hasAct_87 : decode cX3_hasAct 87 = .ok (.invokevirtual 319, 3) := by decide +kernel
theorem dX3_hasAct_90 : decode cX3_hasAct 90 = .ok (.ifCond .eq 7, 3) := by decide +kernel
theorem dX3_hasAct_93 : decode cX3_hasAct 93 = .ok (.iconst 1, 1) := by decide +kernel
theorem dX3_hasAct_94 : decode cX3_hasAct 94 = .ok (.goto 4, 3) := by decide +kernel
theorem dX3_hasAct_97 : decode cX3_hasAct 97 = .ok (.iconst 0, 1) := by decide +kernel
theorem dX3_hasAct_98 : decode cX3_hasAct 98 = .ok (.ireturn, 1) := by decide +kernel
theorem dX3_hasAct_99 : decode cX3_hasAct 99 = .ok (.aload_n 2, 1) := by decide +kernel
theorem dX3_hasAct_100 : decode cX3_hasAct 100 = .ok (.getfield 172, 3) := by decide +kernel
theorem dX3_hasAct_103 : decode cX3_hasAct 103 = .ok (.ifCond .eq 19, 3) := by decide +kernel
theorem dX3_hasAct_106 : decode cX3_hasAct 106 = .ok (.aload_n 0, 1) := by decide +kernel
theorem dX3_hasAct_107 : decode cX3_hasAct 107 = .ok (.aload_n 2, 1) := by decide +kernel
theorem dX3_hasAct_108 : decode cX3_hasAct 108 = .ok (.getfield 218, 3) := by decide +kernel
theorem dX3_hasAct_111 : decode cX3_hasAct 111 = .ok (.iload_n 3, 1) := by decide +kernel
theorem dX3_hasAct_112 : decode cX3_hasAct 112 = .ok (.invokevirtual 322, 3) := by decide +kernel
theorem dX3_hasAct_115 : decode cX3_hasAct 115 = .ok (.ifCond .eq 7, 3) := by decide +kernel
theorem dX3_hasAct_118 : decode cX3_hasAct 118 = .ok (.iconst 1, 1) := by decide +kernel
theorem dX3_hasAct_119 : decode cX3_hasAct 119 = .ok (.goto 4, 3) := by decide +kernel
theorem dX3_hasAct_122 : decode cX3_hasAct 122 = .ok (.iconst 0, 1) := by decide +kernel
theorem dX3_hasAct_123 : decode cX3_hasAct 123 = .ok (.ireturn, 1) := by decide +kernel
theorem dX3_hasAct_124 : decode cX3_hasAct 124 = .ok (.iload_n 3, 1) := by decide +kernel
theorem dX3_hasAct_125 : decode cX3_hasAct 125 = .ok (.aload_n 2, 1) := by decide +kernel
theorem dX3_hasAct_126 : decode cX3_hasAct 126 = .ok (.getfield 218, 3) := by decide +kernel
theorem dX3_hasAct_129 : decode cX3_hasAct 129 = .ok (.getfield 250, 3) := by decide +kernel
theorem dX3_hasAct_132 : decode cX3_hasAct 132 = .ok (.if_icmp .ge 26, 3) := by decide +kernel
theorem dX3_hasAct_135 : decode cX3_hasAct 135 = .ok (.aload_n 2, 1) := by decide +kernel
theorem dX3_hasAct_136 : decode cX3_hasAct 136 = .ok (.getfield 267, 3) := by decide +kernel
theorem dX3_hasAct_139 : decode cX3_hasAct 139 = .ok (.aload_n 2, 1) := by decide +kernel
theorem dX3_hasAct_140 : decode cX3_hasAct 140 = .ok (.getfield 218, 3) := by decide +kernel
theorem dX3_hasAct_143 : decode cX3_hasAct 143 = .ok (.getfield 253, 3) := by decide +kernel
theorem dX3_hasAct_146 : decode cX3_hasAct 146 = .ok (.iload_n 3, 1) := by decide +kernel
theorem dX3_hasAct_147 : decode cX3_hasAct 147 = .ok (.iaload, 1) := by decide +kernel
theorem dX3_hasAct_148 : decode cX3_hasAct 148 = .ok (.invokestatic 111, 3) := by decide +kernel
theorem dX3_hasAct_151 : decode cX3_hasAct 151 = .ok (.ifCond .eq 7, 3) := by decide +kernel
theorem dX3_hasAct_154 : decode cX3_hasAct 154 = .ok (.iconst 1, 1) := by decide +kernel
theorem dX3_hasAct_155 : decode cX3_hasAct 155 = .ok (.goto 4, 3) := by decide +kernel
theorem dX3_hasAct_158 : decode cX3_hasAct 158 = .ok (.iconst 0, 1) := by decide +kernel
theorem dX3_hasAct_159 : decode cX3_hasAct 159 = .ok (.ireturn, 1) := by decide +kernel
theorem dX3_hasAct_160 : decode cX3_hasAct 160 = .ok (.iconst 0, 1) := by decide +kernel
theorem dX3_hasAct_161 : decode cX3_hasAct 161 = .ok (.ireturn, 1) := by decide +kernel
theorem dX3_isToBeRecovered_0 : decode cX3_isToBeRecovered 0 = .ok (.iload_n 2, 1) := by decide +kernel
theorem dX3_isToBeRecovered_1 : decode cX3_isToBeRecovered 1 = .ok (.aload_n 0, 1) := by decide +kernel
theorem dX3_isToBeRecovered_2 : decode cX3_isToBeRecovered 2 = .ok (.getfield 30, 3) := by decide +kernel
theorem dX3_isToBeRecovered_5 : decode cX3_isToBeRecovered 5 = .ok (.iconst (-1), 1) := by decide +kernel
theorem dX3_isToBeRecovered_6 : decode cX3_isToBeRecovered 6 = .ok (.ixor, 1) := by decide +kernel
theorem dX3_isToBeRecovered_7 : decode cX3_isToBeRecovered 7 = .ok (.iand, 1) := by decide +kernel
theorem dX3_isToBeRecovered_8 : decode cX3_isToBeRecovered 8 = .ok (.istore_n 3, 1) := by decide +kernel
theorem dX3_isToBeRecovered_9 : decode cX3_isToBeRecovered 9 = .ok (.aload_n 1, 1) := by decide +kernel
theorem dX3_isToBeRecovered_10 : decode cX3_isToBeRecovered 10 = .ok (.invokevirtual 201, 3) := by decide +kernel
theorem dX3_isToBeRecovered_13 : decode cX3_isToBeRecovered 13 = .ok (.ifCond .eq 26, 3) := by decide +kernel
theorem dX3_isToBeRecovered_16 : decode cX3_isToBeRecovered 16 = .ok (.aload_n 0, 1) := by decide +kernel
theorem dX3_isToBeRecovered_17 : decode cX3_isToBeRecovered 17 = .ok (.aload_n 1, 1) := by decide +kernel
theorem dX3_isToBeRecovered_18 : decode cX3_isToBeRecovered 18 = .ok (.getfield 86, 3) := by decide +kernel
theorem dX3_isToBeRecovered_21 : decode cX3_isToBeRecovered 21 = .ok (.invokevirtual 43, 3) := by decide +kernel
theorem dX3_isToBeRecovered_24 : decode cX3_isToBeRecovered 24 = .ok (.ifCond .eq 11, 3) := by decide +kernel
theorem dX3_isToBeRecovered_27 : decode cX3_isToBeRecovered 27 = .ok (.aload_n 1, 1) := by decide +kernel
theorem dX3_isToBeRecovered_28 : decode cX3_isToBeRecovered 28 = .ok (.iload_n 3, 1) := by decide +kernel
theorem dX3_isToBeRecovered_29 : decode cX3_isToBeRecovered 29 = .ok (.invokevirtual 326, 3) := by decide +kernel
theorem dX3_isToBeRecovered_32 : decode cX3_isToBeRecovered 32 = .ok (.ifCond .eq 7, 3) := by decide +kernel
theorem dX3_isToBeRecovered_35 : decode cX3_isToBeRecovered 35 = .ok (.iconst 1, 1) := by decide +kernel
theorem dX3_isToBeRecovered_36 : decode cX3_isToBeRecovered 36 = .ok (.goto 4, 3) := by decide +kernel
theorem dX3_isToBeRecovered_39 : decode cX3_isToBeRecovered 39 = .ok (.iconst 0, 1) := by decide +kernel
theorem dX3_isToBeRecovered_40 : decode cX3_isToBeRecovered 40 = .ok (.ireturn, 1) := by decide +kernel
theorem dX3_recover_0 : decode cX3_recover 0 = .ok (.aload_n 0, 1) := by decide +kernel
theorem dX3_recover_1 : decode cX3_recover 1 = .ok (.aload_n 1, 1) := by decide +kernel
theorem dX3_recover_2 : decode cX3_recover 2 = .ok (.iload_n 2, 1) := by decide +kernel
theorem dX3_recover_3 : decode cX3_recover 3 = .ok (.invokevirtual 329, 3) := by decide +kernel
theorem dX3_recover_6 : decode cX3_recover 6 = .ok (.ifCond .eq 22, 3) := by decide +kernel
theorem dX3_recover_9 : decode cX3_recover 9 = .ok (.aload_n 0, 1) := by decide +kernel
theorem dX3_recover_10 : decode cX3_recover 10 = .ok (.aload_n 1, 1) := by decide +kernel
theorem dX3_recover_11 : decode cX3_recover 11 = .ok (.invokevirtual 332, 3) := by decide +kernel
theorem dX3_recover_14 : decode cX3_recover 14 = .ok (.aload_n 1, 1) := by decide +kernel
theorem dX3_recover_15 : decode cX3_recover 15 = .ok (.iconst 1, 1) := by decide +kernel
theorem dX3_recover_16 : decode cX3_recover 16 = .ok (.putfield 208, 3) := by decide +kernel
theorem dX3_recover_19 : decode cX3_recover 19 = .ok (.aload_n 1, 1) := by decide +kernel
theorem dX3_recover_20 : decode cX3_recover 20 = .ok (.bipush 7, 2) := by decide +kernel
theorem dX3_recover_22 : decode cX3_recover 22 = .ok (.invokevirtual 89, 3) := by decide +kernel
theorem dX3_recover_25 : decode cX3_recover 25 = .ok (.goto 9, 3) := by decide +kernel
theorem dX3_recover_28 : decode cX3_recover 28 = .ok (.aload_n 1, 1) := by decide +kernel
theorem dX3_recover_29 : decode cX3_recover 29 = .ok (.bipush 8, 2) := by decide +kernel
theorem dX3_recover_31 : decode cX3_recover 31 = .ok (.invokevirtual 89, 3) := by decide +kernel
theorem dX3_recover_34 : decode cX3_recover 34 = .ok (.aload_n 1, 1) := by decide +kernel
theorem dX3_recover_35 : decode cX3_recover 35 = .ok (.invokestatic 335, 3) := by decide +kernel
theorem dX3_recover_38 : decode cX3_recover 38 = .ok (.return_, 1) := by decide +kernel
theorem dX3_isVotedFor_0 : decode cX3_isVotedFor 0 = .ok (.iconst 0, 1) := by decide +kernel
theorem dX3_isVotedFor_1 : decode cX3_isVotedFor 1 = .ok (.istore_n 3, 1) := by decide +kernel
theorem dX3_isVotedFor_2 : decode cX3_isVotedFor 2 = .ok (.iconst 3, 1) := by decide +kernel
theorem dX3_isVotedFor_3 : decode cX3_isVotedFor 3 = .ok (.istore 4, 2) := by decide +kernel
theorem dX3_isVotedFor_5 : decode cX3_isVotedFor 5 = .ok (.iconst 0, 1) := by decide +kernel
theorem dX3_isVotedFor_6 : decode cX3_isVotedFor 6 = .ok (.istore 5, 2) := by decide +kernel
theorem dX3_isVotedFor_8 : decode cX3_isVotedFor 8 = .ok (.iload 5, 2) := by decide +kernel
theorem dX3_isVotedFor_10 : decode cX3_isVotedFor 10 = .ok (.aload_n 0, 1) := by decide +kernel
theorem dX3_isVotedFor_11 : decode cX3_isVotedFor 11 = .ok (.getfield 10, 3) := by decide +kernel
theorem dX3_isVotedFor_14 : decode cX3_isVotedFor 14 = .ok (.invokevirtual 46, 3) := by decide +kernel
theorem dX3_isVotedFor_17 : decode cX3_isVotedFor 17 = .ok (.if_icmp .ge 67, 3) := by decide +kernel
theorem dX3_isVotedFor_20 : decode cX3_isVotedFor 20 = .ok (.aload_n 0, 1) := by decide +kernel
theorem dX3_isVotedFor_21 : decode cX3_isVotedFor 21 = .ok (.getfield 10, 3) := by decide +kernel
theorem dX3_isVotedFor_24 : decode cX3_isVotedFor 24 = .ok (.iload 5, 2) := by decide +kernel
theorem dX3_isVotedFor_26 : decode cX3_isVotedFor 26 = .ok (.invokevirtual 77, 3) := by decide +kernel
theorem dX3_isVotedFor_29 : decode cX3_isVotedFor 29 = .ok (.checkcast 50, 3) := by decide +kernel
theorem dX3_isVotedFor_32 : decode cX3_isVotedFor 32 = .ok (.astore 6, 2) := by decide +kernel
theorem dX3_isVotedFor_34 : decode cX3_isVotedFor 34 = .ok (.aload_n 0, 1) := by decide +kernel
theorem dX3_isVotedFor_35 : decode cX3_isVotedFor 35 = .ok (.aload 6, 2) := by decide +kernel
theorem dX3_isVotedFor_37 : decode cX3_isVotedFor 37 = .ok (.invokevirtual 284, 3) := by decide +kernel
theorem dX3_isVotedFor_40 : decode cX3_isVotedFor 40 = .ok (.ifCond .ne 38, 3) := by decide +kernel
theorem dX3_isVotedFor_43 : decode cX3_isVotedFor 43 = .ok (.aload_n 1, 1) := by decide +kernel
theorem dX3_isVotedFor_44 : decode cX3_isVotedFor 44 = .ok (.aload 6, 2) := by decide +kernel
theorem dX3_isVotedFor_46 : decode cX3_isVotedFor 46 = .ok (.invokevirtual 260, 3) := by decide +kernel
theorem dX3_isVotedFor_49 : decode cX3_isVotedFor 49 = .ok (.ifCond .eq 29, 3) := by decide +kernel
theorem dX3_isVotedFor_52 : decode cX3_isVotedFor 52 = .ok (.aload_n 0, 1) := by decide +kernel
theorem dX3_isVotedFor_53 : decode cX3_isVotedFor 53 = .ok (.aload 6, 2) := by decide +kernel
theorem dX3_isVotedFor_55 : decode cX3_isVotedFor 55 = .ok (.aload_n 1, 1) := by decide +kernel
theorem dX3_isVotedFor_56 : decode cX3_isVotedFor 56 = .ok (.iload_n 2, 1) := by decide +kernel
theorem dX3_isVotedFor_57 : decode cX3_isVotedFor 57 = .ok (.invokevirtual 338, 3) := by decide +kernel
theorem dX3_isVotedFor_60 : decode cX3_isVotedFor 60 = .ok (.istore 7, 2) := by decide +kernel
theorem dX3_isVotedFor_62 : decode cX3_isVotedFor 62 = .ok (.iload_n 3, 1) := by decide +kernel
theorem dX3_isVotedFor_63 : decode cX3_isVotedFor 63 = .ok (.iload 7, 2) := by decide +kernel
theorem dX3_isVotedFor_65 : decode cX3_isVotedFor 65 = .ok (.invokestatic 342, 3) := by decide +kernel
theorem dX3_isVotedFor_68 : decode cX3_isVotedFor 68 = .ok (.istore_n 3, 1) := by decide +kernel
theorem dX3_isVotedFor_69 : decode cX3_isVotedFor 69 = .ok (.iload 4, 2) := by decide +kernel
theorem dX3_isVotedFor_71 : decode cX3_isVotedFor 71 = .ok (.iload 7, 2) := by decide +kernel
theorem dX3_isVotedFor_73 : decode cX3_isVotedFor 73 = .ok (.invokestatic 347, 3) := by decide +kernel
theorem dX3_isVotedFor_76 : decode cX3_isVotedFor 76 = .ok (.istore 4, 2) := by decide +kernel
theorem dX3_isVotedFor_78 : decode cX3_isVotedFor 78 = .ok (.iinc 5 1, 3) := by decide +kernel
theorem dX3_isVotedFor_81 : decode cX3_isVotedFor 81 = .ok (.goto (-73), 3) := by decide +kernel
theorem dX3_isVotedFor_84 : decode cX3_isVotedFor 84 = .ok (.iload_n 3, 1) := by decide +kernel
theorem dX3_isVotedFor_85 : decode cX3_isVotedFor 85 = .ok (.iconst 3, 1) := by decide +kernel
theorem dX3_isVotedFor_86 : decode cX3_isVotedFor 86 = .ok (.if_icmp .eq 13, 3) := by decide +kernel
theorem dX3_isVotedFor_89 : decode cX3_isVotedFor 89 = .ok (.iload_n 3, 1) := by decide +kernel
theorem dX3_isVotedFor_90 : decode cX3_isVotedFor 90 = .ok (.iconst 2, 1) := by decide +kernel
theorem dX3_isVotedFor_91 : decode cX3_isVotedFor 91 = .ok (.if_icmp .ne 12, 3) := by decide +kernel
theorem dX3_isVotedFor_94 : decode cX3_isVotedFor 94 = .ok (.iload 4, 2) := by decide +kernel
theorem dX3_isVotedFor_96 : decode cX3_isVotedFor 96 = .ok (.ifCond .eq 7, 3) := by decide +kernel
theorem dX3_isVotedFor_99 : decode cX3_isVotedFor 99 = .ok (.iconst 1, 1) := by decide +kernel
theorem dX3_isVotedFor_100 : decode cX3_isVotedFor 100 = .ok (.goto 4, 3) := by decide +kernel
theorem dX3_isVotedFor_103 : decode cX3_isVotedFor 103 = .ok (.iconst 0, 1) := by decide +kernel
theorem dX3_isVotedFor_104 : decode cX3_isVotedFor 104 = .ok (.ireturn, 1) := by decide +kernel
theorem dX3_voteOf_0 : decode cX3_voteOf 0 = .ok (.iconst 0, 1) := by decide +kernel
theorem dX3_voteOf_1 : decode cX3_voteOf 1 = .ok (.istore 4, 2) := by decide +kernel
theorem dX3_voteOf_3 : decode cX3_voteOf 3 = .ok (.aload_n 1, 1) := by decide +kernel
theorem dX3_voteOf_4 : decode cX3_voteOf 4 = .ok (.iload_n 3, 1) := by decide +kernel
theorem dX3_voteOf_5 : decode cX3_voteOf 5 = .ok (.invokevirtual 247, 3) := by decide +kernel
theorem dX3_voteOf_8 : decode cX3_voteOf 8 = .ok (.aload_n 0, 1) := by decide +kernel
theorem dX3_voteOf_9 : decode cX3_voteOf 9 = .ok (.aload_n 1, 1) := by decide +kernel
theorem dX3_voteOf_10 : decode cX3_voteOf 10 = .ok (.invokevirtual 104, 3) := by decide +kernel
theorem dX3_voteOf_13 : decode cX3_voteOf 13 = .ok (.if_icmp .ne 7, 3) := by decide +kernel
theorem dX3_voteOf_16 : decode cX3_voteOf 16 = .ok (.iconst 1, 1) := by decide +kernel
theorem dX3_voteOf_17 : decode cX3_voteOf 17 = .ok (.goto 4, 3) := by decide +kernel
theorem dX3_voteOf_20 : decode cX3_voteOf 20 = .ok (.iconst 0, 1) := by decide +kernel
theorem dX3_voteOf_21 : decode cX3_voteOf 21 = .ok (.istore 5, 2) := by decide +kernel
theorem dX3_voteOf_23 : decode cX3_voteOf 23 = .ok (.iconst 0, 1) := by decide +kernel
theorem dX3_voteOf_24 : decode cX3_voteOf 24 = .ok (.istore 6, 2) := by decide +kernel
theorem dX3_voteOf_26 : decode cX3_voteOf 26 = .ok (.iload 6, 2) := by decide +kernel
theorem dX3_voteOf_28 : decode cX3_voteOf 28 = .ok (.aload_n 2, 1) := by decide +kernel
theorem dX3_voteOf_29 : decode cX3_voteOf 29 = .ok (.getfield 205, 3) := by decide +kernel
theorem dX3_voteOf_32 : decode cX3_voteOf 32 = .ok (.invokevirtual 46, 3) := by decide +kernel
theorem dX3_voteOf_35 : decode cX3_voteOf 35 = .ok (.if_icmp .ge 104, 3) := by decide +kernel
theorem dX3_voteOf_38 : decode cX3_voteOf 38 = .ok (.aload_n 2, 1) := by decide +kernel
theorem dX3_voteOf_39 : decode cX3_voteOf 39 = .ok (.getfield 205, 3) := by decide +kernel
theorem dX3_voteOf_42 : decode cX3_voteOf 42 = .ok (.iload 6, 2) := by decide +kernel
theorem dX3_voteOf_44 : decode cX3_voteOf 44 = .ok (.invokevirtual 77, 3) := by decide +kernel
theorem dX3_voteOf_47 : decode cX3_voteOf 47 = .ok (.checkcast 173, 3) := by decide +kernel
theorem dX3_voteOf_50 : decode cX3_voteOf 50 = .ok (.astore 7, 2) := by decide +kernel
theorem dX3_voteOf_52 : decode cX3_voteOf 52 = .ok (.aload 7, 2) := by decide +kernel
theorem dX3_voteOf_54 : decode cX3_voteOf 54 = .ok (.getfield 218, 3) := by decide +kernel
theorem dX3_voteOf_57 : decode cX3_voteOf 57 = .ok (.aload_n 1, 1) := by decide +kernel
theorem dX3_voteOf_58 : decode cX3_voteOf 58 = .ok (.if_acmp .ne 75, 3) := by decide +kernel
theorem dX3_voteOf_61 : decode cX3_voteOf 61 = .ok (.aload 7, 2) := by decide +kernel
theorem dX3_voteOf_63 : decode cX3_voteOf 63 = .ok (.getfield 172, 3) := by decide +kernel
theorem dX3_voteOf_66 : decode cX3_voteOf 66 = .ok (.ifCond .eq 67, 3) := by decide +kernel
theorem dX3_voteOf_69 : decode cX3_voteOf 69 = .ok (.aload 7, 2) := by decide +kernel
theorem dX3_voteOf_71 : decode cX3_voteOf 71 = .ok (.getfield 297, 3) := by decide +kernel
theorem dX3_voteOf_74 : decode cX3_voteOf 74 = .ok (.aload_n 0, 1) := by decide +kernel
theorem dX3_voteOf_75 : decode cX3_voteOf 75 = .ok (.getfield 30, 3) := by decide +kernel
theorem dX3_voteOf_78 : decode cX3_voteOf 78 = .ok (.iand, 1) := by decide +kernel
theorem dX3_voteOf_79 : decode cX3_voteOf 79 = .ok (.ifCond .eq 5, 3) := by decide +kernel
theorem dX3_voteOf_82 : decode cX3_voteOf 82 = .ok (.iconst 3, 1) := by decide +kernel
theorem dX3_voteOf_83 : decode cX3_voteOf 83 = .ok (.ireturn, 1) := by decide +kernel
theorem dX3_voteOf_84 : decode cX3_voteOf 84 = .ok (.iload 4, 2) := by decide +kernel
theorem dX3_voteOf_86 : decode cX3_voteOf 86 = .ok (.ifCond .ne 16, 3) := by decide +kernel
theorem dX3_voteOf_89 : decode cX3_voteOf 89 = .ok (.aload 7, 2) := by decide +kernel
theorem dX3_voteOf_91 : decode cX3_voteOf 91 = .ok (.getfield 267, 3) := by decide +kernel
theorem dX3_voteOf_94 : decode cX3_voteOf 94 = .ok (.aload_n 0, 1) := by decide +kernel
theorem dX3_voteOf_95 : decode cX3_voteOf 95 = .ok (.getfield 30, 3) := by decide +kernel
theorem dX3_voteOf_98 : decode cX3_voteOf 98 = .ok (.iand, 1) := by decide +kernel
theorem dX3_voteOf_99 : decode cX3_voteOf 99 = .ok (.ifCond .eq 7, 3) := by decide +kernel
theorem dX3_voteOf_102 : decode cX3_voteOf 102 = .ok (.iconst 1, 1) := by decide +kernel
theorem dX3_voteOf_103 : decode cX3_voteOf 103 = .ok (.goto 4, 3) := by decide +kernel
theorem dX3_voteOf_106 : decode cX3_voteOf 106 = .ok (.iconst 0, 1) := by decide +kernel
theorem dX3_voteOf_107 : decode cX3_voteOf 107 = .ok (.istore 4, 2) := by decide +kernel
theorem dX3_voteOf_109 : decode cX3_voteOf 109 = .ok (.iload 5, 2) := by decide +kernel
theorem dX3_voteOf_111 : decode cX3_voteOf 111 = .ok (.ifCond .eq 19, 3) := by decide +kernel
theorem dX3_voteOf_114 : decode cX3_voteOf 114 = .ok (.aload 7, 2) := by decide +kernel
theorem dX3_voteOf_116 : decode cX3_voteOf 116 = .ok (.aload_n 2, 1) := by decide +kernel
theorem dX3_voteOf_117 : decode cX3_voteOf 117 = .ok (.getfield 159, 3) := by decide +kernel
theorem dX3_voteOf_120 : decode cX3_voteOf 120 = .ok (.invokevirtual 319, 3) := by decide +kernel
theorem dX3_voteOf_123 : decode cX3_voteOf 123 = .ok (.ifCond .eq 7, 3) := by decide +kernel
theorem dX3_voteOf_126 : decode cX3_voteOf 126 = .ok (.iconst 1, 1) := by decide +kernel
theorem dX3_voteOf_127 : decode cX3_voteOf 127 = .ok (.goto 4, 3) := by decide +kernel
theorem dX3_voteOf_130 : decode cX3_voteOf 130 = .ok (.iconst 0, 1) := by decide +kernel
theorem dX3_voteOf_131 : decode cX3_voteOf 131 = .ok (.istore 5, 2) := by decide +kernel
theorem dX3_voteOf_133 : decode cX3_voteOf 133 = .ok (.iinc 6 1, 3) := by decide +kernel
theorem dX3_voteOf_136 : decode cX3_voteOf 136 = .ok (.goto (-110), 3) := by decide +kernel
theorem dX3_voteOf_139 : decode cX3_voteOf 139 = .ok (.iload 4, 2) := by decide +kernel
theorem dX3_voteOf_141 : decode cX3_voteOf 141 = .ok (.ifCond .eq 5, 3) := by decide +kernel
theorem dX3_voteOf_144 : decode cX3_voteOf 144 = .ok (.iconst 2, 1) := by decide +kernel
theorem dX3_voteOf_145 : decode cX3_voteOf 145 = .ok (.ireturn, 1) := by decide +kernel
theorem dX3_voteOf_146 : decode cX3_voteOf 146 = .ok (.iload 5, 2) := by decide +kernel
theorem dX3_voteOf_148 : decode cX3_voteOf 148 = .ok (.ifCond .eq 7, 3) := by decide +kernel
theorem dX3_voteOf_151 : decode cX3_voteOf 151 = .ok (.iconst 1, 1) := by decide +kernel
theorem dX3_voteOf_152 : decode cX3_voteOf 152 = .ok (.goto 4, 3) := by decide +kernel
theorem dX3_voteOf_155 : decode cX3_voteOf 155 = .ok (.iconst 0, 1) := by decide +kernel
theorem dX3_voteOf_156 : decode cX3_voteOf 156 = .ok (.ireturn, 1) := by decide +kernel
theorem dX3_spread_0 : decode cX3_spread 0 = .ok (.iconst 0, 1) := by decide +kernel
theorem dX3_spread_1 : decode cX3_spread 1 = .ok (.istore_n 2, 1) := by decide +kernel
theorem dX3_spread_2 : decode cX3_spread 2 = .ok (.iload_n 2, 1) := by decide +kernel
theorem dX3_spread_3 : decode cX3_spread 3 = .ok (.aload_n 1, 1) := by decide +kernel
theorem dX3_spread_4 : decode cX3_spread 4 = .ok (.getfield 205, 3) := by decide +kernel
theorem dX3_spread_7 : decode cX3_spread 7 = .ok (.invokevirtual 46, 3) := by decide +kernel
theorem dX3_spread_10 : decode cX3_spread 10 = .ok (.if_icmp .ge 94, 3) := by decide +kernel
theorem dX3_spread_13 : decode cX3_spread 13 = .ok (.aload_n 1, 1) := by decide +kernel
theorem dX3_spread_14 : decode cX3_spread 14 = .ok (.getfield 205, 3) := by decide +kernel
theorem dX3_spread_17 : decode cX3_spread 17 = .ok (.iload_n 2, 1) := by decide +kernel
theorem dX3_spread_18 : decode cX3_spread 18 = .ok (.invokevirtual 77, 3) := by decide +kernel
theorem dX3_spread_21 : decode cX3_spread 21 = .ok (.checkcast 173, 3) := by decide +kernel
theorem dX3_spread_24 : decode cX3_spread 24 = .ok (.astore_n 3, 1) := by decide +kernel
theorem dX3_spread_25 : decode cX3_spread 25 = .ok (.iconst 0, 1) := by decide +kernel
theorem dX3_spread_26 : decode cX3_spread 26 = .ok (.istore 4, 2) := by decide +kernel
theorem dX3_spread_28 : decode cX3_spread 28 = .ok (.aload_n 3, 1) := by decide +kernel
theorem dX3_spread_29 : decode cX3_spread 29 = .ok (.getfield 172, 3) := by decide +kernel
theorem dX3_spread_32 : decode cX3_spread 32 = .ok (.ifCond .eq 66, 3) := by decide +kernel
theorem dX3_spread_35 : decode cX3_spread 35 = .ok (.iload 4, 2) := by decide +kernel
theorem dX3_spread_37 : decode cX3_spread 37 = .ok (.aload_n 3, 1) := by decide +kernel
theorem dX3_spread_38 : decode cX3_spread 38 = .ok (.getfield 218, 3) := by decide +kernel
theorem dX3_spread_41 : decode cX3_spread 41 = .ok (.getfield 250, 3) := by decide +kernel
theorem dX3_spread_44 : decode cX3_spread 44 = .ok (.if_icmp .ge 54, 3) := by decide +kernel
theorem dX3_spread_47 : decode cX3_spread 47 = .ok (.aload_n 3, 1) := by decide +kernel
theorem dX3_spread_48 : decode cX3_spread 48 = .ok (.getfield 218, 3) := by decide +kernel
theorem dX3_spread_51 : decode cX3_spread 51 = .ok (.getfield 253, 3) := by decide +kernel
theorem dX3_spread_54 : decode cX3_spread 54 = .ok (.iload 4, 2) := by decide +kernel
theorem dX3_spread_56 : decode cX3_spread 56 = .ok (.iaload, 1) := by decide +kernel
theorem dX3_spread_57 : decode cX3_spread 57 = .ok (.istore 5, 2) := by decide +kernel
theorem dX3_spread_59 : decode cX3_spread 59 = .ok (.aload_n 0, 1) := by decide +kernel
theorem dX3_spread_60 : decode cX3_spread 60 = .ok (.iload 5, 2) := by decide +kernel
theorem dX3_spread_62 : decode cX3_spread 62 = .ok (.invokevirtual 43, 3) := by decide +kernel
theorem dX3_spread_65 : decode cX3_spread 65 = .ok (.ifCond .eq 27, 3) := by decide +kernel
theorem dX3_spread_68 : decode cX3_spread 68 = .ok (.aload_n 3, 1) := by decide +kernel
theorem dX3_spread_69 : decode cX3_spread 69 = .ok (.getfield 218, 3) := by decide +kernel
theorem dX3_spread_72 : decode cX3_spread 72 = .ok (.iload 5, 2) := by decide +kernel
theorem dX3_spread_74 : decode cX3_spread 74 = .ok (.aload_n 3, 1) := by decide +kernel
theorem dX3_spread_75 : decode cX3_spread 75 = .ok (.getfield 222, 3) := by decide +kernel
theorem dX3_spread_78 : decode cX3_spread 78 = .ok (.invokestatic 122, 3) := by decide +kernel
theorem dX3_spread_81 : decode cX3_spread 81 = .ok (.aload_n 3, 1) := by decide +kernel
theorem dX3_spread_82 : decode cX3_spread 82 = .ok (.getfield 178, 3) := by decide +kernel
theorem dX3_spread_85 : decode cX3_spread 85 = .ok (.aload_n 3, 1) := by decide +kernel
theorem dX3_spread_86 : decode cX3_spread 86 = .ok (.invokevirtual 294, 3) := by decide +kernel
theorem dX3_spread_89 : decode cX3_spread 89 = .ok (.invokevirtual 300, 3) := by decide +kernel
theorem dX3_spread_92 : decode cX3_spread 92 = .ok (.iinc 4 1, 3) := by decide +kernel
theorem dX3_spread_95 : decode cX3_spread 95 = .ok (.goto (-67), 3) := by decide +kernel
theorem dX3_spread_98 : decode cX3_spread 98 = .ok (.iinc 2 1, 3) := by decide +kernel
theorem dX3_spread_101 : decode cX3_spread 101 = .ok (.goto (-99), 3) := by decide +kernel
theorem dX3_spread_104 : decode cX3_spread 104 = .ok (.return_, 1) := by decide +kernel
theorem dX3_letGo_0 : decode cX3_letGo 0 = .ok (.iconst 0, 1) := by decide +kernel
theorem dX3_letGo_1 : decode cX3_letGo 1 = .ok (.istore_n 1, 1) := by decide +kernel
theorem dX3_letGo_2 : decode cX3_letGo 2 = .ok (.iload_n 1, 1) := by decide +kernel
theorem dX3_letGo_3 : decode cX3_letGo 3 = .ok (.aload_n 0, 1) := by decide +kernel
theorem dX3_letGo_4 : decode cX3_letGo 4 = .ok (.getfield 205, 3) := by decide +kernel
theorem dX3_letGo_7 : decode cX3_letGo 7 = .ok (.invokevirtual 46, 3) := by decide +kernel
theorem dX3_letGo_10 : decode cX3_letGo 10 = .ok (.if_icmp .ge 51, 3) := by decide +kernel
theorem dX3_letGo_13 : decode cX3_letGo 13 = .ok (.aload_n 0, 1) := by decide +kernel
theorem dX3_letGo_14 : decode cX3_letGo 14 = .ok (.getfield 205, 3) := by decide +kernel
theorem dX3_letGo_17 : decode cX3_letGo 17 = .ok (.iload_n 1, 1) := by decide +kernel
theorem dX3_letGo_18 : decode cX3_letGo 18 = .ok (.invokevirtual 77, 3) := by decide +kernel
theorem dX3_letGo_21 : decode cX3_letGo 21 = .ok (.checkcast 173, 3) := by decide +kernel
theorem dX3_letGo_24 : decode cX3_letGo 24 = .ok (.astore_n 2, 1) := by decide +kernel
theorem dX3_letGo_25 : decode cX3_letGo 25 = .ok (.aload_n 2, 1) := by decide +kernel
theorem dX3_letGo_26 : decode cX3_letGo 26 = .ok (.iconst 0, 1) := by decide +kernel
theorem dX3_letGo_27 : decode cX3_letGo 27 = .ok (.putfield 267, 3) := by decide +kernel
theorem dX3_letGo_30 : decode cX3_letGo 30 = .ok (.aload_n 2, 1) := by decide +kernel
theorem dX3_letGo_31 : decode cX3_letGo 31 = .ok (.aload_n 0, 1) := by decide +kernel
theorem dX3_letGo_32 : decode cX3_letGo 32 = .ok (.getfield 159, 3) := by decide +kernel
theorem dX3_letGo_35 : decode cX3_letGo 35 = .ok (.invokevirtual 319, 3) := by decide +kernel
theorem dX3_letGo_38 : decode cX3_letGo 38 = .ok (.ifCond .eq 17, 3) := by decide +kernel
theorem dX3_letGo_41 : decode cX3_letGo 41 = .ok (.aload_n 2, 1) := by decide +kernel
theorem dX3_letGo_42 : decode cX3_letGo 42 = .ok (.getfield 218, 3) := by decide +kernel
theorem dX3_letGo_45 : decode cX3_letGo 45 = .ok (.getfield 149, 3) := by decide +kernel
theorem dX3_letGo_48 : decode cX3_letGo 48 = .ok (.aload_n 2, 1) := by decide +kernel
theorem dX3_letGo_49 : decode cX3_letGo 49 = .ok (.getfield 222, 3) := by decide +kernel
theorem dX3_letGo_52 : decode cX3_letGo 52 = .ok (.bipush (-9), 2) := by decide +kernel
theorem dX3_letGo_54 : decode cX3_letGo 54 = .ok (.iastore, 1) := by decide +kernel
theorem dX3_letGo_55 : decode cX3_letGo 55 = .ok (.iinc 1 1, 3) := by decide +kernel
theorem dX3_letGo_58 : decode cX3_letGo 58 = .ok (.goto (-56), 3) := by decide +kernel
theorem dX3_letGo_61 : decode cX3_letGo 61 = .ok (.return_, 1) := by decide +kernel
theorem dX3_readWhatWasLeft_0 : decode cX3_readWhatWasLeft 0 = .ok (.iconst 0, 1) := by decide +kernel
theorem dX3_readWhatWasLeft_1 : decode cX3_readWhatWasLeft 1 = .ok (.istore_n 2, 1) := by decide +kernel
theorem dX3_readWhatWasLeft_2 : decode cX3_readWhatWasLeft 2 = .ok (.iload_n 2, 1) := by decide +kernel
theorem dX3_readWhatWasLeft_3 : decode cX3_readWhatWasLeft 3 = .ok (.aload_n 1, 1) := by decide +kernel
theorem dX3_readWhatWasLeft_4 : decode cX3_readWhatWasLeft 4 = .ok (.getfield 205, 3) := by decide +kernel
theorem dX3_readWhatWasLeft_7 : decode cX3_readWhatWasLeft 7 = .ok (.invokevirtual 46, 3) := by decide +kernel
theorem dX3_readWhatWasLeft_10 : decode cX3_readWhatWasLeft 10 = .ok (.if_icmp .ge 49, 3) := by decide +kernel
theorem dX3_readWhatWasLeft_13 : decode cX3_readWhatWasLeft 13 = .ok (.aload_n 1, 1) := by decide +kernel
theorem dX3_readWhatWasLeft_14 : decode cX3_readWhatWasLeft 14 = .ok (.getfield 205, 3) := by decide +kernel
theorem dX3_readWhatWasLeft_17 : decode cX3_readWhatWasLeft 17 = .ok (.iload_n 2, 1) := by decide +kernel
theorem dX3_readWhatWasLeft_18 : decode cX3_readWhatWasLeft 18 = .ok (.invokevirtual 77, 3) := by decide +kernel
theorem dX3_readWhatWasLeft_21 : decode cX3_readWhatWasLeft 21 = .ok (.checkcast 173, 3) := by decide +kernel
theorem dX3_readWhatWasLeft_24 : decode cX3_readWhatWasLeft 24 = .ok (.astore_n 3, 1) := by decide +kernel
theorem dX3_readWhatWasLeft_25 : decode cX3_readWhatWasLeft 25 = .ok (.aload_n 0, 1) := by decide +kernel
theorem dX3_readWhatWasLeft_26 : decode cX3_readWhatWasLeft 26 = .ok (.getfield 22, 3) := by decide +kernel
theorem dX3_readWhatWasLeft_29 : decode cX3_readWhatWasLeft 29 = .ok (.aload_n 3, 1) := by decide +kernel
theorem dX3_readWhatWasLeft_30 : decode cX3_readWhatWasLeft 30 = .ok (.getfield 218, 3) := by decide +kernel
theorem dX3_readWhatWasLeft_33 : decode cX3_readWhatWasLeft 33 = .ok (.getfield 62, 3) := by decide +kernel
theorem dX3_readWhatWasLeft_36 : decode cX3_readWhatWasLeft 36 = .ok (.aload_n 3, 1) := by decide +kernel
theorem dX3_readWhatWasLeft_37 : decode cX3_readWhatWasLeft 37 = .ok (.getfield 222, 3) := by decide +kernel
theorem dX3_readWhatWasLeft_40 : decode cX3_readWhatWasLeft 40 = .ok (.invokestatic 122, 3) := by decide +kernel
theorem dX3_readWhatWasLeft_43 : decode cX3_readWhatWasLeft 43 = .ok (.iaload, 1) := by decide +kernel
theorem dX3_readWhatWasLeft_44 : decode cX3_readWhatWasLeft 44 = .ok (.aload_n 3, 1) := by decide +kernel
theorem dX3_readWhatWasLeft_45 : decode cX3_readWhatWasLeft 45 = .ok (.getfield 181, 3) := by decide +kernel
theorem dX3_readWhatWasLeft_48 : decode cX3_readWhatWasLeft 48 = .ok (.if_icmp .eq 5, 3) := by decide +kernel
theorem dX3_readWhatWasLeft_51 : decode cX3_readWhatWasLeft 51 = .ok (.iconst 0, 1) := by decide +kernel
theorem dX3_readWhatWasLeft_52 : decode cX3_readWhatWasLeft 52 = .ok (.ireturn, 1) := by decide +kernel
theorem dX3_readWhatWasLeft_53 : decode cX3_readWhatWasLeft 53 = .ok (.iinc 2 1, 3) := by decide +kernel
theorem dX3_readWhatWasLeft_56 : decode cX3_readWhatWasLeft 56 = .ok (.goto (-54), 3) := by decide +kernel
theorem dX3_readWhatWasLeft_59 : decode cX3_readWhatWasLeft 59 = .ok (.iconst 1, 1) := by decide +kernel
theorem dX3_readWhatWasLeft_60 : decode cX3_readWhatWasLeft 60 = .ok (.ireturn, 1) := by decide +kernel
theorem dX3_replay_0 : decode cX3_replay 0 = .ok (.iconst 0, 1) := by decide +kernel
theorem dX3_replay_1 : decode cX3_replay 1 = .ok (.istore_n 2, 1) := by decide +kernel
theorem dX3_replay_2 : decode cX3_replay 2 = .ok (.iload_n 2, 1) := by decide +kernel
theorem dX3_replay_3 : decode cX3_replay 3 = .ok (.aload_n 1, 1) := by decide +kernel
theorem dX3_replay_4 : decode cX3_replay 4 = .ok (.getfield 205, 3) := by decide +kernel
theorem dX3_replay_7 : decode cX3_replay 7 = .ok (.invokevirtual 46, 3) := by decide +kernel
theorem dX3_replay_10 : decode cX3_replay 10 = .ok (.if_icmp .ge 51, 3) := by decide +kernel
theorem dX3_replay_13 : decode cX3_replay 13 = .ok (.aload_n 1, 1) := by decide +kernel
theorem dX3_replay_14 : decode cX3_replay 14 = .ok (.getfield 205, 3) := by decide +kernel
theorem dX3_replay_17 : decode cX3_replay 17 = .ok (.iload_n 2, 1) := by decide +kernel
theorem dX3_replay_18 : decode cX3_replay 18 = .ok (.invokevirtual 77, 3) := by decide +kernel
theorem dX3_replay_21 : decode cX3_replay 21 = .ok (.checkcast 173, 3) := by decide +kernel
theorem dX3_replay_24 : decode cX3_replay 24 = .ok (.astore_n 3, 1) := by decide +kernel
theorem dX3_replay_25 : decode cX3_replay 25 = .ok (.aload_n 3, 1) := by decide +kernel
theorem dX3_replay_26 : decode cX3_replay 26 = .ok (.getfield 172, 3) := by decide +kernel
theorem dX3_replay_29 : decode cX3_replay 29 = .ok (.ifCond .eq 26, 3) := by decide +kernel
theorem dX3_replay_32 : decode cX3_replay 32 = .ok (.aload_n 0, 1) := by decide +kernel
theorem dX3_replay_33 : decode cX3_replay 33 = .ok (.getfield 22, 3) := by decide +kernel
theorem dX3_replay_36 : decode cX3_replay 36 = .ok (.aload_n 3, 1) := by decide +kernel
theorem dX3_replay_37 : decode cX3_replay 37 = .ok (.getfield 218, 3) := by decide +kernel
theorem dX3_replay_40 : decode cX3_replay 40 = .ok (.getfield 62, 3) := by decide +kernel
theorem dX3_replay_43 : decode cX3_replay 43 = .ok (.aload_n 3, 1) := by decide +kernel
theorem dX3_replay_44 : decode cX3_replay 44 = .ok (.getfield 222, 3) := by decide +kernel
theorem dX3_replay_47 : decode cX3_replay 47 = .ok (.invokestatic 122, 3) := by decide +kernel
theorem dX3_replay_50 : decode cX3_replay 50 = .ok (.aload_n 3, 1) := by decide +kernel
theorem dX3_replay_51 : decode cX3_replay 51 = .ok (.getfield 178, 3) := by decide +kernel
theorem dX3_replay_54 : decode cX3_replay 54 = .ok (.iastore, 1) := by decide +kernel
theorem dX3_replay_55 : decode cX3_replay 55 = .ok (.iinc 2 1, 3) := by decide +kernel
theorem dX3_replay_58 : decode cX3_replay 58 = .ok (.goto (-56), 3) := by decide +kernel
theorem dX3_replay_61 : decode cX3_replay 61 = .ok (.return_, 1) := by decide +kernel
theorem dX3_transactionsIn_0 : decode cX3_transactionsIn 0 = .ok (.iconst 0, 1) := by decide +kernel
theorem dX3_transactionsIn_1 : decode cX3_transactionsIn 1 = .ok (.istore_n 2, 1) := by decide +kernel
theorem dX3_transactionsIn_2 : decode cX3_transactionsIn 2 = .ok (.iconst 0, 1) := by decide +kernel
theorem dX3_transactionsIn_3 : decode cX3_transactionsIn 3 = .ok (.istore_n 3, 1) := by decide +kernel
theorem dX3_transactionsIn_4 : decode cX3_transactionsIn 4 = .ok (.iload_n 3, 1) := by decide +kernel
theorem dX3_transactionsIn_5 : decode cX3_transactionsIn 5 = .ok (.aload_n 0, 1) := by decide +kernel
theorem dX3_transactionsIn_6 : decode cX3_transactionsIn 6 = .ok (.getfield 16, 3) := by decide +kernel
theorem dX3_transactionsIn_9 : decode cX3_transactionsIn 9 = .ok (.invokevirtual 46, 3) := by decide +kernel
theorem dX3_transactionsIn_12 : decode cX3_transactionsIn 12 = .ok (.if_icmp .ge 30, 3) := by decide +kernel
theorem dX3_transactionsIn_15 : decode cX3_transactionsIn 15 = .ok (.aload_n 0, 1) := by decide +kernel
theorem dX3_transactionsIn_16 : decode cX3_transactionsIn 16 = .ok (.getfield 16, 3) := by decide +kernel
theorem dX3_transactionsIn_19 : decode cX3_transactionsIn 19 = .ok (.iload_n 3, 1) := by decide +kernel
theorem dX3_transactionsIn_20 : decode cX3_transactionsIn 20 = .ok (.invokevirtual 77, 3) := by decide +kernel
theorem dX3_transactionsIn_23 : decode cX3_transactionsIn 23 = .ok (.checkcast 81, 3) := by decide +kernel
theorem dX3_transactionsIn_26 : decode cX3_transactionsIn 26 = .ok (.getfield 83, 3) := by decide +kernel
theorem dX3_transactionsIn_29 : decode cX3_transactionsIn 29 = .ok (.iload_n 1, 1) := by decide +kernel
theorem dX3_transactionsIn_30 : decode cX3_transactionsIn 30 = .ok (.if_icmp .ne 6, 3) := by decide +kernel
theorem dX3_transactionsIn_33 : decode cX3_transactionsIn 33 = .ok (.iinc 2 1, 3) := by decide +kernel
theorem dX3_transactionsIn_36 : decode cX3_transactionsIn 36 = .ok (.iinc 3 1, 3) := by decide +kernel
theorem dX3_transactionsIn_39 : decode cX3_transactionsIn 39 = .ok (.goto (-35), 3) := by decide +kernel
theorem dX3_transactionsIn_42 : decode cX3_transactionsIn 42 = .ok (.iload_n 2, 1) := by decide +kernel
theorem dX3_transactionsIn_43 : decode cX3_transactionsIn 43 = .ok (.ireturn, 1) := by decide +kernel
theorem dX3_lockedObjects_0 : decode cX3_lockedObjects 0 = .ok (.iconst 0, 1) := by decide +kernel
theorem dX3_lockedObjects_1 : decode cX3_lockedObjects 1 = .ok (.istore_n 1, 1) := by decide +kernel
theorem dX3_lockedObjects_2 : decode cX3_lockedObjects 2 = .ok (.iconst 0, 1) := by decide +kernel
theorem dX3_lockedObjects_3 : decode cX3_lockedObjects 3 = .ok (.istore_n 2, 1) := by decide +kernel
theorem dX3_lockedObjects_4 : decode cX3_lockedObjects 4 = .ok (.iload_n 2, 1) := by decide +kernel
theorem dX3_lockedObjects_5 : decode cX3_lockedObjects 5 = .ok (.aload_n 0, 1) := by decide +kernel
theorem dX3_lockedObjects_6 : decode cX3_lockedObjects 6 = .ok (.getfield 10, 3) := by decide +kernel
theorem dX3_lockedObjects_9 : decode cX3_lockedObjects 9 = .ok (.invokevirtual 46, 3) := by decide +kernel
theorem dX3_lockedObjects_12 : decode cX3_lockedObjects 12 = .ok (.if_icmp .ge 60, 3) := by decide +kernel
theorem dX3_lockedObjects_15 : decode cX3_lockedObjects 15 = .ok (.aload_n 0, 1) := by decide +kernel
theorem dX3_lockedObjects_16 : decode cX3_lockedObjects 16 = .ok (.getfield 10, 3) := by decide +kernel
theorem dX3_lockedObjects_19 : decode cX3_lockedObjects 19 = .ok (.iload_n 2, 1) := by decide +kernel
theorem dX3_lockedObjects_20 : decode cX3_lockedObjects 20 = .ok (.invokevirtual 77, 3) := by decide +kernel
theorem dX3_lockedObjects_23 : decode cX3_lockedObjects 23 = .ok (.checkcast 50, 3) := by decide +kernel
theorem dX3_lockedObjects_26 : decode cX3_lockedObjects 26 = .ok (.astore_n 3, 1) := by decide +kernel
theorem dX3_lockedObjects_27 : decode cX3_lockedObjects 27 = .ok (.iconst 0, 1) := by decide +kernel
theorem dX3_lockedObjects_28 : decode cX3_lockedObjects 28 = .ok (.istore 4, 2) := by decide +kernel
theorem dX3_lockedObjects_30 : decode cX3_lockedObjects 30 = .ok (.iload 4, 2) := by decide +kernel
theorem dX3_lockedObjects_32 : decode cX3_lockedObjects 32 = .ok (.bipush 8, 2) := by decide +kernel
theorem dX3_lockedObjects_34 : decode cX3_lockedObjects 34 = .ok (.if_icmp .ge 32, 3) := by decide +kernel
theorem dX3_lockedObjects_37 : decode cX3_lockedObjects 37 = .ok (.aload_n 0, 1) := by decide +kernel
theorem dX3_lockedObjects_38 : decode cX3_lockedObjects 38 = .ok (.aload_n 3, 1) := by decide +kernel
theorem dX3_lockedObjects_39 : decode cX3_lockedObjects 39 = .ok (.invokevirtual 284, 3) := by decide +kernel
theorem dX3_lockedObjects_42 : decode cX3_lockedObjects 42 = .ok (.ifCond .ne 18, 3) := by decide +kernel
theorem dX3_lockedObjects_45 : decode cX3_lockedObjects 45 = .ok (.aload_n 3, 1) := by decide +kernel
theorem dX3_lockedObjects_46 : decode cX3_lockedObjects 46 = .ok (.getfield 149, 3) := by decide +kernel
theorem dX3_lockedObjects_49 : decode cX3_lockedObjects 49 = .ok (.iload 4, 2) := by decide +kernel
theorem dX3_lockedObjects_51 : decode cX3_lockedObjects 51 = .ok (.iaload, 1) := by decide +kernel
theorem dX3_lockedObjects_52 : decode cX3_lockedObjects 52 = .ok (.bipush (-9), 2) := by decide +kernel
theorem dX3_lockedObjects_54 : decode cX3_lockedObjects 54 = .ok (.if_icmp .eq 6, 3) := by decide +kernel
theorem dX3_lockedObjects_57 : decode cX3_lockedObjects 57 = .ok (.iinc 1 1, 3) := by decide +kernel
theorem dX3_lockedObjects_60 : decode cX3_lockedObjects 60 = .ok (.iinc 4 1, 3) := by decide +kernel
theorem dX3_lockedObjects_63 : decode cX3_lockedObjects 63 = .ok (.goto (-33), 3) := by decide +kernel
theorem dX3_lockedObjects_66 : decode cX3_lockedObjects 66 = .ok (.iinc 2 1, 3) := by decide +kernel
theorem dX3_lockedObjects_69 : decode cX3_lockedObjects 69 = .ok (.goto (-65), 3) := by decide +kernel
theorem dX3_lockedObjects_72 : decode cX3_lockedObjects 72 = .ok (.iload_n 1, 1) := by decide +kernel
theorem dX3_lockedObjects_73 : decode cX3_lockedObjects 73 = .ok (.ireturn, 1) := by decide +kernel
theorem dX3_lostRegions_0 : decode cX3_lostRegions 0 = .ok (.iconst 0, 1) := by decide +kernel
theorem dX3_lostRegions_1 : decode cX3_lostRegions 1 = .ok (.istore_n 1, 1) := by decide +kernel
theorem dX3_lostRegions_2 : decode cX3_lostRegions 2 = .ok (.iconst 0, 1) := by decide +kernel
theorem dX3_lostRegions_3 : decode cX3_lostRegions 3 = .ok (.istore_n 2, 1) := by decide +kernel
theorem dX3_lostRegions_4 : decode cX3_lostRegions 4 = .ok (.iload_n 2, 1) := by decide +kernel
theorem dX3_lostRegions_5 : decode cX3_lostRegions 5 = .ok (.aload_n 0, 1) := by decide +kernel
theorem dX3_lostRegions_6 : decode cX3_lostRegions 6 = .ok (.getfield 10, 3) := by decide +kernel
theorem dX3_lostRegions_9 : decode cX3_lostRegions 9 = .ok (.invokevirtual 46, 3) := by decide +kernel
theorem dX3_lostRegions_12 : decode cX3_lostRegions 12 = .ok (.if_icmp .ge 30, 3) := by decide +kernel
theorem dX3_lostRegions_15 : decode cX3_lostRegions 15 = .ok (.aload_n 0, 1) := by decide +kernel
theorem dX3_lostRegions_16 : decode cX3_lostRegions 16 = .ok (.aload_n 0, 1) := by decide +kernel
theorem dX3_lostRegions_17 : decode cX3_lostRegions 17 = .ok (.getfield 10, 3) := by decide +kernel
theorem dX3_lostRegions_20 : decode cX3_lostRegions 20 = .ok (.iload_n 2, 1) := by decide +kernel
theorem dX3_lostRegions_21 : decode cX3_lostRegions 21 = .ok (.invokevirtual 77, 3) := by decide +kernel
theorem dX3_lostRegions_24 : decode cX3_lostRegions 24 = .ok (.checkcast 50, 3) := by decide +kernel
theorem dX3_lostRegions_27 : decode cX3_lostRegions 27 = .ok (.invokevirtual 284, 3) := by decide +kernel
theorem dX3_lostRegions_30 : decode cX3_lostRegions 30 = .ok (.ifCond .eq 6, 3) := by decide +kernel
theorem dX3_lostRegions_33 : decode cX3_lostRegions 33 = .ok (.iinc 1 1, 3) := by decide +kernel
theorem dX3_lostRegions_36 : decode cX3_lostRegions 36 = .ok (.iinc 2 1, 3) := by decide +kernel
theorem dX3_lostRegions_39 : decode cX3_lostRegions 39 = .ok (.goto (-35), 3) := by decide +kernel
theorem dX3_lostRegions_42 : decode cX3_lostRegions 42 = .ok (.iload_n 1, 1) := by decide +kernel
theorem dX3_lostRegions_43 : decode cX3_lostRegions 43 = .ok (.ireturn, 1) := by decide +kernel
theorem dX4_init_0 : decode cX4_init 0 = .ok (.aload_n 0, 1) := by decide +kernel
theorem dX4_init_1 : decode cX4_init 1 = .ok (.invokespecial 1, 3) := by decide +kernel
theorem dX4_init_4 : decode cX4_init 4 = .ok (.aload_n 0, 1) := by decide +kernel
theorem dX4_init_5 : decode cX4_init 5 = .ok (.bipush 6, 2) := by decide +kernel
theorem dX4_init_7 : decode cX4_init 7 = .ok (.newarray .boolean, 2) := by decide +kernel
theorem dX4_init_9 : decode cX4_init 9 = .ok (.putfield 7, 3) := by decide +kernel
theorem dX4_init_12 : decode cX4_init 12 = .ok (.aload_n 0, 1) := by decide +kernel
theorem dX4_init_13 : decode cX4_init 13 = .ok (.bipush 6, 2) := by decide +kernel
theorem dX4_init_15 : decode cX4_init 15 = .ok (.newarray .boolean, 2) := by decide +kernel
theorem dX4_init_17 : decode cX4_init 17 = .ok (.putfield 13, 3) := by decide +kernel
theorem dX4_init_20 : decode cX4_init 20 = .ok (.aload_n 0, 1) := by decide +kernel
theorem dX4_init_21 : decode cX4_init 21 = .ok (.bipush 6, 2) := by decide +kernel
theorem dX4_init_23 : decode cX4_init 23 = .ok (.newarray .boolean, 2) := by decide +kernel
theorem dX4_init_25 : decode cX4_init 25 = .ok (.putfield 16, 3) := by decide +kernel
theorem dX4_init_28 : decode cX4_init 28 = .ok (.aload_n 0, 1) := by decide +kernel
theorem dX4_init_29 : decode cX4_init 29 = .ok (.bipush 6, 2) := by decide +kernel
theorem dX4_init_31 : decode cX4_init 31 = .ok (.newarray .int, 2) := by decide +kernel
theorem dX4_init_33 : decode cX4_init 33 = .ok (.putfield 19, 3) := by decide +kernel
theorem dX4_init_36 : decode cX4_init 36 = .ok (.aload_n 0, 1) := by decide +kernel
theorem dX4_init_37 : decode cX4_init 37 = .ok (.bipush 36, 2) := by decide +kernel
theorem dX4_init_39 : decode cX4_init 39 = .ok (.newarray .int, 2) := by decide +kernel
theorem dX4_init_41 : decode cX4_init 41 = .ok (.putfield 23, 3) := by decide +kernel
theorem dX4_init_44 : decode cX4_init 44 = .ok (.aload_n 0, 1) := by decide +kernel
theorem dX4_init_45 : decode cX4_init 45 = .ok (.sipush 288, 3) := by decide +kernel
theorem dX4_init_48 : decode cX4_init 48 = .ok (.newarray .int, 2) := by decide +kernel
theorem dX4_init_50 : decode cX4_init 50 = .ok (.putfield 26, 3) := by decide +kernel
theorem dX4_init_53 : decode cX4_init 53 = .ok (.aload_n 0, 1) := by decide +kernel
theorem dX4_init_54 : decode cX4_init 54 = .ok (.sipush 288, 3) := by decide +kernel
theorem dX4_init_57 : decode cX4_init 57 = .ok (.newarray .int, 2) := by decide +kernel
theorem dX4_init_59 : decode cX4_init 59 = .ok (.putfield 29, 3) := by decide +kernel
theorem dX4_init_62 : decode cX4_init 62 = .ok (.aload_n 0, 1) := by decide +kernel
theorem dX4_init_63 : decode cX4_init 63 = .ok (.bipush 48, 2) := by decide +kernel
theorem dX4_init_65 : decode cX4_init 65 = .ok (.newarray .int, 2) := by decide +kernel
theorem dX4_init_67 : decode cX4_init 67 = .ok (.putfield 32, 3) := by decide +kernel
theorem dX4_init_70 : decode cX4_init 70 = .ok (.aload_n 0, 1) := by decide +kernel
theorem dX4_init_71 : decode cX4_init 71 = .ok (.bipush 60, 2) := by decide +kernel
theorem dX4_init_73 : decode cX4_init 73 = .ok (.newarray .int, 2) := by decide +kernel
theorem dX4_init_75 : decode cX4_init 75 = .ok (.putfield 35, 3) := by decide +kernel
theorem dX4_init_78 : decode cX4_init 78 = .ok (.aload_n 0, 1) := by decide +kernel
theorem dX4_init_79 : decode cX4_init 79 = .ok (.bipush 60, 2) := by decide +kernel
theorem dX4_init_81 : decode cX4_init 81 = .ok (.newarray .int, 2) := by decide +kernel
theorem dX4_init_83 : decode cX4_init 83 = .ok (.putfield 38, 3) := by decide +kernel
theorem dX4_init_86 : decode cX4_init 86 = .ok (.aload_n 0, 1) := by decide +kernel
theorem dX4_init_87 : decode cX4_init 87 = .ok (.bipush 60, 2) := by decide +kernel
theorem dX4_init_89 : decode cX4_init 89 = .ok (.newarray .int, 2) := by decide +kernel
theorem dX4_init_91 : decode cX4_init 91 = .ok (.putfield 41, 3) := by decide +kernel
theorem dX4_init_94 : decode cX4_init 94 = .ok (.aload_n 0, 1) := by decide +kernel
theorem dX4_init_95 : decode cX4_init 95 = .ok (.bipush 60, 2) := by decide +kernel
theorem dX4_init_97 : decode cX4_init 97 = .ok (.newarray .int, 2) := by decide +kernel
theorem dX4_init_99 : decode cX4_init 99 = .ok (.putfield 44, 3) := by decide +kernel
theorem dX4_init_102 : decode cX4_init 102 = .ok (.aload_n 0, 1) := by decide +kernel
theorem dX4_init_103 : decode cX4_init 103 = .ok (.bipush 60, 2) := by decide +kernel
theorem dX4_init_105 : decode cX4_init 105 = .ok (.newarray .boolean, 2) := by decide +kernel
theorem dX4_init_107 : decode cX4_init 107 = .ok (.putfield 47, 3) := by decide +kernel
theorem dX4_init_110 : decode cX4_init 110 = .ok (.aload_n 0, 1) := by decide +kernel
theorem dX4_init_111 : decode cX4_init 111 = .ok (.bipush 60, 2) := by decide +kernel
theorem dX4_init_113 : decode cX4_init 113 = .ok (.newarray .int, 2) := by decide +kernel
theorem dX4_init_115 : decode cX4_init 115 = .ok (.putfield 50, 3) := by decide +kernel
theorem dX4_init_118 : decode cX4_init 118 = .ok (.aload_n 0, 1) := by decide +kernel
theorem dX4_init_119 : decode cX4_init 119 = .ok (.sipush 480, 3) := by decide +kernel
theorem dX4_init_122 : decode cX4_init 122 = .ok (.newarray .int, 2) := by decide +kernel
theorem dX4_init_124 : decode cX4_init 124 = .ok (.putfield 53, 3) := by decide +kernel
theorem dX4_init_127 : decode cX4_init 127 = .ok (.aload_n 0, 1) := by decide +kernel
theorem dX4_init_128 : decode cX4_init 128 = .ok (.sipush 480, 3) := by decide +kernel
theorem dX4_init_131 : decode cX4_init 131 = .ok (.newarray .int, 2) := by decide +kernel
theorem dX4_init_133 : decode cX4_init 133 = .ok (.putfield 56, 3) := by decide +kernel
theorem dX4_init_136 : decode cX4_init 136 = .ok (.aload_n 0, 1) := by decide +kernel
theorem dX4_init_137 : decode cX4_init 137 = .ok (.sipush 480, 3) := by decide +kernel
theorem dX4_init_140 : decode cX4_init 140 = .ok (.newarray .int, 2) := by decide +kernel
theorem dX4_init_142 : decode cX4_init 142 = .ok (.putfield 59, 3) := by decide +kernel
theorem dX4_init_145 : decode cX4_init 145 = .ok (.aload_n 0, 1) := by decide +kernel
theorem dX4_init_146 : decode cX4_init 146 = .ok (.sipush 480, 3) := by decide +kernel
theorem dX4_init_149 : decode cX4_init 149 = .ok (.newarray .int, 2) := by decide +kernel
theorem dX4_init_151 : decode cX4_init 151 = .ok (.putfield 62, 3) := by decide +kernel
theorem dX4_init_154 : decode cX4_init 154 = .ok (.aload_n 0, 1) := by decide +kernel
theorem dX4_init_155 : decode cX4_init 155 = .ok (.sipush 480, 3) := by decide +kernel
theorem dX4_init_158 : decode cX4_init 158 = .ok (.newarray .boolean, 2) := by decide +kernel
theorem dX4_init_160 : decode cX4_init 160 = .ok (.putfield 65, 3) := by decide +kernel
theorem dX4_init_163 : decode cX4_init 163 = .ok (.aload_n 0, 1) := by decide +kernel
theorem dX4_init_164 : decode cX4_init 164 = .ok (.sipush 480, 3) := by decide +kernel
theorem dX4_init_167 : decode cX4_init 167 = .ok (.newarray .int, 2) := by decide +kernel
theorem dX4_init_169 : decode cX4_init 169 = .ok (.putfield 68, 3) := by decide +kernel
theorem dX4_init_172 : decode cX4_init 172 = .ok (.aload_n 0, 1) := by decide +kernel
theorem dX4_init_173 : decode cX4_init 173 = .ok (.sipush 480, 3) := by decide +kernel
theorem dX4_init_176 : decode cX4_init 176 = .ok (.newarray .int, 2) := by decide +kernel
theorem dX4_init_178 : decode cX4_init 178 = .ok (.putfield 71, 3) := by decide +kernel
theorem dX4_init_181 : decode cX4_init 181 = .ok (.aload_n 0, 1) := by decide +kernel
theorem dX4_init_182 : decode cX4_init 182 = .ok (.sipush 1440, 3) := by decide +kernel
theorem dX4_init_185 : decode cX4_init 185 = .ok (.newarray .int, 2) := by decide +kernel
theorem dX4_init_187 : decode cX4_init 187 = .ok (.putfield 74, 3) := by decide +kernel
theorem dX4_init_190 : decode cX4_init 190 = .ok (.aload_n 0, 1) := by decide +kernel
theorem dX4_init_191 : decode cX4_init 191 = .ok (.sipush 1440, 3) := by decide +kernel
theorem dX4_init_194 : decode cX4_init 194 = .ok (.newarray .int, 2) := by decide +kernel
theorem dX4_init_196 : decode cX4_init 196 = .ok (.putfield 77, 3) := by decide +kernel
theorem dX4_init_199 : decode cX4_init 199 = .ok (.aload_n 0, 1) := by decide +kernel
theorem dX4_init_200 : decode cX4_init 200 = .ok (.bipush 6, 2) := by decide +kernel
theorem dX4_init_202 : decode cX4_init 202 = .ok (.newarray .int, 2) := by decide +kernel
theorem dX4_init_204 : decode cX4_init 204 = .ok (.putfield 80, 3) := by decide +kernel
theorem dX4_init_207 : decode cX4_init 207 = .ok (.aload_n 0, 1) := by decide +kernel
theorem dX4_init_208 : decode cX4_init 208 = .ok (.bipush 48, 2) := by decide +kernel
theorem dX4_init_210 : decode cX4_init 210 = .ok (.newarray .int, 2) := by decide +kernel
theorem dX4_init_212 : decode cX4_init 212 = .ok (.putfield 83, 3) := by decide +kernel
theorem dX4_init_215 : decode cX4_init 215 = .ok (.iconst 0, 1) := by decide +kernel
theorem dX4_init_216 : decode cX4_init 216 = .ok (.istore_n 1, 1) := by decide +kernel
theorem dX4_init_217 : decode cX4_init 217 = .ok (.iload_n 1, 1) := by decide +kernel
theorem dX4_init_218 : decode cX4_init 218 = .ok (.bipush 6, 2) := by decide +kernel
theorem dX4_init_220 : decode cX4_init 220 = .ok (.if_icmp .ge 23, 3) := by decide +kernel
theorem dX4_init_223 : decode cX4_init 223 = .ok (.aload_n 0, 1) := by decide +kernel
theorem dX4_init_224 : decode cX4_init 224 = .ok (.getfield 7, 3) := by decide +kernel
theorem dX4_init_227 : decode cX4_init 227 = .ok (.iload_n 1, 1) := by decide +kernel
theorem dX4_init_228 : decode cX4_init 228 = .ok (.iconst 1, 1) := by decide +kernel
theorem dX4_init_229 : decode cX4_init 229 = .ok (.bastore, 1) := by decide +kernel
theorem dX4_init_230 : decode cX4_init 230 = .ok (.aload_n 0, 1) := by decide +kernel
theorem dX4_init_231 : decode cX4_init 231 = .ok (.getfield 13, 3) := by decide +kernel
theorem dX4_init_234 : decode cX4_init 234 = .ok (.iload_n 1, 1) := by decide +kernel
theorem dX4_init_235 : decode cX4_init 235 = .ok (.iconst 1, 1) := by decide +kernel
theorem dX4_init_236 : decode cX4_init 236 = .ok (.bastore, 1) := by decide +kernel
theorem dX4_init_237 : decode cX4_init 237 = .ok (.iinc 1 1, 3) := by decide +kernel
theorem dX4_init_240 : decode cX4_init 240 = .ok (.goto (-23), 3) := by decide +kernel
theorem dX4_init_243 : decode cX4_init 243 = .ok (.iconst 0, 1) := by decide +kernel
theorem dX4_init_244 : decode cX4_init 244 = .ok (.istore_n 1, 1) := by decide +kernel
theorem dX4_init_245 : decode cX4_init 245 = .ok (.iload_n 1, 1) := by decide +kernel
theorem dX4_init_246 : decode cX4_init 246 = .ok (.bipush 48, 2) := by decide +kernel
theorem dX4_init_248 : decode cX4_init 248 = .ok (.if_icmp .ge 17, 3) := by decide +kernel
theorem dX4_init_251 : decode cX4_init 251 = .ok (.aload_n 0, 1) := by decide +kernel
theorem dX4_init_252 : decode cX4_init 252 = .ok (.getfield 32, 3) := by decide +kernel
theorem dX4_init_255 : decode cX4_init 255 = .ok (.iload_n 1, 1) := by decide +kernel
theorem dX4_init_256 : decode cX4_init 256 = .ok (.bipush (-9), 2) := by decide +kernel
theorem dX4_init_258 : decode cX4_init 258 = .ok (.iastore, 1) := by decide +kernel
theorem dX4_init_259 : decode cX4_init 259 = .ok (.iinc 1 1, 3) := by decide +kernel
theorem dX4_init_262 : decode cX4_init 262 = .ok (.goto (-17), 3) := by decide +kernel
theorem dX4_init_265 : decode cX4_init 265 = .ok (.return_, 1) := by decide +kernel
theorem dX4_in_0 : decode cX4_in 0 = .ok (.lload_n 0, 1) := by decide +kernel
theorem dX4_in_1 : decode cX4_in 1 = .ok (.lload_n 2, 1) := by decide +kernel
theorem dX4_in_2 : decode cX4_in 2 = .ok (.lcmp, 1) := by decide +kernel
theorem dX4_in_3 : decode cX4_in 3 = .ok (.ifCond .lt 14, 3) := by decide +kernel
theorem dX4_in_6 : decode cX4_in 6 = .ok (.lload_n 0, 1) := by decide +kernel
theorem dX4_in_7 : decode cX4_in 7 = .ok (.lload 4, 2) := by decide +kernel
theorem dX4_in_9 : decode cX4_in 9 = .ok (.lcmp, 1) := by decide +kernel
theorem dX4_in_10 : decode cX4_in 10 = .ok (.ifCond .gt 7, 3) := by decide +kernel
theorem dX4_in_13 : decode cX4_in 13 = .ok (.iconst 1, 1) := by decide +kernel
theorem dX4_in_14 : decode cX4_in 14 = .ok (.goto 4, 3) := by decide +kernel
theorem dX4_in_17 : decode cX4_in 17 = .ok (.iconst 0, 1) := by decide +kernel
theorem dX4_in_18 : decode cX4_in 18 = .ok (.ireturn, 1) := by decide +kernel
theorem dX4_isMachine_0 : decode cX4_isMachine 0 = .ok (.iload_n 0, 1) := by decide +kernel
theorem dX4_isMachine_1 : decode cX4_isMachine 1 = .ok (.i2l, 1) := by decide +kernel
theorem dX4_isMachine_2 : decode cX4_isMachine 2 = .ok (.lconst 0, 1) := by decide +kernel
theorem dX4_isMachine_3 : decode cX4_isMachine 3 = .ok (.ldc2_w 86, 3) := by decide +kernel
theorem dX4_isMachine_6 : decode cX4_isMachine 6 = .ok (.invokestatic 88, 3) := by decide +kernel
theorem dX4_isMachine_9 : decode cX4_isMachine 9 = .ok (.ireturn, 1) := by decide +kernel
theorem dX4_isRegion_0 : decode cX4_isRegion 0 = .ok (.iload_n 1, 1) := by decide +kernel
theorem dX4_isRegion_1 : decode cX4_isRegion 1 = .ok (.i2l, 1) := by decide +kernel
theorem dX4_isRegion_2 : decode cX4_isRegion 2 = .ok (.lconst 0, 1) := by decide +kernel
theorem dX4_isRegion_3 : decode cX4_isRegion 3 = .ok (.aload_n 0, 1) := by decide +kernel
theorem dX4_isRegion_4 : decode cX4_isRegion 4 = .ok (.getfield 92, 3) := by decide +kernel
theorem dX4_isRegion_7 : decode cX4_isRegion 7 = .ok (.iconst 1, 1) := by decide +kernel
theorem dX4_isRegion_8 : decode cX4_isRegion 8 = .ok (.isub, 1) := by decide +kernel
theorem dX4_isRegion_9 : decode cX4_isRegion 9 = .ok (.i2l, 1) := by decide +kernel
theorem dX4_isRegion_10 : decode cX4_isRegion 10 = .ok (.invokestatic 88, 3) := by decide +kernel
theorem dX4_isRegion_13 : decode cX4_isRegion 13 = .ok (.ireturn, 1) := by decide +kernel
theorem dX4_isOn_0 : decode cX4_isOn 0 = .ok (.aload_n 0, 1) := by decide +kernel
theorem dX4_isOn_1 : decode cX4_isOn 1 = .ok (.getfield 13, 3) := by decide +kernel
theorem dX4_isOn_4 : decode cX4_isOn 4 = .ok (.aload_n 0, 1) := by decide +kernel
theorem dX4_isOn_5 : decode cX4_isOn 5 = .ok (.getfield 23, 3) := by decide +kernel
theorem dX4_isOn_8 : decode cX4_isOn 8 = .ok (.bipush 6, 2) := by decide +kernel
theorem dX4_isOn_10 : decode cX4_isOn 10 = .ok (.iload_n 1, 1) := by decide +kernel
theorem dX4_isOn_11 : decode cX4_isOn 11 = .ok (.imul, 1) := by decide +kernel
theorem dX4_isOn_12 : decode cX4_isOn 12 = .ok (.iload_n 2, 1) := by decide +kernel
theorem dX4_isOn_13 : decode cX4_isOn 13 = .ok (.iadd, 1) := by decide +kernel
theorem dX4_isOn_14 : decode cX4_isOn 14 = .ok (.iaload, 1) := by decide +kernel
theorem dX4_isOn_15 : decode cX4_isOn 15 = .ok (.baload, 1) := by decide +kernel
theorem dX4_isOn_16 : decode cX4_isOn 16 = .ok (.ireturn, 1) := by decide +kernel
theorem dX4_placeOf_0 : decode cX4_placeOf 0 = .ok (.iload_n 2, 1) := by decide +kernel
theorem dX4_placeOf_1 : decode cX4_placeOf 1 = .ok (.istore_n 3, 1) := by decide +kernel
theorem dX4_placeOf_2 : decode cX4_placeOf 2 = .ok (.iconst 0, 1) := by decide +kernel
theorem dX4_placeOf_3 : decode cX4_placeOf 3 = .ok (.istore 4, 2) := by decide +kernel
theorem dX4_placeOf_5 : decode cX4_placeOf 5 = .ok (.iload 4, 2) := by decide +kernel
theorem dX4_placeOf_7 : decode cX4_placeOf 7 = .ok (.aload_n 0, 1) := by decide +kernel
theorem dX4_placeOf_8 : decode cX4_placeOf 8 = .ok (.getfield 19, 3) := by decide +kernel
theorem dX4_placeOf_11 : decode cX4_placeOf 11 = .ok (.iload_n 1, 1) := by decide +kernel
theorem dX4_placeOf_12 : decode cX4_placeOf 12 = .ok (.iaload, 1) := by decide +kernel
theorem dX4_placeOf_13 : decode cX4_placeOf 13 = .ok (.if_icmp .ge 33, 3) := by decide +kernel
theorem dX4_placeOf_16 : decode cX4_placeOf 16 = .ok (.iload_n 2, 1) := by decide +kernel
theorem dX4_placeOf_17 : decode cX4_placeOf 17 = .ok (.ifCond .lt 29, 3) := by decide +kernel
theorem dX4_placeOf_20 : decode cX4_placeOf 20 = .ok (.aload_n 0, 1) := by decide +kernel
theorem dX4_placeOf_21 : decode cX4_placeOf 21 = .ok (.iload_n 1, 1) := by decide +kernel
theorem dX4_placeOf_22 : decode cX4_placeOf 22 = .ok (.iload 4, 2) := by decide +kernel
theorem dX4_placeOf_24 : decode cX4_placeOf 24 = .ok (.invokevirtual 96, 3) := by decide +kernel
theorem dX4_placeOf_27 : decode cX4_placeOf 27 = .ok (.ifCond .eq 13, 3) := by decide +kernel
theorem dX4_placeOf_30 : decode cX4_placeOf 30 = .ok (.iload_n 3, 1) := by decide +kernel
theorem dX4_placeOf_31 : decode cX4_placeOf 31 = .ok (.ifCond .ne 6, 3) := by decide +kernel
theorem dX4_placeOf_34 : decode cX4_placeOf 34 = .ok (.iload 4, 2) := by decide +kernel
theorem dX4_placeOf_36 : decode cX4_placeOf 36 = .ok (.ireturn, 1) := by decide +kernel
theorem dX4_placeOf_37 : decode cX4_placeOf 37 = .ok (.iinc 3 (-1), 3) := by decide +kernel
theorem dX4_placeOf_40 : decode cX4_placeOf 40 = .ok (.iinc 4 1, 3) := by decide +kernel
theorem dX4_placeOf_43 : decode cX4_placeOf 43 = .ok (.goto (-38), 3) := by decide +kernel
theorem dX4_placeOf_46 : decode cX4_placeOf 46 = .ok (.bipush (-9), 2) := by decide +kernel
theorem dX4_placeOf_48 : decode cX4_placeOf 48 = .ok (.ireturn, 1) := by decide +kernel
theorem dX4_onMembers_0 : decode cX4_onMembers 0 = .ok (.iconst 0, 1) := by decide +kernel
theorem dX4_onMembers_1 : decode cX4_onMembers 1 = .ok (.istore_n 2, 1) := by decide +kernel
theorem dX4_onMembers_2 : decode cX4_onMembers 2 = .ok (.iconst 0, 1) := by decide +kernel
theorem dX4_onMembers_3 : decode cX4_onMembers 3 = .ok (.istore_n 3, 1) := by decide +kernel
theorem dX4_onMembers_4 : decode cX4_onMembers 4 = .ok (.iload_n 3, 1) := by decide +kernel
theorem dX4_onMembers_5 : decode cX4_onMembers 5 = .ok (.aload_n 0, 1) := by decide +kernel
theorem dX4_onMembers_6 : decode cX4_onMembers 6 = .ok (.getfield 19, 3) := by decide +kernel
theorem dX4_onMembers_9 : decode cX4_onMembers 9 = .ok (.iload_n 1, 1) := by decide +kernel
theorem dX4_onMembers_10 : decode cX4_onMembers 10 = .ok (.iaload, 1) := by decide +kernel
theorem dX4_onMembers_11 : decode cX4_onMembers 11 = .ok (.if_icmp .ge 26, 3) := by decide +kernel
theorem dX4_onMembers_14 : decode cX4_onMembers 14 = .ok (.iload_n 2, 1) := by decide +kernel
theorem dX4_onMembers_15 : decode cX4_onMembers 15 = .ok (.aload_n 0, 1) := by decide +kernel
theorem dX4_onMembers_16 : decode cX4_onMembers 16 = .ok (.iload_n 1, 1) := by decide +kernel
theorem dX4_onMembers_17 : decode cX4_onMembers 17 = .ok (.iload_n 3, 1) := by decide +kernel
theorem dX4_onMembers_18 : decode cX4_onMembers 18 = .ok (.invokevirtual 96, 3) := by decide +kernel
theorem dX4_onMembers_21 : decode cX4_onMembers 21 = .ok (.ifCond .eq 7, 3) := by decide +kernel
theorem dX4_onMembers_24 : decode cX4_onMembers 24 = .ok (.iconst 1, 1) := by decide +kernel
theorem dX4_onMembers_25 : decode cX4_onMembers 25 = .ok (.goto 4, 3) := by decide +kernel
theorem dX4_onMembers_28 : decode cX4_onMembers 28 = .ok (.iconst 0, 1) := by decide +kernel
theorem dX4_onMembers_29 : decode cX4_onMembers 29 = .ok (.iadd, 1) := by decide +kernel
theorem dX4_onMembers_30 : decode cX4_onMembers 30 = .ok (.istore_n 2, 1) := by decide +kernel
theorem dX4_onMembers_31 : decode cX4_onMembers 31 = .ok (.iinc 3 1, 3) := by decide +kernel
theorem dX4_onMembers_34 : decode cX4_onMembers 34 = .ok (.goto (-30), 3) := by decide +kernel
theorem dX4_onMembers_37 : decode cX4_onMembers 37 = .ok (.iload_n 2, 1) := by decide +kernel
theorem dX4_onMembers_38 : decode cX4_onMembers 38 = .ok (.ireturn, 1) := by decide +kernel
theorem dX4_isLost_0 : decode cX4_isLost 0 = .ok (.aload_n 0, 1) := by decide +kernel
theorem dX4_isLost_1 : decode cX4_isLost 1 = .ok (.iload_n 1, 1) := by decide +kernel
theorem dX4_isLost_2 : decode cX4_isLost 2 = .ok (.invokevirtual 100, 3) := by decide +kernel
theorem dX4_isLost_5 : decode cX4_isLost 5 = .ok (.ifCond .ne 7, 3) := by decide +kernel
theorem dX4_isLost_8 : decode cX4_isLost 8 = .ok (.iconst 1, 1) := by decide +kernel
theorem dX4_isLost_9 : decode cX4_isLost 9 = .ok (.goto 4, 3) := by decide +kernel
theorem dX4_isLost_12 : decode cX4_isLost 12 = .ok (.iconst 0, 1) := by decide +kernel
theorem dX4_isLost_13 : decode cX4_isLost 13 = .ok (.ireturn, 1) := by decide +kernel
theorem dX4_primary_0 : decode cX4_primary 0 = .ok (.aload_n 0, 1) := by decide +kernel
theorem dX4_primary_1 : decode cX4_primary 1 = .ok (.iload_n 1, 1) := by decide +kernel
theorem dX4_primary_2 : decode cX4_primary 2 = .ok (.iconst 0, 1) := by decide +kernel
theorem dX4_primary_3 : decode cX4_primary 3 = .ok (.invokevirtual 104, 3) := by decide +kernel
theorem dX4_primary_6 : decode cX4_primary 6 = .ok (.ireturn, 1) := by decide +kernel
theorem dX4_isUpAt_0 : decode cX4_isUpAt 0 = .ok (.aload_n 0, 1) := by decide +kernel
theorem dX4_isUpAt_1 : decode cX4_isUpAt 1 = .ok (.getfield 7, 3) := by decide +kernel
theorem dX4_isUpAt_4 : decode cX4_isUpAt 4 = .ok (.aload_n 0, 1) := by decide +kernel
theorem dX4_isUpAt_5 : decode cX4_isUpAt 5 = .ok (.getfield 23, 3) := by decide +kernel
theorem dX4_isUpAt_8 : decode cX4_isUpAt 8 = .ok (.bipush 6, 2) := by decide +kernel
theorem dX4_isUpAt_10 : decode cX4_isUpAt 10 = .ok (.iload_n 1, 1) := by decide +kernel
theorem dX4_isUpAt_11 : decode cX4_isUpAt 11 = .ok (.imul, 1) := by decide +kernel
theorem dX4_isUpAt_12 : decode cX4_isUpAt 12 = .ok (.iload_n 2, 1) := by decide +kernel
theorem dX4_isUpAt_13 : decode cX4_isUpAt 13 = .ok (.iadd, 1) := by decide +kernel
theorem dX4_isUpAt_14 : decode cX4_isUpAt 14 = .ok (.iaload, 1) := by decide +kernel
theorem dX4_isUpAt_15 : decode cX4_isUpAt 15 = .ok (.baload, 1) := by decide +kernel
theorem dX4_isUpAt_16 : decode cX4_isUpAt 16 = .ok (.ireturn, 1) := by decide +kernel
theorem dX4_up_0 : decode cX4_up 0 = .ok (.iconst 0, 1) := by decide +kernel
theorem dX4_up_1 : decode cX4_up 1 = .ok (.istore_n 1, 1) := by decide +kernel
theorem dX4_up_2 : decode cX4_up 2 = .ok (.iconst 0, 1) := by decide +kernel
theorem dX4_up_3 : decode cX4_up 3 = .ok (.istore_n 2, 1) := by decide +kernel
theorem dX4_up_4 : decode cX4_up 4 = .ok (.iload_n 2, 1) := by decide +kernel
theorem dX4_up_5 : decode cX4_up 5 = .ok (.bipush 6, 2) := by decide +kernel
theorem dX4_up_7 : decode cX4_up 7 = .ok (.if_icmp .ge 26, 3) := by decide +kernel
theorem dX4_up_10 : decode cX4_up 10 = .ok (.iload_n 1, 1) := by decide +kernel
theorem dX4_up_11 : decode cX4_up 11 = .ok (.aload_n 0, 1) := by decide +kernel
theorem dX4_up_12 : decode cX4_up 12 = .ok (.getfield 7, 3) := by decide +kernel
theorem dX4_up_15 : decode cX4_up 15 = .ok (.iload_n 2, 1) := by decide +kernel
theorem dX4_up_16 : decode cX4_up 16 = .ok (.baload, 1) := by decide +kernel
theorem dX4_up_17 : decode cX4_up 17 = .ok (.ifCond .eq 7, 3) := by decide +kernel
theorem dX4_up_20 : decode cX4_up 20 = .ok (.iconst 1, 1) := by decide +kernel
theorem dX4_up_21 : decode cX4_up 21 = .ok (.goto 4, 3) := by decide +kernel
theorem dX4_up_24 : decode cX4_up 24 = .ok (.iconst 0, 1) := by decide +kernel
theorem dX4_up_25 : decode cX4_up 25 = .ok (.iadd, 1) := by decide +kernel
theorem dX4_up_26 : decode cX4_up 26 = .ok (.istore_n 1, 1) := by decide +kernel
theorem dX4_up_27 : decode cX4_up 27 = .ok (.iinc 2 1, 3) := by decide +kernel
theorem dX4_up_30 : decode cX4_up 30 = .ok (.goto (-26), 3) := by decide +kernel
theorem dX4_up_33 : decode cX4_up 33 = .ok (.iload_n 1, 1) := by decide +kernel
theorem dX4_up_34 : decode cX4_up 34 = .ok (.ireturn, 1) := by decide +kernel
theorem dX4_region_0 : decode cX4_region 0 = .ok (.iload_n 1, 1) := by decide +kernel
theorem dX4_region_1 : decode cX4_region 1 = .ok (.invokestatic 108, 3) := by decide +kernel
theorem dX4_region_4 : decode cX4_region 4 = .ok (.ifCond .eq 35, 3) := by decide +kernel
theorem dX4_region_7 : decode cX4_region 7 = .ok (.iload_n 2, 1) := by decide +kernel
theorem dX4_region_8 : decode cX4_region 8 = .ok (.bipush (-9), 2) := by decide +kernel
theorem dX4_region_10 : decode cX4_region 10 = .ok (.if_icmp .eq 10, 3) := by decide +kernel
theorem dX4_region_13 : decode cX4_region 13 = .ok (.iload_n 2, 1) := by decide +kernel
theorem dX4_region_14 : decode cX4_region 14 = .ok (.invokestatic 108, 3) := by decide +kernel
theorem dX4_region_17 : decode cX4_region 17 = .ok (.ifCond .eq 22, 3) := by decide +kernel
theorem dX4_region_20 : decode cX4_region 20 = .ok (.iload_n 3, 1) := by decide +kernel
theorem dX4_region_21 : decode cX4_region 21 = .ok (.bipush (-9), 2) := by decide +kernel
theorem dX4_region_23 : decode cX4_region 23 = .ok (.if_icmp .eq 18, 3) := by decide +kernel
theorem dX4_region_26 : decode cX4_region 26 = .ok (.iload_n 3, 1) := by decide +kernel
theorem dX4_region_27 : decode cX4_region 27 = .ok (.invokestatic 108, 3) := by decide +kernel
theorem dX4_region_30 : decode cX4_region 30 = .ok (.ifCond .eq 9, 3) := by decide +kernel
theorem dX4_region_33 : decode cX4_region 33 = .ok (.iload_n 2, 1) := by decide +kernel
theorem dX4_region_34 : decode cX4_region 34 = .ok (.bipush (-9), 2) := by decide +kernel
theorem dX4_region_36 : decode cX4_region 36 = .ok (.if_icmp .ne 5, 3) := by decide +kernel
theorem dX4_region_39 : decode cX4_region 39 = .ok (.iconst (-1), 1) := by decide +kernel
theorem dX4_region_40 : decode cX4_region 40 = .ok (.ireturn, 1) := by decide +kernel
theorem dX4_region_41 : decode cX4_region 41 = .ok (.iload_n 1, 1) := by decide +kernel
theorem dX4_region_42 : decode cX4_region 42 = .ok (.iload_n 2, 1) := by decide +kernel
theorem dX4_region_43 : decode cX4_region 43 = .ok (.if_icmp .eq 28, 3) := by decide +kernel
theorem dX4_region_46 : decode cX4_region 46 = .ok (.iload_n 1, 1) := by decide +kernel
theorem dX4_region_47 : decode cX4_region 47 = .ok (.iload_n 3, 1) := by decide +kernel
theorem dX4_region_48 : decode cX4_region 48 = .ok (.if_icmp .eq 23, 3) := by decide +kernel
theorem dX4_region_51 : decode cX4_region 51 = .ok (.iload_n 2, 1) := by decide +kernel
theorem dX4_region_52 : decode cX4_region 52 = .ok (.iload_n 3, 1) := by decide +kernel
theorem dX4_region_53 : decode cX4_region 53 = .ok (.if_icmp .ne 9, 3) := by decide +kernel
theorem dX4_region_56 : decode cX4_region 56 = .ok (.iload_n 2, 1) := by decide +kernel
theorem dX4_region_57 : decode cX4_region 57 = .ok (.bipush (-9), 2) := by decide +kernel
theorem dX4_region_59 : decode cX4_region 59 = .ok (.if_icmp .ne 12, 3) := by decide +kernel
theorem dX4_region_62 : decode cX4_region 62 = .ok (.aload_n 0, 1) := by decide +kernel
theorem dX4_region_63 : decode cX4_region 63 = .ok (.getfield 13, 3) := by decide +kernel
theorem dX4_region_66 : decode cX4_region 66 = .ok (.iload_n 1, 1) := by decide +kernel
theorem dX4_region_67 : decode cX4_region 67 = .ok (.baload, 1) := by decide +kernel
theorem dX4_region_68 : decode cX4_region 68 = .ok (.ifCond .ne 7, 3) := by decide +kernel
theorem dX4_region_71 : decode cX4_region 71 = .ok (.iconst 1, 1) := by decide +kernel
theorem dX4_region_72 : decode cX4_region 72 = .ok (.goto 4, 3) := by decide +kernel
theorem dX4_region_75 : decode cX4_region 75 = .ok (.iconst 0, 1) := by decide +kernel
theorem dX4_region_76 : decode cX4_region 76 = .ok (.istore 4, 2) := by decide +kernel
theorem dX4_region_78 : decode cX4_region 78 = .ok (.iload 4, 2) := by decide +kernel
theorem dX4_region_80 : decode cX4_region 80 = .ok (.ifCond .ne 18, 3) := by decide +kernel
theorem dX4_region_83 : decode cX4_region 83 = .ok (.iload_n 2, 1) := by decide +kernel
theorem dX4_region_84 : decode cX4_region 84 = .ok (.bipush (-9), 2) := by decide +kernel
theorem dX4_region_86 : decode cX4_region 86 = .ok (.if_icmp .eq 16, 3) := by decide +kernel
theorem dX4_region_89 : decode cX4_region 89 = .ok (.aload_n 0, 1) := by decide +kernel
theorem dX4_region_90 : decode cX4_region 90 = .ok (.getfield 13, 3) := by decide +kernel
theorem dX4_region_93 : decode cX4_region 93 = .ok (.iload_n 2, 1) := by decide +kernel
theorem dX4_region_94 : decode cX4_region 94 = .ok (.baload, 1) := by decide +kernel
theorem dX4_region_95 : decode cX4_region 95 = .ok (.ifCond .ne 7, 3) := by decide +kernel
theorem dX4_region_98 : decode cX4_region 98 = .ok (.iconst 1, 1) := by decide +kernel
theorem dX4_region_99 : decode cX4_region 99 = .ok (.goto 4, 3) := by decide +kernel
theorem dX4_region_102 : decode cX4_region 102 = .ok (.iconst 0, 1) := by decide +kernel
theorem dX4_region_103 : decode cX4_region 103 = .ok (.istore 4, 2) := by decide +kernel
theorem dX4_region_105 : decode cX4_region 105 = .ok (.iload 4, 2) := by decide +kernel
theorem dX4_region_107 : decode cX4_region 107 = .ok (.ifCond .ne 18, 3) := by decide +kernel
theorem dX4_region_110 : decode cX4_region 110 = .ok (.iload_n 3, 1) := by decide +kernel
theorem dX4_region_111 : decode cX4_region 111 = .ok (.bipush (-9), 2) := by decide +kernel
theorem dX4_region_113 : decode cX4_region 113 = .ok (.if_icmp .eq 16, 3) := by decide +kernel
theorem dX4_region_116 : decode cX4_region 116 = .ok (.aload_n 0, 1) := by decide +kernel
theorem dX4_region_117 : decode cX4_region 117 = .ok (.getfield 13, 3) := by decide +kernel
theorem dX4_region_120 : decode cX4_region 120 = .ok (.iload_n 3, 1) := by decide +kernel
theorem dX4_region_121 : decode cX4_region 121 = .ok (.baload, 1) := by decide +kernel
theorem dX4_region_122 : decode cX4_region 122 = .ok (.ifCond .ne 7, 3) := by decide +kernel
theorem dX4_region_125 : decode cX4_region 125 = .ok (.iconst 1, 1) := by decide +kernel
theorem dX4_region_126 : decode cX4_region 126 = .ok (.goto 4, 3) := by decide +kernel
theorem dX4_region_129 : decode cX4_region 129 = .ok (.iconst 0, 1) := by decide +kernel
theorem dX4_region_130 : decode cX4_region 130 = .ok (.istore 4, 2) := by decide +kernel
theorem dX4_region_132 : decode cX4_region 132 = .ok (.iload 4, 2) := by decide +kernel
theorem dX4_region_134 : decode cX4_region 134 = .ok (.ifCond .eq 6, 3) := by decide +kernel
theorem dX4_region_137 : decode cX4_region 137 = .ok (.bipush (-3), 2) := by decide +kernel
theorem dX4_region_139 : decode cX4_region 139 = .ok (.ireturn, 1) := by decide +kernel
theorem dX4_region_140 : decode cX4_region 140 = .ok (.aload_n 0, 1) := by decide +kernel
theorem dX4_region_141 : decode cX4_region 141 = .ok (.getfield 92, 3) := by decide +kernel
theorem dX4_region_144 : decode cX4_region 144 = .ok (.bipush 6, 2) := by decide +kernel
theorem dX4_region_146 : decode cX4_region 146 = .ok (.if_icmp .ne 6, 3) := by decide +kernel
theorem dX4_region_149 : decode cX4_region 149 = .ok (.bipush (-4), 2) := by decide +kernel
theorem dX4_region_151 : decode cX4_region 151 = .ok (.ireturn, 1) := by decide +kernel
theorem dX4_region_152 : decode cX4_region 152 = .ok (.aload_n 0, 1) := by decide +kernel
theorem dX4_region_153 : decode cX4_region 153 = .ok (.getfield 92, 3) := by decide +kernel
theorem dX4_region_156 : decode cX4_region 156 = .ok (.istore 5, 2) := by decide +kernel
theorem dX4_region_158 : decode cX4_region 158 = .ok (.aload_n 0, 1) := by decide +kernel
theorem dX4_region_159 : decode cX4_region 159 = .ok (.dup, 1) := by decide +kernel
theorem dX4_region_160 : decode cX4_region 160 = .ok (.getfield 92, 3) := by decide +kernel
theorem dX4_region_163 : decode cX4_region 163 = .ok (.iconst 1, 1) := by decide +kernel
theorem dX4_region_164 : decode cX4_region 164 = .ok (.iadd, 1) := by decide +kernel
theorem dX4_region_165 : decode cX4_region 165 = .ok (.putfield 92, 3) := by decide +kernel
theorem dX4_region_168 : decode cX4_region 168 = .ok (.aload_n 0, 1) := by decide +kernel
theorem dX4_region_169 : decode cX4_region 169 = .ok (.getfield 23, 3) := by decide +kernel
theorem dX4_region_172 : decode cX4_region 172 = .ok (.bipush 6, 2) := by decide +kernel
theorem dX4_region_174 : decode cX4_region 174 = .ok (.iload 5, 2) := by decide +kernel
theorem dX4_region_176 : decode cX4_region 176 = .ok (.imul, 1) := by decide +kernel
theorem dX4_region_177 : decode cX4_region 177 = .ok (.iload_n 1, 1) := by decide +kernel
theorem dX4_region_178 : decode cX4_region 178 = .ok (.iastore, 1) := by decide +kernel
theorem dX4_region_179 : decode cX4_region 179 = .ok (.aload_n 0, 1) := by decide +kernel
theorem dX4_region_180 : decode cX4_region 180 = .ok (.getfield 19, 3) := by decide +kernel
theorem dX4_region_183 : decode cX4_region 183 = .ok (.iload 5, 2) := by decide +kernel
theorem dX4_region_185 : decode cX4_region 185 = .ok (.iconst 1, 1) := by decide +kernel
theorem dX4_region_186 : decode cX4_region 186 = .ok (.iastore, 1) := by decide +kernel
theorem dX4_region_187 : decode cX4_region 187 = .ok (.iload_n 2, 1) := by decide +kernel
theorem dX4_region_188 : decode cX4_region 188 = .ok (.bipush (-9), 2) := by decide +kernel
theorem dX4_region_190 : decode cX4_region 190 = .ok (.if_icmp .eq 24, 3) := by decide +kernel
theorem dX4_region_193 : decode cX4_region 193 = .ok (.aload_n 0, 1) := by decide +kernel
theorem dX4_region_194 : decode cX4_region 194 = .ok (.getfield 23, 3) := by decide +kernel
theorem dX4_region_197 : decode cX4_region 197 = .ok (.bipush 6, 2) := by decide +kernel
theorem dX4_region_199 : decode cX4_region 199 = .ok (.iload 5, 2) := by decide +kernel
theorem dX4_region_201 : decode cX4_region 201 = .ok (.imul, 1) := by decide +kernel
theorem dX4_region_202 : decode cX4_region 202 = .ok (.iconst 1, 1) := by decide +kernel
theorem dX4_region_203 : decode cX4_region 203 = .ok (.iadd, 1) := by decide +kernel
theorem dX4_region_204 : decode cX4_region 204 = .ok (.iload_n 2, 1) := by decide +kernel
theorem dX4_region_205 : decode cX4_region 205 = .ok (.iastore, 1) := by decide +kernel
theorem dX4_region_206 : decode cX4_region 206 = .ok (.aload_n 0, 1) := by decide +kernel
theorem dX4_region_207 : decode cX4_region 207 = .ok (.getfield 19, 3) := by decide +kernel
theorem dX4_region_210 : decode cX4_region 210 = .ok (.iload 5, 2) := by decide +kernel
theorem dX4_region_212 : decode cX4_region 212 = .ok (.iconst 2, 1) := by decide +kernel
theorem dX4_region_213 : decode cX4_region 213 = .ok (.iastore, 1) := by decide +kernel
theorem dX4_region_214 : decode cX4_region 214 = .ok (.iload_n 3, 1) := by decide +kernel
theorem dX4_region_215 : decode cX4_region 215 = .ok (.bipush (-9), 2) := by decide +kernel
theorem dX4_region_217 : decode cX4_region 217 = .ok (.if_icmp .eq 24, 3) := by decide +kernel
theorem dX4_region_220 : decode cX4_region 220 = .ok (.aload_n 0, 1) := by decide +kernel
theorem dX4_region_221 : decode cX4_region 221 = .ok (.getfield 23, 3) := by decide +kernel
theorem dX4_region_224 : decode cX4_region 224 = .ok (.bipush 6, 2) := by decide +kernel
theorem dX4_region_226 : decode cX4_region 226 = .ok (.iload 5, 2) := by decide +kernel
theorem dX4_region_228 : decode cX4_region 228 = .ok (.imul, 1) := by decide +kernel
theorem dX4_region_229 : decode cX4_region 229 = .ok (.iconst 2, 1) := by decide +kernel
theorem dX4_region_230 : decode cX4_region 230 = .ok (.iadd, 1) := by decide +kernel
theorem dX4_region_231 : decode cX4_region 231 = .ok (.iload_n 3, 1) := by decide +kernel
theorem dX4_region_232 : decode cX4_region 232 = .ok (.iastore, 1) := by decide +kernel
theorem dX4_region_233 : decode cX4_region 233 = .ok (.aload_n 0, 1) := by decide +kernel
theorem dX4_region_234 : decode cX4_region 234 = .ok (.getfield 19, 3) := by decide +kernel
theorem dX4_region_237 : decode cX4_region 237 = .ok (.iload 5, 2) := by decide +kernel
theorem dX4_region_239 : decode cX4_region 239 = .ok (.iconst 3, 1) := by decide +kernel
theorem dX4_region_240 : decode cX4_region 240 = .ok (.iastore, 1) := by decide +kernel
theorem dX4_region_241 : decode cX4_region 241 = .ok (.iload 5, 2) := by decide +kernel
theorem dX4_region_243 : decode cX4_region 243 = .ok (.ireturn, 1) := by decide +kernel
theorem dX4_fail_0 : decode cX4_fail 0 = .ok (.iload_n 1, 1) := by decide +kernel
theorem dX4_fail_1 : decode cX4_fail 1 = .ok (.invokestatic 108, 3) := by decide +kernel
theorem dX4_fail_4 : decode cX4_fail 4 = .ok (.ifCond .ne 5, 3) := by decide +kernel
theorem dX4_fail_7 : decode cX4_fail 7 = .ok (.iconst (-1), 1) := by decide +kernel
theorem dX4_fail_8 : decode cX4_fail 8 = .ok (.ireturn, 1) := by decide +kernel
theorem dX4_fail_9 : decode cX4_fail 9 = .ok (.aload_n 0, 1) := by decide +kernel
theorem dX4_fail_10 : decode cX4_fail 10 = .ok (.getfield 7, 3) := by decide +kernel
theorem dX4_fail_13 : decode cX4_fail 13 = .ok (.iload_n 1, 1) := by decide +kernel
theorem dX4_fail_14 : decode cX4_fail 14 = .ok (.baload, 1) := by decide +kernel
theorem dX4_fail_15 : decode cX4_fail 15 = .ok (.ifCond .ne 6, 3) := by decide +kernel
theorem dX4_fail_18 : decode cX4_fail 18 = .ok (.bipush (-3), 2) := by decide +kernel
theorem dX4_fail_20 : decode cX4_fail 20 = .ok (.ireturn, 1) := by decide +kernel
theorem dX4_fail_21 : decode cX4_fail 21 = .ok (.aload_n 0, 1) := by decide +kernel
theorem dX4_fail_22 : decode cX4_fail 22 = .ok (.getfield 7, 3) := by decide +kernel
theorem dX4_fail_25 : decode cX4_fail 25 = .ok (.iload_n 1, 1) := by decide +kernel
theorem dX4_fail_26 : decode cX4_fail 26 = .ok (.iconst 0, 1) := by decide +kernel
theorem dX4_fail_27 : decode cX4_fail 27 = .ok (.bastore, 1) := by decide +kernel
theorem dX4_fail_28 : decode cX4_fail 28 = .ok (.aload_n 0, 1) := by decide +kernel
theorem dX4_fail_29 : decode cX4_fail 29 = .ok (.invokevirtual 112, 3) := by decide +kernel
theorem dX4_fail_32 : decode cX4_fail 32 = .ok (.ireturn, 1) := by decide +kernel
theorem dX4_isActive_0 : decode cX4_isActive 0 = .ok (.aload_n 0, 1) := by decide +kernel
theorem dX4_isActive_1 : decode cX4_isActive 1 = .ok (.getfield 38, 3) := by decide +kernel
theorem dX4_isActive_4 : decode cX4_isActive 4 = .ok (.iload_n 1, 1) := by decide +kernel
theorem dX4_isActive_5 : decode cX4_isActive 5 = .ok (.iaload, 1) := by decide +kernel
theorem dX4_isActive_6 : decode cX4_isActive 6 = .ok (.i2l, 1) := by decide +kernel
theorem dX4_isActive_7 : decode cX4_isActive 7 = .ok (.lconst 1, 1) := by decide +kernel
theorem dX4_isActive_8 : decode cX4_isActive 8 = .ok (.ldc2_w 116, 3) := by decide +kernel
theorem dX4_isActive_11 : decode cX4_isActive 11 = .ok (.invokestatic 88, 3) := by decide +kernel
theorem dX4_isActive_14 : decode cX4_isActive 14 = .ok (.ireturn, 1) := by decide +kernel
theorem dX4_writesOf_0 : decode cX4_writesOf 0 = .ok (.iconst 0, 1) := by decide +kernel
theorem dX4_writesOf_1 : decode cX4_writesOf 1 = .ok (.istore_n 3, 1) := by decide +kernel
theorem dX4_writesOf_2 : decode cX4_writesOf 2 = .ok (.bipush 8, 2) := by decide +kernel
theorem dX4_writesOf_4 : decode cX4_writesOf 4 = .ok (.iload_n 1, 1) := by decide +kernel
theorem dX4_writesOf_5 : decode cX4_writesOf 5 = .ok (.imul, 1) := by decide +kernel
theorem dX4_writesOf_6 : decode cX4_writesOf 6 = .ok (.istore 4, 2) := by decide +kernel
theorem dX4_writesOf_8 : decode cX4_writesOf 8 = .ok (.iload 4, 2) := by decide +kernel
theorem dX4_writesOf_10 : decode cX4_writesOf 10 = .ok (.bipush 8, 2) := by decide +kernel
theorem dX4_writesOf_12 : decode cX4_writesOf 12 = .ok (.iload_n 1, 1) := by decide +kernel
theorem dX4_writesOf_13 : decode cX4_writesOf 13 = .ok (.imul, 1) := by decide +kernel
theorem dX4_writesOf_14 : decode cX4_writesOf 14 = .ok (.aload_n 0, 1) := by decide +kernel
theorem dX4_writesOf_15 : decode cX4_writesOf 15 = .ok (.getfield 44, 3) := by decide +kernel
theorem dX4_writesOf_18 : decode cX4_writesOf 18 = .ok (.iload_n 1, 1) := by decide +kernel
theorem dX4_writesOf_19 : decode cX4_writesOf 19 = .ok (.iaload, 1) := by decide +kernel
theorem dX4_writesOf_20 : decode cX4_writesOf 20 = .ok (.iadd, 1) := by decide +kernel
theorem dX4_writesOf_21 : decode cX4_writesOf 21 = .ok (.if_icmp .ge 40, 3) := by decide +kernel
theorem dX4_writesOf_24 : decode cX4_writesOf 24 = .ok (.iload_n 3, 1) := by decide +kernel
theorem dX4_writesOf_25 : decode cX4_writesOf 25 = .ok (.ifCond .ne 24, 3) := by decide +kernel
theorem dX4_writesOf_28 : decode cX4_writesOf 28 = .ok (.aload_n 0, 1) := by decide +kernel
theorem dX4_writesOf_29 : decode cX4_writesOf 29 = .ok (.getfield 53, 3) := by decide +kernel
theorem dX4_writesOf_32 : decode cX4_writesOf 32 = .ok (.iload 4, 2) := by decide +kernel
theorem dX4_writesOf_34 : decode cX4_writesOf 34 = .ok (.iaload, 1) := by decide +kernel
theorem dX4_writesOf_35 : decode cX4_writesOf 35 = .ok (.iload_n 2, 1) := by decide +kernel
theorem dX4_writesOf_36 : decode cX4_writesOf 36 = .ok (.if_icmp .ne 17, 3) := by decide +kernel
theorem dX4_writesOf_39 : decode cX4_writesOf 39 = .ok (.aload_n 0, 1) := by decide +kernel
theorem dX4_writesOf_40 : decode cX4_writesOf 40 = .ok (.getfield 65, 3) := by decide +kernel
theorem dX4_writesOf_43 : decode cX4_writesOf 43 = .ok (.iload 4, 2) := by decide +kernel
theorem dX4_writesOf_45 : decode cX4_writesOf 45 = .ok (.baload, 1) := by decide +kernel
theorem dX4_writesOf_46 : decode cX4_writesOf 46 = .ok (.ifCond .eq 7, 3) := by decide +kernel
theorem dX4_writesOf_49 : decode cX4_writesOf 49 = .ok (.iconst 1, 1) := by decide +kernel
theorem dX4_writesOf_50 : decode cX4_writesOf 50 = .ok (.goto 4, 3) := by decide +kernel
theorem dX4_writesOf_53 : decode cX4_writesOf 53 = .ok (.iconst 0, 1) := by decide +kernel
theorem dX4_writesOf_54 : decode cX4_writesOf 54 = .ok (.istore_n 3, 1) := by decide +kernel
theorem dX4_writesOf_55 : decode cX4_writesOf 55 = .ok (.iinc 4 1, 3) := by decide +kernel
theorem dX4_writesOf_58 : decode cX4_writesOf 58 = .ok (.goto (-50), 3) := by decide +kernel
theorem dX4_writesOf_61 : decode cX4_writesOf 61 = .ok (.iload_n 3, 1) := by decide +kernel
theorem dX4_writesOf_62 : decode cX4_writesOf 62 = .ok (.ireturn, 1) := by decide +kernel
theorem dX4_copy_0 : decode cX4_copy 0 = .ok (.aload_n 0, 1) := by decide +kernel
theorem dX4_copy_1 : decode cX4_copy 1 = .ok (.iload_n 1, 1) := by decide +kernel
theorem dX4_copy_2 : decode cX4_copy 2 = .ok (.invokevirtual 118, 3) := by decide +kernel
theorem dX4_copy_5 : decode cX4_copy 5 = .ok (.ifCond .eq 10, 3) := by decide +kernel
theorem dX4_copy_8 : decode cX4_copy 8 = .ok (.iload_n 2, 1) := by decide +kernel
theorem dX4_copy_9 : decode cX4_copy 9 = .ok (.invokestatic 108, 3) := by decide +kernel
theorem dX4_copy_12 : decode cX4_copy 12 = .ok (.ifCond .ne 5, 3) := by decide +kernel
theorem dX4_copy_15 : decode cX4_copy 15 = .ok (.iconst (-1), 1) := by decide +kernel
theorem dX4_copy_16 : decode cX4_copy 16 = .ok (.ireturn, 1) := by decide +kernel
theorem dX4_copy_17 : decode cX4_copy 17 = .ok (.aload_n 0, 1) := by decide +kernel
theorem dX4_copy_18 : decode cX4_copy 18 = .ok (.iload_n 1, 1) := by decide +kernel
theorem dX4_copy_19 : decode cX4_copy 19 = .ok (.invokevirtual 121, 3) := by decide +kernel
theorem dX4_copy_22 : decode cX4_copy 22 = .ok (.ifCond .eq 6, 3) := by decide +kernel
theorem dX4_copy_25 : decode cX4_copy 25 = .ok (.bipush (-5), 2) := by decide +kernel
theorem dX4_copy_27 : decode cX4_copy 27 = .ok (.ireturn, 1) := by decide +kernel
theorem dX4_copy_28 : decode cX4_copy 28 = .ok (.aload_n 0, 1) := by decide +kernel
theorem dX4_copy_29 : decode cX4_copy 29 = .ok (.getfield 13, 3) := by decide +kernel
theorem dX4_copy_32 : decode cX4_copy 32 = .ok (.iload_n 2, 1) := by decide +kernel
theorem dX4_copy_33 : decode cX4_copy 33 = .ok (.baload, 1) := by decide +kernel
theorem dX4_copy_34 : decode cX4_copy 34 = .ok (.ifCond .eq 34, 3) := by decide +kernel
theorem dX4_copy_37 : decode cX4_copy 37 = .ok (.aload_n 0, 1) := by decide +kernel
theorem dX4_copy_38 : decode cX4_copy 38 = .ok (.getfield 7, 3) := by decide +kernel
theorem dX4_copy_41 : decode cX4_copy 41 = .ok (.iload_n 2, 1) := by decide +kernel
theorem dX4_copy_42 : decode cX4_copy 42 = .ok (.baload, 1) := by decide +kernel
theorem dX4_copy_43 : decode cX4_copy 43 = .ok (.ifCond .eq 25, 3) := by decide +kernel
theorem dX4_copy_46 : decode cX4_copy 46 = .ok (.aload_n 0, 1) := by decide +kernel
theorem dX4_copy_47 : decode cX4_copy 47 = .ok (.iload_n 1, 1) := by decide +kernel
theorem dX4_copy_48 : decode cX4_copy 48 = .ok (.aload_n 0, 1) := by decide +kernel
theorem dX4_copy_49 : decode cX4_copy 49 = .ok (.iload_n 1, 1) := by decide +kernel
theorem dX4_copy_50 : decode cX4_copy 50 = .ok (.invokevirtual 124, 3) := by decide +kernel
theorem dX4_copy_53 : decode cX4_copy 53 = .ok (.invokevirtual 127, 3) := by decide +kernel
theorem dX4_copy_56 : decode cX4_copy 56 = .ok (.ifCond .eq 12, 3) := by decide +kernel
theorem dX4_copy_59 : decode cX4_copy 59 = .ok (.aload_n 0, 1) := by decide +kernel
theorem dX4_copy_60 : decode cX4_copy 60 = .ok (.iload_n 1, 1) := by decide +kernel
theorem dX4_copy_61 : decode cX4_copy 61 = .ok (.invokevirtual 100, 3) := by decide +kernel
theorem dX4_copy_64 : decode cX4_copy 64 = .ok (.iconst 3, 1) := by decide +kernel
theorem dX4_copy_65 : decode cX4_copy 65 = .ok (.if_icmp .ne 7, 3) := by decide +kernel
theorem dX4_copy_68 : decode cX4_copy 68 = .ok (.iconst 1, 1) := by decide +kernel
theorem dX4_copy_69 : decode cX4_copy 69 = .ok (.goto 4, 3) := by decide +kernel
theorem dX4_copy_72 : decode cX4_copy 72 = .ok (.iconst 0, 1) := by decide +kernel
theorem dX4_copy_73 : decode cX4_copy 73 = .ok (.istore_n 3, 1) := by decide +kernel
theorem dX4_copy_74 : decode cX4_copy 74 = .ok (.iconst 0, 1) := by decide +kernel
theorem dX4_copy_75 : decode cX4_copy 75 = .ok (.istore 4, 2) := by decide +kernel
theorem dX4_copy_77 : decode cX4_copy 77 = .ok (.iload 4, 2) := by decide +kernel
theorem dX4_copy_79 : decode cX4_copy 79 = .ok (.aload_n 0, 1) := by decide +kernel
theorem dX4_copy_80 : decode cX4_copy 80 = .ok (.getfield 19, 3) := by decide +kernel
theorem dX4_copy_83 : decode cX4_copy 83 = .ok (.iload_n 1, 1) := by decide +kernel
theorem dX4_copy_84 : decode cX4_copy 84 = .ok (.iaload, 1) := by decide +kernel
theorem dX4_copy_85 : decode cX4_copy 85 = .ok (.if_icmp .ge 35, 3) := by decide +kernel
theorem dX4_copy_88 : decode cX4_copy 88 = .ok (.iload_n 3, 1) := by decide +kernel
theorem dX4_copy_89 : decode cX4_copy 89 = .ok (.ifCond .ne 19, 3) := by decide +kernel
theorem dX4_copy_92 : decode cX4_copy 92 = .ok (.aload_n 0, 1) := by decide +kernel
theorem dX4_copy_93 : decode cX4_copy 93 = .ok (.getfield 23, 3) := by decide +kernel
theorem dX4_copy_96 : decode cX4_copy 96 = .ok (.bipush 6, 2) := by decide +kernel
theorem dX4_copy_98 : decode cX4_copy 98 = .ok (.iload_n 1, 1) := by decide +kernel
theorem dX4_copy_99 : decode cX4_copy 99 = .ok (.imul, 1) := by decide +kernel
theorem dX4_copy_100 : decode cX4_copy 100 = .ok (.iload 4, 2) := by decide +kernel
theorem dX4_copy_102 : decode cX4_copy 102 = .ok (.iadd, 1) := by decide +kernel
theorem dX4_copy_103 : decode cX4_copy 103 = .ok (.iaload, 1) := by decide +kernel
theorem dX4_copy_104 : decode cX4_copy 104 = .ok (.iload_n 2, 1) := by decide +kernel
theorem dX4_copy_105 : decode cX4_copy 105 = .ok (.if_icmp .ne 7, 3) := by decide +kernel
theorem dX4_copy_108 : decode cX4_copy 108 = .ok (.iconst 1, 1) := by decide +kernel
theorem dX4_copy_109 : decode cX4_copy 109 = .ok (.goto 4, 3) := by decide +kernel
theorem dX4_copy_112 : decode cX4_copy 112 = .ok (.iconst 0, 1) := by decide +kernel
theorem dX4_copy_113 : decode cX4_copy 113 = .ok (.istore_n 3, 1) := by decide +kernel
theorem dX4_copy_114 : decode cX4_copy 114 = .ok (.iinc 4 1, 3) := by decide +kernel
theorem dX4_copy_117 : decode cX4_copy 117 = .ok (.goto (-40), 3) := by decide +kernel
theorem dX4_copy_120 : decode cX4_copy 120 = .ok (.iconst 0, 1) := by decide +kernel
theorem dX4_copy_121 : decode cX4_copy 121 = .ok (.istore 4, 2) := by decide +kernel
theorem dX4_copy_123 : decode cX4_copy 123 = .ok (.iload 4, 2) := by decide +kernel
theorem dX4_copy_125 : decode cX4_copy 125 = .ok (.aload_n 0, 1) := by decide +kernel
theorem dX4_copy_126 : decode cX4_copy 126 = .ok (.getfield 130, 3) := by decide +kernel
theorem dX4_copy_129 : decode cX4_copy 129 = .ok (.if_icmp .ge 38, 3) := by decide +kernel
theorem dX4_copy_132 : decode cX4_copy 132 = .ok (.iload_n 3, 1) := by decide +kernel
theorem dX4_copy_133 : decode cX4_copy 133 = .ok (.ifCond .ne 22, 3) := by decide +kernel
theorem dX4_copy_136 : decode cX4_copy 136 = .ok (.aload_n 0, 1) := by decide +kernel
theorem dX4_copy_137 : decode cX4_copy 137 = .ok (.iload 4, 2) := by decide +kernel
theorem dX4_copy_139 : decode cX4_copy 139 = .ok (.invokevirtual 133, 3) := by decide +kernel
theorem dX4_copy_142 : decode cX4_copy 142 = .ok (.ifCond .eq 17, 3) := by decide +kernel
theorem dX4_copy_145 : decode cX4_copy 145 = .ok (.aload_n 0, 1) := by decide +kernel
theorem dX4_copy_146 : decode cX4_copy 146 = .ok (.iload 4, 2) := by decide +kernel
theorem dX4_copy_148 : decode cX4_copy 148 = .ok (.iload_n 1, 1) := by decide +kernel
theorem dX4_copy_149 : decode cX4_copy 149 = .ok (.invokevirtual 136, 3) := by decide +kernel
theorem dX4_copy_152 : decode cX4_copy 152 = .ok (.ifCond .eq 7, 3) := by decide +kernel
theorem dX4_copy_155 : decode cX4_copy 155 = .ok (.iconst 1, 1) := by decide +kernel
theorem dX4_copy_156 : decode cX4_copy 156 = .ok (.goto 4, 3) := by decide +kernel
theorem dX4_copy_159 : decode cX4_copy 159 = .ok (.iconst 0, 1) := by decide +kernel
theorem dX4_copy_160 : decode cX4_copy 160 = .ok (.istore_n 3, 1) := by decide +kernel
theorem dX4_copy_161 : decode cX4_copy 161 = .ok (.iinc 4 1, 3) := by decide +kernel
theorem dX4_copy_164 : decode cX4_copy 164 = .ok (.goto (-41), 3) := by decide +kernel
theorem dX4_copy_167 : decode cX4_copy 167 = .ok (.iload_n 3, 1) := by decide +kernel
theorem dX4_copy_168 : decode cX4_copy 168 = .ok (.ifCond .eq 6, 3) := by decide +kernel
theorem dX4_copy_171 : decode cX4_copy 171 = .ok (.bipush (-3), 2) := by decide +kernel
theorem dX4_copy_173 : decode cX4_copy 173 = .ok (.ireturn, 1) := by decide +kernel
theorem dX4_copy_174 : decode cX4_copy 174 = .ok (.aload_n 0, 1) := by decide +kernel
theorem dX4_copy_175 : decode cX4_copy 175 = .ok (.getfield 19, 3) := by decide +kernel
theorem dX4_copy_178 : decode cX4_copy 178 = .ok (.iload_n 1, 1) := by decide +kernel
theorem dX4_copy_179 : decode cX4_copy 179 = .ok (.iaload, 1) := by decide +kernel
theorem dX4_copy_180 : decode cX4_copy 180 = .ok (.istore 4, 2) := by decide +kernel
theorem dX4_copy_182 : decode cX4_copy 182 = .ok (.aload_n 0, 1) := by decide +kernel
theorem dX4_copy_183 : decode cX4_copy 183 = .ok (.iload_n 1, 1) := by decide +kernel
theorem dX4_copy_184 : decode cX4_copy 184 = .ok (.invokevirtual 124, 3) := by decide +kernel
theorem dX4_copy_187 : decode cX4_copy 187 = .ok (.istore 5, 2) := by decide +kernel
theorem dX4_copy_189 : decode cX4_copy 189 = .ok (.aload_n 0, 1) := by decide +kernel
theorem dX4_copy_190 : decode cX4_copy 190 = .ok (.getfield 19, 3) := by decide +kernel
theorem dX4_copy_193 : decode cX4_copy 193 = .ok (.iload_n 1, 1) := by decide +kernel
theorem dX4_copy_194 : decode cX4_copy 194 = .ok (.dup2, 1) := by decide +kernel
theorem dX4_copy_195 : decode cX4_copy 195 = .ok (.iaload, 1) := by decide +kernel
theorem dX4_copy_196 : decode cX4_copy 196 = .ok (.iconst 1, 1) := by decide +kernel
theorem dX4_copy_197 : decode cX4_copy 197 = .ok (.iadd, 1) := by decide +kernel
theorem dX4_copy_198 : decode cX4_copy 198 = .ok (.iastore, 1) := by decide +kernel
theorem dX4_copy_199 : decode cX4_copy 199 = .ok (.aload_n 0, 1) := by decide +kernel
theorem dX4_copy_200 : decode cX4_copy 200 = .ok (.getfield 23, 3) := by decide +kernel
theorem dX4_copy_203 : decode cX4_copy 203 = .ok (.bipush 6, 2) := by decide +kernel
theorem dX4_copy_205 : decode cX4_copy 205 = .ok (.iload_n 1, 1) := by decide +kernel
theorem dX4_copy_206 : decode cX4_copy 206 = .ok (.imul, 1) := by decide +kernel
theorem dX4_copy_207 : decode cX4_copy 207 = .ok (.iload 4, 2) := by decide +kernel
theorem dX4_copy_209 : decode cX4_copy 209 = .ok (.iadd, 1) := by decide +kernel
theorem dX4_copy_210 : decode cX4_copy 210 = .ok (.iload_n 2, 1) := by decide +kernel
theorem dX4_copy_211 : decode cX4_copy 211 = .ok (.iastore, 1) := by decide +kernel
theorem dX4_copy_212 : decode cX4_copy 212 = .ok (.iconst 0, 1) := by decide +kernel
theorem dX4_copy_213 : decode cX4_copy 213 = .ok (.istore 6, 2) := by decide +kernel
theorem dX4_copy_215 : decode cX4_copy 215 = .ok (.iload 6, 2) := by decide +kernel
theorem dX4_copy_217 : decode cX4_copy 217 = .ok (.bipush 8, 2) := by decide +kernel
theorem dX4_copy_219 : decode cX4_copy 219 = .ok (.if_icmp .ge 81, 3) := by decide +kernel
theorem dX4_copy_222 : decode cX4_copy 222 = .ok (.aload_n 0, 1) := by decide +kernel
theorem dX4_copy_223 : decode cX4_copy 223 = .ok (.getfield 26, 3) := by decide +kernel
theorem dX4_copy_226 : decode cX4_copy 226 = .ok (.bipush 8, 2) := by decide +kernel
theorem dX4_copy_228 : decode cX4_copy 228 = .ok (.bipush 6, 2) := by decide +kernel
theorem dX4_copy_230 : decode cX4_copy 230 = .ok (.iload_n 1, 1) := by decide +kernel
theorem dX4_copy_231 : decode cX4_copy 231 = .ok (.imul, 1) := by decide +kernel
theorem dX4_copy_232 : decode cX4_copy 232 = .ok (.iload 4, 2) := by decide +kernel
theorem dX4_copy_234 : decode cX4_copy 234 = .ok (.iadd, 1) := by decide +kernel
theorem dX4_copy_235 : decode cX4_copy 235 = .ok (.imul, 1) := by decide +kernel
theorem dX4_copy_236 : decode cX4_copy 236 = .ok (.iload 6, 2) := by decide +kernel
theorem dX4_copy_238 : decode cX4_copy 238 = .ok (.iadd, 1) := by decide +kernel
theorem dX4_copy_239 : decode cX4_copy 239 = .ok (.aload_n 0, 1) := by decide +kernel
theorem dX4_copy_240 : decode cX4_copy 240 = .ok (.getfield 26, 3) := by decide +kernel
theorem dX4_copy_243 : decode cX4_copy 243 = .ok (.bipush 8, 2) := by decide +kernel
theorem dX4_copy_245 : decode cX4_copy 245 = .ok (.bipush 6, 2) := by decide +kernel
theorem dX4_copy_247 : decode cX4_copy 247 = .ok (.iload_n 1, 1) := by decide +kernel
theorem dX4_copy_248 : decode cX4_copy 248 = .ok (.imul, 1) := by decide +kernel
theorem dX4_copy_249 : decode cX4_copy 249 = .ok (.iload 5, 2) := by decide +kernel
theorem dX4_copy_251 : decode cX4_copy 251 = .ok (.iadd, 1) := by decide +kernel
theorem dX4_copy_252 : decode cX4_copy 252 = .ok (.imul, 1) := by decide +kernel
theorem dX4_copy_253 : decode cX4_copy 253 = .ok (.iload 6, 2) := by decide +kernel
theorem dX4_copy_255 : decode cX4_copy 255 = .ok (.iadd, 1) := by decide +kernel
theorem dX4_copy_256 : decode cX4_copy 256 = .ok (.iaload, 1) := by decide +kernel
theorem dX4_copy_257 : decode cX4_copy 257 = .ok (.iastore, 1) := by decide +kernel
theorem dX4_copy_258 : decode cX4_copy 258 = .ok (.aload_n 0, 1) := by decide +kernel
theorem dX4_copy_259 : decode cX4_copy 259 = .ok (.getfield 29, 3) := by decide +kernel
theorem dX4_copy_262 : decode cX4_copy 262 = .ok (.bipush 8, 2) := by decide +kernel
theorem dX4_copy_264 : decode cX4_copy 264 = .ok (.bipush 6, 2) := by decide +kernel
theorem dX4_copy_266 : decode cX4_copy 266 = .ok (.iload_n 1, 1) := by decide +kernel
theorem dX4_copy_267 : decode cX4_copy 267 = .ok (.imul, 1) := by decide +kernel
theorem dX4_copy_268 : decode cX4_copy 268 = .ok (.iload 4, 2) := by decide +kernel
theorem dX4_copy_270 : decode cX4_copy 270 = .ok (.iadd, 1) := by decide +kernel
theorem dX4_copy_271 : decode cX4_copy 271 = .ok (.imul, 1) := by decide +kernel
theorem dX4_copy_272 : decode cX4_copy 272 = .ok (.iload 6, 2) := by decide +kernel
theorem dX4_copy_274 : decode cX4_copy 274 = .ok (.iadd, 1) := by decide +kernel
theorem dX4_copy_275 : decode cX4_copy 275 = .ok (.aload_n 0, 1) := by decide +kernel
theorem dX4_copy_276 : decode cX4_copy 276 = .ok (.getfield 29, 3) := by decide +kernel
theorem dX4_copy_279 : decode cX4_copy 279 = .ok (.bipush 8, 2) := by decide +kernel
theorem dX4_copy_281 : decode cX4_copy 281 = .ok (.bipush 6, 2) := by decide +kernel
theorem dX4_copy_283 : decode cX4_copy 283 = .ok (.iload_n 1, 1) := by decide +kernel
theorem dX4_copy_284 : decode cX4_copy 284 = .ok (.imul, 1) := by decide +kernel
theorem dX4_copy_285 : decode cX4_copy 285 = .ok (.iload 5, 2) := by decide +kernel
theorem dX4_copy_287 : decode cX4_copy 287 = .ok (.iadd, 1) := by decide +kernel
theorem dX4_copy_288 : decode cX4_copy 288 = .ok (.imul, 1) := by decide +kernel
theorem dX4_copy_289 : decode cX4_copy 289 = .ok (.iload 6, 2) := by decide +kernel
theorem dX4_copy_291 : decode cX4_copy 291 = .ok (.iadd, 1) := by decide +kernel
theorem dX4_copy_292 : decode cX4_copy 292 = .ok (.iaload, 1) := by decide +kernel
