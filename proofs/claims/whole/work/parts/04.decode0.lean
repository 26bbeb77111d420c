theorem dX0_init_0 : decode cX0_init 0 = .ok (.aload_n 0, 1) := by decide +kernel
theorem dX0_init_1 : decode cX0_init 1 = .ok (.invokespecial 3, 3) := by decide +kernel
theorem dX0_init_4 : decode cX0_init 4 = .ok (.aload_n 0, 1) := by decide +kernel
theorem dX0_init_5 : decode cX0_init 5 = .ok (.iconst 0, 1) := by decide +kernel
theorem dX0_init_6 : decode cX0_init 6 = .ok (.putfield 9, 3) := by decide +kernel
theorem dX0_init_9 : decode cX0_init 9 = .ok (.aload_n 0, 1) := by decide +kernel
theorem dX0_init_10 : decode cX0_init 10 = .ok (.bipush (-9), 2) := by decide +kernel
theorem dX0_init_12 : decode cX0_init 12 = .ok (.putfield 15, 3) := by decide +kernel
theorem dX0_init_15 : decode cX0_init 15 = .ok (.aload_n 0, 1) := by decide +kernel
theorem dX0_init_16 : decode cX0_init 16 = .ok (.iconst 0, 1) := by decide +kernel
theorem dX0_init_17 : decode cX0_init 17 = .ok (.putfield 19, 3) := by decide +kernel
theorem dX0_init_20 : decode cX0_init 20 = .ok (.aload_n 0, 1) := by decide +kernel
theorem dX0_init_21 : decode cX0_init 21 = .ok (.iconst 0, 1) := by decide +kernel
theorem dX0_init_22 : decode cX0_init 22 = .ok (.putfield 22, 3) := by decide +kernel
theorem dX0_init_25 : decode cX0_init 25 = .ok (.aload_n 0, 1) := by decide +kernel
theorem dX0_init_26 : decode cX0_init 26 = .ok (.aload_n 1, 1) := by decide +kernel
theorem dX0_init_27 : decode cX0_init 27 = .ok (.putfield 25, 3) := by decide +kernel
theorem dX0_init_30 : decode cX0_init 30 = .ok (.aload_n 0, 1) := by decide +kernel
theorem dX0_init_31 : decode cX0_init 31 = .ok (.iload_n 2, 1) := by decide +kernel
theorem dX0_init_32 : decode cX0_init 32 = .ok (.putfield 29, 3) := by decide +kernel
theorem dX0_init_35 : decode cX0_init 35 = .ok (.aload_n 0, 1) := by decide +kernel
theorem dX0_init_36 : decode cX0_init 36 = .ok (.iload_n 3, 1) := by decide +kernel
theorem dX0_init_37 : decode cX0_init 37 = .ok (.putfield 32, 3) := by decide +kernel
theorem dX0_init_40 : decode cX0_init 40 = .ok (.aload_n 0, 1) := by decide +kernel
theorem dX0_init_41 : decode cX0_init 41 = .ok (.iload 4, 2) := by decide +kernel
theorem dX0_init_43 : decode cX0_init 43 = .ok (.putfield 35, 3) := by decide +kernel
theorem dX0_init_46 : decode cX0_init 46 = .ok (.return_, 1) := by decide +kernel
theorem dX0_newVersion_0 : decode cX0_newVersion 0 = .ok (.aload_n 0, 1) := by decide +kernel
theorem dX0_newVersion_1 : decode cX0_newVersion 1 = .ok (.getfield 35, 3) := by decide +kernel
theorem dX0_newVersion_4 : decode cX0_newVersion 4 = .ok (.iconst 1, 1) := by decide +kernel
theorem dX0_newVersion_5 : decode cX0_newVersion 5 = .ok (.iadd, 1) := by decide +kernel
theorem dX0_newVersion_6 : decode cX0_newVersion 6 = .ok (.ireturn, 1) := by decide +kernel
theorem dX0_isLockedBy_0 : decode cX0_isLockedBy 0 = .ok (.aload_n 0, 1) := by decide +kernel
theorem dX0_isLockedBy_1 : decode cX0_isLockedBy 1 = .ok (.getfield 25, 3) := by decide +kernel
theorem dX0_isLockedBy_4 : decode cX0_isLockedBy 4 = .ok (.getfield 38, 3) := by decide +kernel
theorem dX0_isLockedBy_7 : decode cX0_isLockedBy 7 = .ok (.aload_n 0, 1) := by decide +kernel
theorem dX0_isLockedBy_8 : decode cX0_isLockedBy 8 = .ok (.getfield 29, 3) := by decide +kernel
theorem dX0_isLockedBy_11 : decode cX0_isLockedBy 11 = .ok (.iaload, 1) := by decide +kernel
theorem dX0_isLockedBy_12 : decode cX0_isLockedBy 12 = .ok (.iload_n 1, 1) := by decide +kernel
theorem dX0_isLockedBy_13 : decode cX0_isLockedBy 13 = .ok (.if_icmp .ne 7, 3) := by decide +kernel
theorem dX0_isLockedBy_16 : decode cX0_isLockedBy 16 = .ok (.iconst 1, 1) := by decide +kernel
theorem dX0_isLockedBy_17 : decode cX0_isLockedBy 17 = .ok (.goto 4, 3) := by decide +kernel
theorem dX0_isLockedBy_20 : decode cX0_isLockedBy 20 = .ok (.iconst 0, 1) := by decide +kernel
theorem dX0_isLockedBy_21 : decode cX0_isLockedBy 21 = .ok (.ireturn, 1) := by decide +kernel
theorem dX1_init_0 : decode cX1_init 0 = .ok (.aload_n 0, 1) := by decide +kernel
theorem dX1_init_1 : decode cX1_init 1 = .ok (.invokespecial 3, 3) := by decide +kernel
theorem dX1_init_4 : decode cX1_init 4 = .ok (.aload_n 0, 1) := by decide +kernel
theorem dX1_init_5 : decode cX1_init 5 = .ok (.bipush 6, 2) := by decide +kernel
theorem dX1_init_7 : decode cX1_init 7 = .ok (.newarray .int, 2) := by decide +kernel
theorem dX1_init_9 : decode cX1_init 9 = .ok (.putfield 9, 3) := by decide +kernel
theorem dX1_init_12 : decode cX1_init 12 = .ok (.aload_n 0, 1) := by decide +kernel
theorem dX1_init_13 : decode cX1_init 13 = .ok (.iconst 0, 1) := by decide +kernel
theorem dX1_init_14 : decode cX1_init 14 = .ok (.putfield 15, 3) := by decide +kernel
theorem dX1_init_17 : decode cX1_init 17 = .ok (.aload_n 0, 1) := by decide +kernel
theorem dX1_init_18 : decode cX1_init 18 = .ok (.iconst 0, 1) := by decide +kernel
theorem dX1_init_19 : decode cX1_init 19 = .ok (.putfield 19, 3) := by decide +kernel
theorem dX1_init_22 : decode cX1_init 22 = .ok (.aload_n 0, 1) := by decide +kernel
theorem dX1_init_23 : decode cX1_init 23 = .ok (.bipush 48, 2) := by decide +kernel
theorem dX1_init_25 : decode cX1_init 25 = .ok (.newarray .int, 2) := by decide +kernel
theorem dX1_init_27 : decode cX1_init 27 = .ok (.putfield 22, 3) := by decide +kernel
theorem dX1_init_30 : decode cX1_init 30 = .ok (.aload_n 0, 1) := by decide +kernel
theorem dX1_init_31 : decode cX1_init 31 = .ok (.bipush 48, 2) := by decide +kernel
theorem dX1_init_33 : decode cX1_init 33 = .ok (.newarray .int, 2) := by decide +kernel
theorem dX1_init_35 : decode cX1_init 35 = .ok (.putfield 25, 3) := by decide +kernel
theorem dX1_init_38 : decode cX1_init 38 = .ok (.aload_n 0, 1) := by decide +kernel
theorem dX1_init_39 : decode cX1_init 39 = .ok (.bipush 8, 2) := by decide +kernel
theorem dX1_init_41 : decode cX1_init 41 = .ok (.newarray .int, 2) := by decide +kernel
theorem dX1_init_43 : decode cX1_init 43 = .ok (.putfield 28, 3) := by decide +kernel
theorem dX1_init_46 : decode cX1_init 46 = .ok (.aload_n 0, 1) := by decide +kernel
theorem dX1_init_47 : decode cX1_init 47 = .ok (.iload_n 1, 1) := by decide +kernel
theorem dX1_init_48 : decode cX1_init 48 = .ok (.putfield 31, 3) := by decide +kernel
theorem dX1_init_51 : decode cX1_init 51 = .ok (.iconst 0, 1) := by decide +kernel
theorem dX1_init_52 : decode cX1_init 52 = .ok (.istore_n 2, 1) := by decide +kernel
theorem dX1_init_53 : decode cX1_init 53 = .ok (.iload_n 2, 1) := by decide +kernel
theorem dX1_init_54 : decode cX1_init 54 = .ok (.bipush 8, 2) := by decide +kernel
theorem dX1_init_56 : decode cX1_init 56 = .ok (.if_icmp .ge 17, 3) := by decide +kernel
theorem dX1_init_59 : decode cX1_init 59 = .ok (.aload_n 0, 1) := by decide +kernel
theorem dX1_init_60 : decode cX1_init 60 = .ok (.getfield 28, 3) := by decide +kernel
theorem dX1_init_63 : decode cX1_init 63 = .ok (.iload_n 2, 1) := by decide +kernel
theorem dX1_init_64 : decode cX1_init 64 = .ok (.bipush (-9), 2) := by decide +kernel
theorem dX1_init_66 : decode cX1_init 66 = .ok (.iastore, 1) := by decide +kernel
theorem dX1_init_67 : decode cX1_init 67 = .ok (.iinc 2 1, 3) := by decide +kernel
theorem dX1_init_70 : decode cX1_init 70 = .ok (.goto (-17), 3) := by decide +kernel
theorem dX1_init_73 : decode cX1_init 73 = .ok (.return_, 1) := by decide +kernel
theorem dX1_addCopy_0 : decode cX1_addCopy 0 = .ok (.aload_n 0, 1) := by decide +kernel
theorem dX1_addCopy_1 : decode cX1_addCopy 1 = .ok (.getfield 15, 3) := by decide +kernel
theorem dX1_addCopy_4 : decode cX1_addCopy 4 = .ok (.bipush 6, 2) := by decide +kernel
theorem dX1_addCopy_6 : decode cX1_addCopy 6 = .ok (.if_icmp .ge 36, 3) := by decide +kernel
theorem dX1_addCopy_9 : decode cX1_addCopy 9 = .ok (.aload_n 0, 1) := by decide +kernel
theorem dX1_addCopy_10 : decode cX1_addCopy 10 = .ok (.getfield 9, 3) := by decide +kernel
theorem dX1_addCopy_13 : decode cX1_addCopy 13 = .ok (.aload_n 0, 1) := by decide +kernel
theorem dX1_addCopy_14 : decode cX1_addCopy 14 = .ok (.getfield 15, 3) := by decide +kernel
theorem dX1_addCopy_17 : decode cX1_addCopy 17 = .ok (.iload_n 1, 1) := by decide +kernel
theorem dX1_addCopy_18 : decode cX1_addCopy 18 = .ok (.iastore, 1) := by decide +kernel
theorem dX1_addCopy_19 : decode cX1_addCopy 19 = .ok (.aload_n 0, 1) := by decide +kernel
theorem dX1_addCopy_20 : decode cX1_addCopy 20 = .ok (.dup, 1) := by decide +kernel
theorem dX1_addCopy_21 : decode cX1_addCopy 21 = .ok (.getfield 15, 3) := by decide +kernel
theorem dX1_addCopy_24 : decode cX1_addCopy 24 = .ok (.iconst 1, 1) := by decide +kernel
theorem dX1_addCopy_25 : decode cX1_addCopy 25 = .ok (.iadd, 1) := by decide +kernel
theorem dX1_addCopy_26 : decode cX1_addCopy 26 = .ok (.putfield 15, 3) := by decide +kernel
theorem dX1_addCopy_29 : decode cX1_addCopy 29 = .ok (.aload_n 0, 1) := by decide +kernel
theorem dX1_addCopy_30 : decode cX1_addCopy 30 = .ok (.dup, 1) := by decide +kernel
theorem dX1_addCopy_31 : decode cX1_addCopy 31 = .ok (.getfield 19, 3) := by decide +kernel
theorem dX1_addCopy_34 : decode cX1_addCopy 34 = .ok (.iload_n 1, 1) := by decide +kernel
theorem dX1_addCopy_35 : decode cX1_addCopy 35 = .ok (.invokestatic 34, 3) := by decide +kernel
theorem dX1_addCopy_38 : decode cX1_addCopy 38 = .ok (.ior, 1) := by decide +kernel
theorem dX1_addCopy_39 : decode cX1_addCopy 39 = .ok (.putfield 19, 3) := by decide +kernel
theorem dX1_addCopy_42 : decode cX1_addCopy 42 = .ok (.return_, 1) := by decide +kernel
theorem dX1_firstWithin_0 : decode cX1_firstWithin 0 = .ok (.iconst 0, 1) := by decide +kernel
theorem dX1_firstWithin_1 : decode cX1_firstWithin 1 = .ok (.istore_n 2, 1) := by decide +kernel
theorem dX1_firstWithin_2 : decode cX1_firstWithin 2 = .ok (.iload_n 2, 1) := by decide +kernel
theorem dX1_firstWithin_3 : decode cX1_firstWithin 3 = .ok (.aload_n 0, 1) := by decide +kernel
theorem dX1_firstWithin_4 : decode cX1_firstWithin 4 = .ok (.getfield 15, 3) := by decide +kernel
theorem dX1_firstWithin_7 : decode cX1_firstWithin 7 = .ok (.if_icmp .ge 29, 3) := by decide +kernel
theorem dX1_firstWithin_10 : decode cX1_firstWithin 10 = .ok (.iload_n 1, 1) := by decide +kernel
theorem dX1_firstWithin_11 : decode cX1_firstWithin 11 = .ok (.iconst 1, 1) := by decide +kernel
theorem dX1_firstWithin_12 : decode cX1_firstWithin 12 = .ok (.aload_n 0, 1) := by decide +kernel
theorem dX1_firstWithin_13 : decode cX1_firstWithin 13 = .ok (.getfield 9, 3) := by decide +kernel
theorem dX1_firstWithin_16 : decode cX1_firstWithin 16 = .ok (.iload_n 2, 1) := by decide +kernel
theorem dX1_firstWithin_17 : decode cX1_firstWithin 17 = .ok (.iaload, 1) := by decide +kernel
theorem dX1_firstWithin_18 : decode cX1_firstWithin 18 = .ok (.ishl, 1) := by decide +kernel
theorem dX1_firstWithin_19 : decode cX1_firstWithin 19 = .ok (.iand, 1) := by decide +kernel
theorem dX1_firstWithin_20 : decode cX1_firstWithin 20 = .ok (.ifCond .eq 10, 3) := by decide +kernel
theorem dX1_firstWithin_23 : decode cX1_firstWithin 23 = .ok (.aload_n 0, 1) := by decide +kernel
theorem dX1_firstWithin_24 : decode cX1_firstWithin 24 = .ok (.getfield 9, 3) := by decide +kernel
theorem dX1_firstWithin_27 : decode cX1_firstWithin 27 = .ok (.iload_n 2, 1) := by decide +kernel
theorem dX1_firstWithin_28 : decode cX1_firstWithin 28 = .ok (.iaload, 1) := by decide +kernel
theorem dX1_firstWithin_29 : decode cX1_firstWithin 29 = .ok (.ireturn, 1) := by decide +kernel
theorem dX1_firstWithin_30 : decode cX1_firstWithin 30 = .ok (.iinc 2 1, 3) := by decide +kernel
theorem dX1_firstWithin_33 : decode cX1_firstWithin 33 = .ok (.goto (-31), 3) := by decide +kernel
theorem dX1_firstWithin_36 : decode cX1_firstWithin 36 = .ok (.bipush (-9), 2) := by decide +kernel
theorem dX1_firstWithin_38 : decode cX1_firstWithin 38 = .ok (.ireturn, 1) := by decide +kernel
theorem dX1_put_0 : decode cX1_put 0 = .ok (.aload_n 0, 1) := by decide +kernel
theorem dX1_put_1 : decode cX1_put 1 = .ok (.getfield 22, 3) := by decide +kernel
theorem dX1_put_4 : decode cX1_put 4 = .ok (.iload_n 1, 1) := by decide +kernel
theorem dX1_put_5 : decode cX1_put 5 = .ok (.iload_n 2, 1) := by decide +kernel
theorem dX1_put_6 : decode cX1_put 6 = .ok (.iastore, 1) := by decide +kernel
theorem dX1_put_7 : decode cX1_put 7 = .ok (.aload_n 0, 1) := by decide +kernel
theorem dX1_put_8 : decode cX1_put 8 = .ok (.getfield 25, 3) := by decide +kernel
theorem dX1_put_11 : decode cX1_put 11 = .ok (.iload_n 1, 1) := by decide +kernel
theorem dX1_put_12 : decode cX1_put 12 = .ok (.iload_n 3, 1) := by decide +kernel
theorem dX1_put_13 : decode cX1_put 13 = .ok (.iastore, 1) := by decide +kernel
theorem dX1_put_14 : decode cX1_put 14 = .ok (.return_, 1) := by decide +kernel
theorem dX1_raise_0 : decode cX1_raise 0 = .ok (.aload_n 0, 1) := by decide +kernel
theorem dX1_raise_1 : decode cX1_raise 1 = .ok (.getfield 25, 3) := by decide +kernel
theorem dX1_raise_4 : decode cX1_raise 4 = .ok (.iload_n 1, 1) := by decide +kernel
theorem dX1_raise_5 : decode cX1_raise 5 = .ok (.iaload, 1) := by decide +kernel
theorem dX1_raise_6 : decode cX1_raise 6 = .ok (.iload_n 3, 1) := by decide +kernel
theorem dX1_raise_7 : decode cX1_raise 7 = .ok (.if_icmp .ge 10, 3) := by decide +kernel
theorem dX1_raise_10 : decode cX1_raise 10 = .ok (.aload_n 0, 1) := by decide +kernel
theorem dX1_raise_11 : decode cX1_raise 11 = .ok (.iload_n 1, 1) := by decide +kernel
theorem dX1_raise_12 : decode cX1_raise 12 = .ok (.iload_n 2, 1) := by decide +kernel
theorem dX1_raise_13 : decode cX1_raise 13 = .ok (.iload_n 3, 1) := by decide +kernel
theorem dX1_raise_14 : decode cX1_raise 14 = .ok (.invokevirtual 38, 3) := by decide +kernel
theorem dX1_raise_17 : decode cX1_raise 17 = .ok (.return_, 1) := by decide +kernel
theorem dX2_init_0 : decode cX2_init 0 = .ok (.aload_n 0, 1) := by decide +kernel
theorem dX2_init_1 : decode cX2_init 1 = .ok (.invokespecial 3, 3) := by decide +kernel
theorem dX2_init_4 : decode cX2_init 4 = .ok (.aload_n 0, 1) := by decide +kernel
theorem dX2_init_5 : decode cX2_init 5 = .ok (.new 9, 3) := by decide +kernel
theorem dX2_init_8 : decode cX2_init 8 = .ok (.dup, 1) := by decide +kernel
theorem dX2_init_9 : decode cX2_init 9 = .ok (.invokespecial 11, 3) := by decide +kernel
theorem dX2_init_12 : decode cX2_init 12 = .ok (.putfield 12, 3) := by decide +kernel
theorem dX2_init_15 : decode cX2_init 15 = .ok (.aload_n 0, 1) := by decide +kernel
theorem dX2_init_16 : decode cX2_init 16 = .ok (.iconst 0, 1) := by decide +kernel
theorem dX2_init_17 : decode cX2_init 17 = .ok (.putfield 18, 3) := by decide +kernel
theorem dX2_init_20 : decode cX2_init 20 = .ok (.aload_n 0, 1) := by decide +kernel
theorem dX2_init_21 : decode cX2_init 21 = .ok (.iconst 0, 1) := by decide +kernel
theorem dX2_init_22 : decode cX2_init 22 = .ok (.putfield 22, 3) := by decide +kernel
theorem dX2_init_25 : decode cX2_init 25 = .ok (.aload_n 0, 1) := by decide +kernel
theorem dX2_init_26 : decode cX2_init 26 = .ok (.iconst 0, 1) := by decide +kernel
theorem dX2_init_27 : decode cX2_init 27 = .ok (.putfield 25, 3) := by decide +kernel
theorem dX2_init_30 : decode cX2_init 30 = .ok (.aload_n 0, 1) := by decide +kernel
theorem dX2_init_31 : decode cX2_init 31 = .ok (.iconst 0, 1) := by decide +kernel
theorem dX2_init_32 : decode cX2_init 32 = .ok (.putfield 28, 3) := by decide +kernel
theorem dX2_init_35 : decode cX2_init 35 = .ok (.aload_n 0, 1) := by decide +kernel
theorem dX2_init_36 : decode cX2_init 36 = .ok (.iload_n 1, 1) := by decide +kernel
theorem dX2_init_37 : decode cX2_init 37 = .ok (.putfield 32, 3) := by decide +kernel
theorem dX2_init_40 : decode cX2_init 40 = .ok (.aload_n 0, 1) := by decide +kernel
theorem dX2_init_41 : decode cX2_init 41 = .ok (.iload_n 2, 1) := by decide +kernel
theorem dX2_init_42 : decode cX2_init 42 = .ok (.putfield 35, 3) := by decide +kernel
theorem dX2_init_45 : decode cX2_init 45 = .ok (.return_, 1) := by decide +kernel
theorem dX2_isUnderWay_0 : decode cX2_isUnderWay 0 = .ok (.aload_n 0, 1) := by decide +kernel
theorem dX2_isUnderWay_1 : decode cX2_isUnderWay 1 = .ok (.getfield 18, 3) := by decide +kernel
theorem dX2_isUnderWay_4 : decode cX2_isUnderWay 4 = .ok (.ifCond .eq 25, 3) := by decide +kernel
theorem dX2_isUnderWay_7 : decode cX2_isUnderWay 7 = .ok (.aload_n 0, 1) := by decide +kernel
theorem dX2_isUnderWay_8 : decode cX2_isUnderWay 8 = .ok (.getfield 18, 3) := by decide +kernel
theorem dX2_isUnderWay_11 : decode cX2_isUnderWay 11 = .ok (.bipush 7, 2) := by decide +kernel
theorem dX2_isUnderWay_13 : decode cX2_isUnderWay 13 = .ok (.if_icmp .eq 16, 3) := by decide +kernel
theorem dX2_isUnderWay_16 : decode cX2_isUnderWay 16 = .ok (.aload_n 0, 1) := by decide +kernel
theorem dX2_isUnderWay_17 : decode cX2_isUnderWay 17 = .ok (.getfield 18, 3) := by decide +kernel
theorem dX2_isUnderWay_20 : decode cX2_isUnderWay 20 = .ok (.bipush 8, 2) := by decide +kernel
theorem dX2_isUnderWay_22 : decode cX2_isUnderWay 22 = .ok (.if_icmp .eq 7, 3) := by decide +kernel
theorem dX2_isUnderWay_25 : decode cX2_isUnderWay 25 = .ok (.iconst 1, 1) := by decide +kernel
theorem dX2_isUnderWay_26 : decode cX2_isUnderWay 26 = .ok (.goto 4, 3) := by decide +kernel
theorem dX2_isUnderWay_29 : decode cX2_isUnderWay 29 = .ok (.iconst 0, 1) := by decide +kernel
theorem dX2_isUnderWay_30 : decode cX2_isUnderWay 30 = .ok (.ireturn, 1) := by decide +kernel
theorem dX2_enter_0 : decode cX2_enter 0 = .ok (.aload_n 0, 1) := by decide +kernel
theorem dX2_enter_1 : decode cX2_enter 1 = .ok (.iload_n 1, 1) := by decide +kernel
theorem dX2_enter_2 : decode cX2_enter 2 = .ok (.putfield 18, 3) := by decide +kernel
theorem dX2_enter_5 : decode cX2_enter 5 = .ok (.aload_n 0, 1) := by decide +kernel
theorem dX2_enter_6 : decode cX2_enter 6 = .ok (.iconst 0, 1) := by decide +kernel
theorem dX2_enter_7 : decode cX2_enter 7 = .ok (.putfield 22, 3) := by decide +kernel
theorem dX2_enter_10 : decode cX2_enter 10 = .ok (.return_, 1) := by decide +kernel
theorem dX2_cursorEnd_0 : decode cX2_cursorEnd 0 = .ok (.aload_n 0, 1) := by decide +kernel
theorem dX2_cursorEnd_1 : decode cX2_cursorEnd 1 = .ok (.getfield 12, 3) := by decide +kernel
theorem dX2_cursorEnd_4 : decode cX2_cursorEnd 4 = .ok (.invokevirtual 38, 3) := by decide +kernel
theorem dX2_cursorEnd_7 : decode cX2_cursorEnd 7 = .ok (.bipush 6, 2) := by decide +kernel
theorem dX2_cursorEnd_9 : decode cX2_cursorEnd 9 = .ok (.imul, 1) := by decide +kernel
theorem dX2_cursorEnd_10 : decode cX2_cursorEnd 10 = .ok (.ireturn, 1) := by decide +kernel
theorem dX2_slot_0 : decode cX2_slot 0 = .ok (.aload_n 0, 1) := by decide +kernel
theorem dX2_slot_1 : decode cX2_slot 1 = .ok (.getfield 22, 3) := by decide +kernel
theorem dX2_slot_4 : decode cX2_slot 4 = .ok (.bipush 6, 2) := by decide +kernel
theorem dX2_slot_6 : decode cX2_slot 6 = .ok (.irem, 1) := by decide +kernel
theorem dX2_slot_7 : decode cX2_slot 7 = .ok (.ireturn, 1) := by decide +kernel
theorem dX2_itemAt_0 : decode cX2_itemAt 0 = .ok (.iload_n 1, 1) := by decide +kernel
theorem dX2_itemAt_1 : decode cX2_itemAt 1 = .ok (.ifCond .lt 28, 3) := by decide +kernel
theorem dX2_itemAt_4 : decode cX2_itemAt 4 = .ok (.iload_n 1, 1) := by decide +kernel
theorem dX2_itemAt_5 : decode cX2_itemAt 5 = .ok (.aload_n 0, 1) := by decide +kernel
theorem dX2_itemAt_6 : decode cX2_itemAt 6 = .ok (.getfield 12, 3) := by decide +kernel
theorem dX2_itemAt_9 : decode cX2_itemAt 9 = .ok (.invokevirtual 38, 3) := by decide +kernel
theorem dX2_itemAt_12 : decode cX2_itemAt 12 = .ok (.if_icmp .ge 17, 3) := by decide +kernel
theorem dX2_itemAt_15 : decode cX2_itemAt 15 = .ok (.aload_n 0, 1) := by decide +kernel
theorem dX2_itemAt_16 : decode cX2_itemAt 16 = .ok (.getfield 12, 3) := by decide +kernel
theorem dX2_itemAt_19 : decode cX2_itemAt 19 = .ok (.iload_n 1, 1) := by decide +kernel
theorem dX2_itemAt_20 : decode cX2_itemAt 20 = .ok (.invokevirtual 42, 3) := by decide +kernel
theorem dX2_itemAt_23 : decode cX2_itemAt 23 = .ok (.checkcast 46, 3) := by decide +kernel
theorem dX2_itemAt_26 : decode cX2_itemAt 26 = .ok (.goto 4, 3) := by decide +kernel
theorem dX2_itemAt_29 : decode cX2_itemAt 29 = .ok (.aconst_null, 1) := by decide +kernel
theorem dX2_itemAt_30 : decode cX2_itemAt 30 = .ok (.areturn, 1) := by decide +kernel
theorem dX2_itemOf_0 : decode cX2_itemOf 0 = .ok (.iconst 0, 1) := by decide +kernel
theorem dX2_itemOf_1 : decode cX2_itemOf 1 = .ok (.istore_n 3, 1) := by decide +kernel
theorem dX2_itemOf_2 : decode cX2_itemOf 2 = .ok (.iload_n 3, 1) := by decide +kernel
theorem dX2_itemOf_3 : decode cX2_itemOf 3 = .ok (.aload_n 0, 1) := by decide +kernel
theorem dX2_itemOf_4 : decode cX2_itemOf 4 = .ok (.getfield 12, 3) := by decide +kernel
theorem dX2_itemOf_7 : decode cX2_itemOf 7 = .ok (.invokevirtual 38, 3) := by decide +kernel
theorem dX2_itemOf_10 : decode cX2_itemOf 10 = .ok (.if_icmp .ge 43, 3) := by decide +kernel
theorem dX2_itemOf_13 : decode cX2_itemOf 13 = .ok (.aload_n 0, 1) := by decide +kernel
theorem dX2_itemOf_14 : decode cX2_itemOf 14 = .ok (.getfield 12, 3) := by decide +kernel
theorem dX2_itemOf_17 : decode cX2_itemOf 17 = .ok (.iload_n 3, 1) := by decide +kernel
theorem dX2_itemOf_18 : decode cX2_itemOf 18 = .ok (.invokevirtual 42, 3) := by decide +kernel
theorem dX2_itemOf_21 : decode cX2_itemOf 21 = .ok (.checkcast 46, 3) := by decide +kernel
theorem dX2_itemOf_24 : decode cX2_itemOf 24 = .ok (.astore 4, 2) := by decide +kernel
theorem dX2_itemOf_26 : decode cX2_itemOf 26 = .ok (.aload 4, 2) := by decide +kernel
theorem dX2_itemOf_28 : decode cX2_itemOf 28 = .ok (.getfield 48, 3) := by decide +kernel
theorem dX2_itemOf_31 : decode cX2_itemOf 31 = .ok (.aload_n 1, 1) := by decide +kernel
theorem dX2_itemOf_32 : decode cX2_itemOf 32 = .ok (.if_acmp .ne 15, 3) := by decide +kernel
theorem dX2_itemOf_35 : decode cX2_itemOf 35 = .ok (.aload 4, 2) := by decide +kernel
theorem dX2_itemOf_37 : decode cX2_itemOf 37 = .ok (.getfield 52, 3) := by decide +kernel
theorem dX2_itemOf_40 : decode cX2_itemOf 40 = .ok (.iload_n 2, 1) := by decide +kernel
theorem dX2_itemOf_41 : decode cX2_itemOf 41 = .ok (.if_icmp .ne 6, 3) := by decide +kernel
theorem dX2_itemOf_44 : decode cX2_itemOf 44 = .ok (.aload 4, 2) := by decide +kernel
theorem dX2_itemOf_46 : decode cX2_itemOf 46 = .ok (.areturn, 1) := by decide +kernel
theorem dX2_itemOf_47 : decode cX2_itemOf 47 = .ok (.iinc 3 1, 3) := by decide +kernel
theorem dX2_itemOf_50 : decode cX2_itemOf 50 = .ok (.goto (-48), 3) := by decide +kernel
theorem dX2_itemOf_53 : decode cX2_itemOf 53 = .ok (.aconst_null, 1) := by decide +kernel
theorem dX2_itemOf_54 : decode cX2_itemOf 54 = .ok (.areturn, 1) := by decide +kernel
theorem dX2_writeCount_0 : decode cX2_writeCount 0 = .ok (.iconst 0, 1) := by decide +kernel
theorem dX2_writeCount_1 : decode cX2_writeCount 1 = .ok (.istore_n 1, 1) := by decide +kernel
theorem dX2_writeCount_2 : decode cX2_writeCount 2 = .ok (.iconst 0, 1) := by decide +kernel
theorem dX2_writeCount_3 : decode cX2_writeCount 3 = .ok (.istore_n 2, 1) := by decide +kernel
theorem dX2_writeCount_4 : decode cX2_writeCount 4 = .ok (.iload_n 2, 1) := by decide +kernel
theorem dX2_writeCount_5 : decode cX2_writeCount 5 = .ok (.aload_n 0, 1) := by decide +kernel
theorem dX2_writeCount_6 : decode cX2_writeCount 6 = .ok (.getfield 12, 3) := by decide +kernel
theorem dX2_writeCount_9 : decode cX2_writeCount 9 = .ok (.invokevirtual 38, 3) := by decide +kernel
theorem dX2_writeCount_12 : decode cX2_writeCount 12 = .ok (.if_icmp .ge 29, 3) := by decide +kernel
theorem dX2_writeCount_15 : decode cX2_writeCount 15 = .ok (.aload_n 0, 1) := by decide +kernel
theorem dX2_writeCount_16 : decode cX2_writeCount 16 = .ok (.getfield 12, 3) := by decide +kernel
theorem dX2_writeCount_19 : decode cX2_writeCount 19 = .ok (.iload_n 2, 1) := by decide +kernel
theorem dX2_writeCount_20 : decode cX2_writeCount 20 = .ok (.invokevirtual 42, 3) := by decide +kernel
theorem dX2_writeCount_23 : decode cX2_writeCount 23 = .ok (.checkcast 46, 3) := by decide +kernel
theorem dX2_writeCount_26 : decode cX2_writeCount 26 = .ok (.getfield 53, 3) := by decide +kernel
theorem dX2_writeCount_29 : decode cX2_writeCount 29 = .ok (.ifCond .eq 6, 3) := by decide +kernel
theorem dX2_writeCount_32 : decode cX2_writeCount 32 = .ok (.iinc 1 1, 3) := by decide +kernel
theorem dX2_writeCount_35 : decode cX2_writeCount 35 = .ok (.iinc 2 1, 3) := by decide +kernel
theorem dX2_writeCount_38 : decode cX2_writeCount 38 = .ok (.goto (-34), 3) := by decide +kernel
theorem dX2_writeCount_41 : decode cX2_writeCount 41 = .ok (.iload_n 1, 1) := by decide +kernel
theorem dX2_writeCount_42 : decode cX2_writeCount 42 = .ok (.ireturn, 1) := by decide +kernel
theorem dX2_writesIn_0 : decode cX2_writesIn 0 = .ok (.iconst 0, 1) := by decide +kernel
theorem dX2_writesIn_1 : decode cX2_writesIn 1 = .ok (.istore_n 2, 1) := by decide +kernel
theorem dX2_writesIn_2 : decode cX2_writesIn 2 = .ok (.iload_n 2, 1) := by decide +kernel
theorem dX2_writesIn_3 : decode cX2_writesIn 3 = .ok (.aload_n 0, 1) := by decide +kernel
theorem dX2_writesIn_4 : decode cX2_writesIn 4 = .ok (.getfield 12, 3) := by decide +kernel
theorem dX2_writesIn_7 : decode cX2_writesIn 7 = .ok (.invokevirtual 38, 3) := by decide +kernel
theorem dX2_writesIn_10 : decode cX2_writesIn 10 = .ok (.if_icmp .ge 38, 3) := by decide +kernel
theorem dX2_writesIn_13 : decode cX2_writesIn 13 = .ok (.aload_n 0, 1) := by decide +kernel
theorem dX2_writesIn_14 : decode cX2_writesIn 14 = .ok (.getfield 12, 3) := by decide +kernel
theorem dX2_writesIn_17 : decode cX2_writesIn 17 = .ok (.iload_n 2, 1) := by decide +kernel
theorem dX2_writesIn_18 : decode cX2_writesIn 18 = .ok (.invokevirtual 42, 3) := by decide +kernel
theorem dX2_writesIn_21 : decode cX2_writesIn 21 = .ok (.checkcast 46, 3) := by decide +kernel
theorem dX2_writesIn_24 : decode cX2_writesIn 24 = .ok (.astore_n 3, 1) := by decide +kernel
theorem dX2_writesIn_25 : decode cX2_writesIn 25 = .ok (.aload_n 3, 1) := by decide +kernel
theorem dX2_writesIn_26 : decode cX2_writesIn 26 = .ok (.getfield 53, 3) := by decide +kernel
theorem dX2_writesIn_29 : decode cX2_writesIn 29 = .ok (.ifCond .eq 13, 3) := by decide +kernel
theorem dX2_writesIn_32 : decode cX2_writesIn 32 = .ok (.aload_n 3, 1) := by decide +kernel
theorem dX2_writesIn_33 : decode cX2_writesIn 33 = .ok (.getfield 48, 3) := by decide +kernel
theorem dX2_writesIn_36 : decode cX2_writesIn 36 = .ok (.aload_n 1, 1) := by decide +kernel
theorem dX2_writesIn_37 : decode cX2_writesIn 37 = .ok (.if_acmp .ne 5, 3) := by decide +kernel
theorem dX2_writesIn_40 : decode cX2_writesIn 40 = .ok (.iconst 1, 1) := by decide +kernel
theorem dX2_writesIn_41 : decode cX2_writesIn 41 = .ok (.ireturn, 1) := by decide +kernel
theorem dX2_writesIn_42 : decode cX2_writesIn 42 = .ok (.iinc 2 1, 3) := by decide +kernel
theorem dX2_writesIn_45 : decode cX2_writesIn 45 = .ok (.goto (-43), 3) := by decide +kernel
theorem dX2_writesIn_48 : decode cX2_writesIn 48 = .ok (.iconst 0, 1) := by decide +kernel
theorem dX2_writesIn_49 : decode cX2_writesIn 49 = .ok (.ireturn, 1) := by decide +kernel
theorem dX2_writesOnAnyOf_0 : decode cX2_writesOnAnyOf 0 = .ok (.iconst 0, 1) := by decide +kernel
theorem dX2_writesOnAnyOf_1 : decode cX2_writesOnAnyOf 1 = .ok (.istore_n 2, 1) := by decide +kernel
theorem dX2_writesOnAnyOf_2 : decode cX2_writesOnAnyOf 2 = .ok (.iload_n 2, 1) := by decide +kernel
theorem dX2_writesOnAnyOf_3 : decode cX2_writesOnAnyOf 3 = .ok (.aload_n 0, 1) := by decide +kernel
theorem dX2_writesOnAnyOf_4 : decode cX2_writesOnAnyOf 4 = .ok (.getfield 12, 3) := by decide +kernel
theorem dX2_writesOnAnyOf_7 : decode cX2_writesOnAnyOf 7 = .ok (.invokevirtual 38, 3) := by decide +kernel
theorem dX2_writesOnAnyOf_10 : decode cX2_writesOnAnyOf 10 = .ok (.if_icmp .ge 42, 3) := by decide +kernel
theorem dX2_writesOnAnyOf_13 : decode cX2_writesOnAnyOf 13 = .ok (.aload_n 0, 1) := by decide +kernel
theorem dX2_writesOnAnyOf_14 : decode cX2_writesOnAnyOf 14 = .ok (.getfield 12, 3) := by decide +kernel
theorem dX2_writesOnAnyOf_17 : decode cX2_writesOnAnyOf 17 = .ok (.iload_n 2, 1) := by decide +kernel
theorem dX2_writesOnAnyOf_18 : decode cX2_writesOnAnyOf 18 = .ok (.invokevirtual 42, 3) := by decide +kernel
theorem dX2_writesOnAnyOf_21 : decode cX2_writesOnAnyOf 21 = .ok (.checkcast 46, 3) := by decide +kernel
theorem dX2_writesOnAnyOf_24 : decode cX2_writesOnAnyOf 24 = .ok (.astore_n 3, 1) := by decide +kernel
theorem dX2_writesOnAnyOf_25 : decode cX2_writesOnAnyOf 25 = .ok (.aload_n 3, 1) := by decide +kernel
theorem dX2_writesOnAnyOf_26 : decode cX2_writesOnAnyOf 26 = .ok (.getfield 53, 3) := by decide +kernel
theorem dX2_writesOnAnyOf_29 : decode cX2_writesOnAnyOf 29 = .ok (.ifCond .eq 17, 3) := by decide +kernel
theorem dX2_writesOnAnyOf_32 : decode cX2_writesOnAnyOf 32 = .ok (.aload_n 3, 1) := by decide +kernel
theorem dX2_writesOnAnyOf_33 : decode cX2_writesOnAnyOf 33 = .ok (.getfield 48, 3) := by decide +kernel
theorem dX2_writesOnAnyOf_36 : decode cX2_writesOnAnyOf 36 = .ok (.getfield 56, 3) := by decide +kernel
theorem dX2_writesOnAnyOf_39 : decode cX2_writesOnAnyOf 39 = .ok (.iload_n 1, 1) := by decide +kernel
theorem dX2_writesOnAnyOf_40 : decode cX2_writesOnAnyOf 40 = .ok (.iand, 1) := by decide +kernel
theorem dX2_writesOnAnyOf_41 : decode cX2_writesOnAnyOf 41 = .ok (.ifCond .eq 5, 3) := by decide +kernel
theorem dX2_writesOnAnyOf_44 : decode cX2_writesOnAnyOf 44 = .ok (.iconst 1, 1) := by decide +kernel
theorem dX2_writesOnAnyOf_45 : decode cX2_writesOnAnyOf 45 = .ok (.ireturn, 1) := by decide +kernel
theorem dX2_writesOnAnyOf_46 : decode cX2_writesOnAnyOf 46 = .ok (.iinc 2 1, 3) := by decide +kernel
theorem dX2_writesOnAnyOf_49 : decode cX2_writesOnAnyOf 49 = .ok (.goto (-47), 3) := by decide +kernel
theorem dX2_writesOnAnyOf_52 : decode cX2_writesOnAnyOf 52 = .ok (.iconst 0, 1) := by decide +kernel
theorem dX2_writesOnAnyOf_53 : decode cX2_writesOnAnyOf 53 = .ok (.ireturn, 1) := by decide +kernel
theorem dX3_init_0 : decode cX3_init 0 = .ok (.aload_n 0, 1) := by decide +kernel
theorem dX3_init_1 : decode cX3_init 1 = .ok (.invokespecial 1, 3) := by decide +kernel
theorem dX3_init_4 : decode cX3_init 4 = .ok (.aload_n 0, 1) := by decide +kernel
theorem dX3_init_5 : decode cX3_init 5 = .ok (.new 7, 3) := by decide +kernel
theorem dX3_init_8 : decode cX3_init 8 = .ok (.dup, 1) := by decide +kernel
theorem dX3_init_9 : decode cX3_init 9 = .ok (.invokespecial 9, 3) := by decide +kernel
theorem dX3_init_12 : decode cX3_init 12 = .ok (.putfield 10, 3) := by decide +kernel
theorem dX3_init_15 : decode cX3_init 15 = .ok (.aload_n 0, 1) := by decide +kernel
theorem dX3_init_16 : decode cX3_init 16 = .ok (.new 7, 3) := by decide +kernel
theorem dX3_init_19 : decode cX3_init 19 = .ok (.dup, 1) := by decide +kernel
theorem dX3_init_20 : decode cX3_init 20 = .ok (.invokespecial 9, 3) := by decide +kernel
theorem dX3_init_23 : decode cX3_init 23 = .ok (.putfield 16, 3) := by decide +kernel
theorem dX3_init_26 : decode cX3_init 26 = .ok (.aload_n 0, 1) := by decide +kernel
theorem dX3_init_27 : decode cX3_init 27 = .ok (.new 7, 3) := by decide +kernel
theorem dX3_init_30 : decode cX3_init 30 = .ok (.dup, 1) := by decide +kernel
theorem dX3_init_31 : decode cX3_init 31 = .ok (.invokespecial 9, 3) := by decide +kernel
theorem dX3_init_34 : decode cX3_init 34 = .ok (.putfield 19, 3) := by decide +kernel
theorem dX3_init_37 : decode cX3_init 37 = .ok (.aload_n 0, 1) := by decide +kernel
theorem dX3_init_38 : decode cX3_init 38 = .ok (.bipush 48, 2) := by decide +kernel
theorem dX3_init_40 : decode cX3_init 40 = .ok (.newarray .int, 2) := by decide +kernel
theorem dX3_init_42 : decode cX3_init 42 = .ok (.putfield 22, 3) := by decide +kernel
theorem dX3_init_45 : decode cX3_init 45 = .ok (.aload_n 0, 1) := by decide +kernel
theorem dX3_init_46 : decode cX3_init 46 = .ok (.bipush 63, 2) := by decide +kernel
theorem dX3_init_48 : decode cX3_init 48 = .ok (.putfield 26, 3) := by decide +kernel
theorem dX3_init_51 : decode cX3_init 51 = .ok (.aload_n 0, 1) := by decide +kernel
theorem dX3_init_52 : decode cX3_init 52 = .ok (.aload_n 0, 1) := by decide +kernel
theorem dX3_init_53 : decode cX3_init 53 = .ok (.getfield 26, 3) := by decide +kernel
theorem dX3_init_56 : decode cX3_init 56 = .ok (.putfield 30, 3) := by decide +kernel
theorem dX3_init_59 : decode cX3_init 59 = .ok (.aload_n 0, 1) := by decide +kernel
theorem dX3_init_60 : decode cX3_init 60 = .ok (.iconst 0, 1) := by decide +kernel
theorem dX3_init_61 : decode cX3_init 61 = .ok (.putfield 33, 3) := by decide +kernel
theorem dX3_init_64 : decode cX3_init 64 = .ok (.return_, 1) := by decide +kernel
theorem dX3_region_0 : decode cX3_region 0 = .ok (.iload_n 1, 1) := by decide +kernel
theorem dX3_region_1 : decode cX3_region 1 = .ok (.invokestatic 36, 3) := by decide +kernel
theorem dX3_region_4 : decode cX3_region 4 = .ok (.ifCond .eq 29, 3) := by decide +kernel
theorem dX3_region_7 : decode cX3_region 7 = .ok (.iload_n 2, 1) := by decide +kernel
theorem dX3_region_8 : decode cX3_region 8 = .ok (.invokestatic 40, 3) := by decide +kernel
theorem dX3_region_11 : decode cX3_region 11 = .ok (.ifCond .eq 22, 3) := by decide +kernel
theorem dX3_region_14 : decode cX3_region 14 = .ok (.iload_n 3, 1) := by decide +kernel
theorem dX3_region_15 : decode cX3_region 15 = .ok (.invokestatic 40, 3) := by decide +kernel
theorem dX3_region_18 : decode cX3_region 18 = .ok (.ifCond .eq 15, 3) := by decide +kernel
theorem dX3_region_21 : decode cX3_region 21 = .ok (.iload_n 2, 1) := by decide +kernel
theorem dX3_region_22 : decode cX3_region 22 = .ok (.bipush (-9), 2) := by decide +kernel
theorem dX3_region_24 : decode cX3_region 24 = .ok (.if_icmp .ne 11, 3) := by decide +kernel
theorem dX3_region_27 : decode cX3_region 27 = .ok (.iload_n 3, 1) := by decide +kernel
theorem dX3_region_28 : decode cX3_region 28 = .ok (.bipush (-9), 2) := by decide +kernel
theorem dX3_region_30 : decode cX3_region 30 = .ok (.if_icmp .eq 5, 3) := by decide +kernel
theorem dX3_region_33 : decode cX3_region 33 = .ok (.iconst (-1), 1) := by decide +kernel
theorem dX3_region_34 : decode cX3_region 34 = .ok (.ireturn, 1) := by decide +kernel
theorem dX3_region_35 : decode cX3_region 35 = .ok (.iload_n 1, 1) := by decide +kernel
theorem dX3_region_36 : decode cX3_region 36 = .ok (.iload_n 2, 1) := by decide +kernel
theorem dX3_region_37 : decode cX3_region 37 = .ok (.if_icmp .eq 19, 3) := by decide +kernel
theorem dX3_region_40 : decode cX3_region 40 = .ok (.iload_n 1, 1) := by decide +kernel
theorem dX3_region_41 : decode cX3_region 41 = .ok (.iload_n 3, 1) := by decide +kernel
theorem dX3_region_42 : decode cX3_region 42 = .ok (.if_icmp .eq 14, 3) := by decide +kernel
theorem dX3_region_45 : decode cX3_region 45 = .ok (.iload_n 2, 1) := by decide +kernel
theorem dX3_region_46 : decode cX3_region 46 = .ok (.iload_n 3, 1) := by decide +kernel
theorem dX3_region_47 : decode cX3_region 47 = .ok (.if_icmp .ne 12, 3) := by decide +kernel
theorem dX3_region_50 : decode cX3_region 50 = .ok (.iload_n 2, 1) := by decide +kernel
theorem dX3_region_51 : decode cX3_region 51 = .ok (.bipush (-9), 2) := by decide +kernel
theorem dX3_region_53 : decode cX3_region 53 = .ok (.if_icmp .eq 6, 3) := by decide +kernel
theorem dX3_region_56 : decode cX3_region 56 = .ok (.bipush (-3), 2) := by decide +kernel
theorem dX3_region_58 : decode cX3_region 58 = .ok (.ireturn, 1) := by decide +kernel
theorem dX3_region_59 : decode cX3_region 59 = .ok (.aload_n 0, 1) := by decide +kernel
theorem dX3_region_60 : decode cX3_region 60 = .ok (.iload_n 1, 1) := by decide +kernel
theorem dX3_region_61 : decode cX3_region 61 = .ok (.invokevirtual 43, 3) := by decide +kernel
theorem dX3_region_64 : decode cX3_region 64 = .ok (.ifCond .eq 31, 3) := by decide +kernel
theorem dX3_region_67 : decode cX3_region 67 = .ok (.iload_n 2, 1) := by decide +kernel
theorem dX3_region_68 : decode cX3_region 68 = .ok (.bipush (-9), 2) := by decide +kernel
theorem dX3_region_70 : decode cX3_region 70 = .ok (.if_icmp .eq 11, 3) := by decide +kernel
theorem dX3_region_73 : decode cX3_region 73 = .ok (.aload_n 0, 1) := by decide +kernel
theorem dX3_region_74 : decode cX3_region 74 = .ok (.iload_n 2, 1) := by decide +kernel
theorem dX3_region_75 : decode cX3_region 75 = .ok (.invokevirtual 43, 3) := by decide +kernel
theorem dX3_region_78 : decode cX3_region 78 = .ok (.ifCond .eq 17, 3) := by decide +kernel
theorem dX3_region_81 : decode cX3_region 81 = .ok (.iload_n 3, 1) := by decide +kernel
theorem dX3_region_82 : decode cX3_region 82 = .ok (.bipush (-9), 2) := by decide +kernel
theorem dX3_region_84 : decode cX3_region 84 = .ok (.if_icmp .eq 14, 3) := by decide +kernel
theorem dX3_region_87 : decode cX3_region 87 = .ok (.aload_n 0, 1) := by decide +kernel
theorem dX3_region_88 : decode cX3_region 88 = .ok (.iload_n 3, 1) := by decide +kernel
theorem dX3_region_89 : decode cX3_region 89 = .ok (.invokevirtual 43, 3) := by decide +kernel
theorem dX3_region_92 : decode cX3_region 92 = .ok (.ifCond .ne 6, 3) := by decide +kernel
theorem dX3_region_95 : decode cX3_region 95 = .ok (.bipush (-3), 2) := by decide +kernel
theorem dX3_region_97 : decode cX3_region 97 = .ok (.ireturn, 1) := by decide +kernel
theorem dX3_region_98 : decode cX3_region 98 = .ok (.aload_n 0, 1) := by decide +kernel
theorem dX3_region_99 : decode cX3_region 99 = .ok (.getfield 10, 3) := by decide +kernel
theorem dX3_region_102 : decode cX3_region 102 = .ok (.invokevirtual 46, 3) := by decide +kernel
theorem dX3_region_105 : decode cX3_region 105 = .ok (.bipush 6, 2) := by decide +kernel
theorem dX3_region_107 : decode cX3_region 107 = .ok (.if_icmp .lt 6, 3) := by decide +kernel
theorem dX3_region_110 : decode cX3_region 110 = .ok (.bipush (-4), 2) := by decide +kernel
theorem dX3_region_112 : decode cX3_region 112 = .ok (.ireturn, 1) := by decide +kernel
theorem dX3_region_113 : decode cX3_region 113 = .ok (.new 50, 3) := by decide +kernel
theorem dX3_region_116 : decode cX3_region 116 = .ok (.dup, 1) := by decide +kernel
theorem dX3_region_117 : decode cX3_region 117 = .ok (.aload_n 0, 1) := by decide +kernel
theorem dX3_region_118 : decode cX3_region 118 = .ok (.getfield 10, 3) := by decide +kernel
theorem dX3_region_121 : decode cX3_region 121 = .ok (.invokevirtual 46, 3) := by decide +kernel
theorem dX3_region_124 : decode cX3_region 124 = .ok (.invokespecial 52, 3) := by decide +kernel
theorem dX3_region_127 : decode cX3_region 127 = .ok (.astore 4, 2) := by decide +kernel
theorem dX3_region_129 : decode cX3_region 129 = .ok (.aload 4, 2) := by decide +kernel
theorem dX3_region_131 : decode cX3_region 131 = .ok (.iload_n 1, 1) := by decide +kernel
theorem dX3_region_132 : decode cX3_region 132 = .ok (.invokevirtual 55, 3) := by decide +kernel
theorem dX3_region_135 : decode cX3_region 135 = .ok (.iload_n 2, 1) := by decide +kernel
theorem dX3_region_136 : decode cX3_region 136 = .ok (.bipush (-9), 2) := by decide +kernel
theorem dX3_region_138 : decode cX3_region 138 = .ok (.if_icmp .eq 9, 3) := by decide +kernel
theorem dX3_region_141 : decode cX3_region 141 = .ok (.aload 4, 2) := by decide +kernel
theorem dX3_region_143 : decode cX3_region 143 = .ok (.iload_n 2, 1) := by decide +kernel
theorem dX3_region_144 : decode cX3_region 144 = .ok (.invokevirtual 55, 3) := by decide +kernel
theorem dX3_region_147 : decode cX3_region 147 = .ok (.iload_n 3, 1) := by decide +kernel
theorem dX3_region_148 : decode cX3_region 148 = .ok (.bipush (-9), 2) := by decide +kernel
theorem dX3_region_150 : decode cX3_region 150 = .ok (.if_icmp .eq 9, 3) := by decide +kernel
theorem dX3_region_153 : decode cX3_region 153 = .ok (.aload 4, 2) := by decide +kernel
theorem dX3_region_155 : decode cX3_region 155 = .ok (.iload_n 3, 1) := by decide +kernel
theorem dX3_region_156 : decode cX3_region 156 = .ok (.invokevirtual 55, 3) := by decide +kernel
theorem dX3_region_159 : decode cX3_region 159 = .ok (.aload_n 0, 1) := by decide +kernel
theorem dX3_region_160 : decode cX3_region 160 = .ok (.getfield 10, 3) := by decide +kernel
theorem dX3_region_163 : decode cX3_region 163 = .ok (.aload 4, 2) := by decide +kernel
theorem dX3_region_165 : decode cX3_region 165 = .ok (.invokevirtual 58, 3) := by decide +kernel
theorem dX3_region_168 : decode cX3_region 168 = .ok (.pop, 1) := by decide +kernel
theorem dX3_region_169 : decode cX3_region 169 = .ok (.aload 4, 2) := by decide +kernel
theorem dX3_region_171 : decode cX3_region 171 = .ok (.getfield 62, 3) := by decide +kernel
theorem dX3_region_174 : decode cX3_region 174 = .ok (.ireturn, 1) := by decide +kernel
theorem dX3_fail_0 : decode cX3_fail 0 = .ok (.iload_n 1, 1) := by decide +kernel
theorem dX3_fail_1 : decode cX3_fail 1 = .ok (.invokestatic 36, 3) := by decide +kernel
theorem dX3_fail_4 : decode cX3_fail 4 = .ok (.ifCond .ne 5, 3) := by decide +kernel
theorem dX3_fail_7 : decode cX3_fail 7 = .ok (.iconst (-1), 1) := by decide +kernel
theorem dX3_fail_8 : decode cX3_fail 8 = .ok (.ireturn, 1) := by decide +kernel
theorem dX3_fail_9 : decode cX3_fail 9 = .ok (.aload_n 0, 1) := by decide +kernel
theorem dX3_fail_10 : decode cX3_fail 10 = .ok (.iload_n 1, 1) := by decide +kernel
theorem dX3_fail_11 : decode cX3_fail 11 = .ok (.invokevirtual 65, 3) := by decide +kernel
theorem dX3_fail_14 : decode cX3_fail 14 = .ok (.ifCond .ne 6, 3) := by decide +kernel
theorem dX3_fail_17 : decode cX3_fail 17 = .ok (.bipush (-3), 2) := by decide +kernel
theorem dX3_fail_19 : decode cX3_fail 19 = .ok (.ireturn, 1) := by decide +kernel
theorem dX3_fail_20 : decode cX3_fail 20 = .ok (.aload_n 0, 1) := by decide +kernel
theorem dX3_fail_21 : decode cX3_fail 21 = .ok (.dup, 1) := by decide +kernel
theorem dX3_fail_22 : decode cX3_fail 22 = .ok (.getfield 26, 3) := by decide +kernel
theorem dX3_fail_25 : decode cX3_fail 25 = .ok (.iload_n 1, 1) := by decide +kernel
theorem dX3_fail_26 : decode cX3_fail 26 = .ok (.invokestatic 68, 3) := by decide +kernel
theorem dX3_fail_29 : decode cX3_fail 29 = .ok (.iconst (-1), 1) := by decide +kernel
theorem dX3_fail_30 : decode cX3_fail 30 = .ok (.ixor, 1) := by decide +kernel
theorem dX3_fail_31 : decode cX3_fail 31 = .ok (.iand, 1) := by decide +kernel
theorem dX3_fail_32 : decode cX3_fail 32 = .ok (.putfield 26, 3) := by decide +kernel
theorem dX3_fail_35 : decode cX3_fail 35 = .ok (.aload_n 0, 1) := by decide +kernel
theorem dX3_fail_36 : decode cX3_fail 36 = .ok (.getfield 26, 3) := by decide +kernel
theorem dX3_fail_39 : decode cX3_fail 39 = .ok (.invokestatic 72, 3) := by decide +kernel
theorem dX3_fail_42 : decode cX3_fail 42 = .ok (.ireturn, 1) := by decide +kernel
theorem dX3_configure_0 : decode cX3_configure 0 = .ok (.aload_n 0, 1) := by decide +kernel
theorem dX3_configure_1 : decode cX3_configure 1 = .ok (.getfield 30, 3) := by decide +kernel
theorem dX3_configure_4 : decode cX3_configure 4 = .ok (.aload_n 0, 1) := by decide +kernel
theorem dX3_configure_5 : decode cX3_configure 5 = .ok (.getfield 26, 3) := by decide +kernel
theorem dX3_configure_8 : decode cX3_configure 8 = .ok (.if_icmp .eq 10, 3) := by decide +kernel
theorem dX3_configure_11 : decode cX3_configure 11 = .ok (.aload_n 0, 1) := by decide +kernel
theorem dX3_configure_12 : decode cX3_configure 12 = .ok (.getfield 26, 3) := by decide +kernel
theorem dX3_configure_15 : decode cX3_configure 15 = .ok (.ifCond .ne 6, 3) := by decide +kernel
theorem dX3_configure_18 : decode cX3_configure 18 = .ok (.bipush (-3), 2) := by decide +kernel
theorem dX3_configure_20 : decode cX3_configure 20 = .ok (.ireturn, 1) := by decide +kernel
theorem dX3_configure_21 : decode cX3_configure 21 = .ok (.aload_n 0, 1) := by decide +kernel
theorem dX3_configure_22 : decode cX3_configure 22 = .ok (.getfield 30, 3) := by decide +kernel
theorem dX3_configure_25 : decode cX3_configure 25 = .ok (.istore_n 1, 1) := by decide +kernel
theorem dX3_configure_26 : decode cX3_configure 26 = .ok (.aload_n 0, 1) := by decide +kernel
theorem dX3_configure_27 : decode cX3_configure 27 = .ok (.aload_n 0, 1) := by decide +kernel
theorem dX3_configure_28 : decode cX3_configure 28 = .ok (.getfield 26, 3) := by decide +kernel
theorem dX3_configure_31 : decode cX3_configure 31 = .ok (.putfield 30, 3) := by decide +kernel
theorem dX3_configure_34 : decode cX3_configure 34 = .ok (.aload_n 0, 1) := by decide +kernel
theorem dX3_configure_35 : decode cX3_configure 35 = .ok (.dup, 1) := by decide +kernel
theorem dX3_configure_36 : decode cX3_configure 36 = .ok (.getfield 33, 3) := by decide +kernel
theorem dX3_configure_39 : decode cX3_configure 39 = .ok (.iconst 1, 1) := by decide +kernel
theorem dX3_configure_40 : decode cX3_configure 40 = .ok (.iadd, 1) := by decide +kernel
theorem dX3_configure_41 : decode cX3_configure 41 = .ok (.putfield 33, 3) := by decide +kernel
theorem dX3_configure_44 : decode cX3_configure 44 = .ok (.iconst 0, 1) := by decide +kernel
theorem dX3_configure_45 : decode cX3_configure 45 = .ok (.istore_n 2, 1) := by decide +kernel
theorem dX3_configure_46 : decode cX3_configure 46 = .ok (.iconst 0, 1) := by decide +kernel
theorem dX3_configure_47 : decode cX3_configure 47 = .ok (.istore_n 3, 1) := by decide +kernel
theorem dX3_configure_48 : decode cX3_configure 48 = .ok (.iload_n 3, 1) := by decide +kernel
theorem dX3_configure_49 : decode cX3_configure 49 = .ok (.aload_n 0, 1) := by decide +kernel
theorem dX3_configure_50 : decode cX3_configure 50 = .ok (.getfield 16, 3) := by decide +kernel
theorem dX3_configure_53 : decode cX3_configure 53 = .ok (.invokevirtual 46, 3) := by decide +kernel
theorem dX3_configure_56 : decode cX3_configure 56 = .ok (.if_icmp .ge 72, 3) := by decide +kernel
theorem dX3_configure_59 : decode cX3_configure 59 = .ok (.aload_n 0, 1) := by decide +kernel
theorem dX3_configure_60 : decode cX3_configure 60 = .ok (.getfield 16, 3) := by decide +kernel
theorem dX3_configure_63 : decode cX3_configure 63 = .ok (.iload_n 3, 1) := by decide +kernel
theorem dX3_configure_64 : decode cX3_configure 64 = .ok (.invokevirtual 77, 3) := by decide +kernel
theorem dX3_configure_67 : decode cX3_configure 67 = .ok (.checkcast 81, 3) := by decide +kernel
theorem dX3_configure_70 : decode cX3_configure 70 = .ok (.astore 4, 2) := by decide +kernel
theorem dX3_configure_72 : decode cX3_configure 72 = .ok (.aload 4, 2) := by decide +kernel
theorem dX3_configure_74 : decode cX3_configure 74 = .ok (.getfield 83, 3) := by decide +kernel
theorem dX3_configure_77 : decode cX3_configure 77 = .ok (.ifCond .ne 25, 3) := by decide +kernel
theorem dX3_configure_80 : decode cX3_configure 80 = .ok (.aload_n 0, 1) := by decide +kernel
theorem dX3_configure_81 : decode cX3_configure 81 = .ok (.aload 4, 2) := by decide +kernel
theorem dX3_configure_83 : decode cX3_configure 83 = .ok (.getfield 86, 3) := by decide +kernel
theorem dX3_configure_86 : decode cX3_configure 86 = .ok (.invokevirtual 43, 3) := by decide +kernel
theorem dX3_configure_89 : decode cX3_configure 89 = .ok (.ifCond .ne 13, 3) := by decide +kernel
theorem dX3_configure_92 : decode cX3_configure 92 = .ok (.aload 4, 2) := by decide +kernel
theorem dX3_configure_94 : decode cX3_configure 94 = .ok (.bipush 8, 2) := by decide +kernel
theorem dX3_configure_96 : decode cX3_configure 96 = .ok (.invokevirtual 89, 3) := by decide +kernel
theorem dX3_configure_99 : decode cX3_configure 99 = .ok (.goto 23, 3) := by decide +kernel
theorem dX3_configure_102 : decode cX3_configure 102 = .ok (.aload_n 0, 1) := by decide +kernel
theorem dX3_configure_103 : decode cX3_configure 103 = .ok (.aload 4, 2) := by decide +kernel
theorem dX3_configure_105 : decode cX3_configure 105 = .ok (.iload_n 1, 1) := by decide +kernel
theorem dX3_configure_106 : decode cX3_configure 106 = .ok (.invokevirtual 92, 3) := by decide +kernel
theorem dX3_configure_109 : decode cX3_configure 109 = .ok (.ifCond .eq 13, 3) := by decide +kernel
theorem dX3_configure_112 : decode cX3_configure 112 = .ok (.aload_n 0, 1) := by decide +kernel
theorem dX3_configure_113 : decode cX3_configure 113 = .ok (.aload 4, 2) := by decide +kernel
theorem dX3_configure_115 : decode cX3_configure 115 = .ok (.iload_n 1, 1) := by decide +kernel
theorem dX3_configure_116 : decode cX3_configure 116 = .ok (.invokevirtual 96, 3) := by decide +kernel
theorem dX3_configure_119 : decode cX3_configure 119 = .ok (.iinc 2 1, 3) := by decide +kernel
theorem dX3_configure_122 : decode cX3_configure 122 = .ok (.iinc 3 1, 3) := by decide +kernel
theorem dX3_configure_125 : decode cX3_configure 125 = .ok (.goto (-77), 3) := by decide +kernel
theorem dX3_configure_128 : decode cX3_configure 128 = .ok (.iload_n 2, 1) := by decide +kernel
theorem dX3_configure_129 : decode cX3_configure 129 = .ok (.ireturn, 1) := by decide +kernel
theorem dX3_copy_0 : decode cX3_copy 0 = .ok (.aload_n 0, 1) := by decide +kernel
theorem dX3_copy_1 : decode cX3_copy 1 = .ok (.iload_n 1, 1) := by decide +kernel
theorem dX3_copy_2 : decode cX3_copy 2 = .ok (.invokevirtual 100, 3) := by decide +kernel
theorem dX3_copy_5 : decode cX3_copy 5 = .ok (.astore_n 3, 1) := by decide +kernel
theorem dX3_copy_6 : decode cX3_copy 6 = .ok (.aload_n 3, 1) := by decide +kernel
theorem dX3_copy_7 : decode cX3_copy 7 = .ok (.ifnull 10, 3) := by decide +kernel
theorem dX3_copy_10 : decode cX3_copy 10 = .ok (.iload_n 2, 1) := by decide +kernel
theorem dX3_copy_11 : decode cX3_copy 11 = .ok (.invokestatic 36, 3) := by decide +kernel
theorem dX3_copy_14 : decode cX3_copy 14 = .ok (.ifCond .ne 5, 3) := by decide +kernel
theorem dX3_copy_17 : decode cX3_copy 17 = .ok (.iconst (-1), 1) := by decide +kernel
theorem dX3_copy_18 : decode cX3_copy 18 = .ok (.ireturn, 1) := by decide +kernel
theorem dX3_copy_19 : decode cX3_copy 19 = .ok (.aload_n 0, 1) := by decide +kernel
theorem dX3_copy_20 : decode cX3_copy 20 = .ok (.aload_n 3, 1) := by decide +kernel
theorem dX3_copy_21 : decode cX3_copy 21 = .ok (.invokevirtual 104, 3) := by decide +kernel
theorem dX3_copy_24 : decode cX3_copy 24 = .ok (.istore 4, 2) := by decide +kernel
theorem dX3_copy_26 : decode cX3_copy 26 = .ok (.iload 4, 2) := by decide +kernel
theorem dX3_copy_28 : decode cX3_copy 28 = .ok (.bipush (-9), 2) := by decide +kernel
theorem dX3_copy_30 : decode cX3_copy 30 = .ok (.if_icmp .ne 6, 3) := by decide +kernel
theorem dX3_copy_33 : decode cX3_copy 33 = .ok (.bipush (-5), 2) := by decide +kernel
theorem dX3_copy_35 : decode cX3_copy 35 = .ok (.ireturn, 1) := by decide +kernel
theorem dX3_copy_36 : decode cX3_copy 36 = .ok (.aload_n 3, 1) := by decide +kernel
theorem dX3_copy_37 : decode cX3_copy 37 = .ok (.getfield 108, 3) := by decide +kernel
theorem dX3_copy_40 : decode cX3_copy 40 = .ok (.iload_n 2, 1) := by decide +kernel
theorem dX3_copy_41 : decode cX3_copy 41 = .ok (.invokestatic 111, 3) := by decide +kernel
theorem dX3_copy_44 : decode cX3_copy 44 = .ok (.ifCond .ne 28, 3) := by decide +kernel
theorem dX3_copy_47 : decode cX3_copy 47 = .ok (.aload_n 0, 1) := by decide +kernel
theorem dX3_copy_48 : decode cX3_copy 48 = .ok (.iload_n 2, 1) := by decide +kernel
theorem dX3_copy_49 : decode cX3_copy 49 = .ok (.invokevirtual 43, 3) := by decide +kernel
theorem dX3_copy_52 : decode cX3_copy 52 = .ok (.ifCond .eq 20, 3) := by decide +kernel
theorem dX3_copy_55 : decode cX3_copy 55 = .ok (.aload_n 0, 1) := by decide +kernel
theorem dX3_copy_56 : decode cX3_copy 56 = .ok (.iload_n 2, 1) := by decide +kernel
theorem dX3_copy_57 : decode cX3_copy 57 = .ok (.invokevirtual 65, 3) := by decide +kernel
theorem dX3_copy_60 : decode cX3_copy 60 = .ok (.ifCond .eq 12, 3) := by decide +kernel
theorem dX3_copy_63 : decode cX3_copy 63 = .ok (.aload_n 0, 1) := by decide +kernel
theorem dX3_copy_64 : decode cX3_copy 64 = .ok (.iload 4, 2) := by decide +kernel
theorem dX3_copy_66 : decode cX3_copy 66 = .ok (.invokevirtual 65, 3) := by decide +kernel
theorem dX3_copy_69 : decode cX3_copy 69 = .ok (.ifCond .ne 6, 3) := by decide +kernel
theorem dX3_copy_72 : decode cX3_copy 72 = .ok (.bipush (-3), 2) := by decide +kernel
theorem dX3_copy_74 : decode cX3_copy 74 = .ok (.ireturn, 1) := by decide +kernel
theorem dX3_copy_75 : decode cX3_copy 75 = .ok (.aload_n 0, 1) := by decide +kernel
theorem dX3_copy_76 : decode cX3_copy 76 = .ok (.aload_n 3, 1) := by decide +kernel
theorem dX3_copy_77 : decode cX3_copy 77 = .ok (.invokevirtual 115, 3) := by decide +kernel
theorem dX3_copy_80 : decode cX3_copy 80 = .ok (.iconst 3, 1) := by decide +kernel
theorem dX3_copy_81 : decode cX3_copy 81 = .ok (.if_icmp .ge 11, 3) := by decide +kernel
theorem dX3_copy_84 : decode cX3_copy 84 = .ok (.aload_n 0, 1) := by decide +kernel
theorem dX3_copy_85 : decode cX3_copy 85 = .ok (.aload_n 3, 1) := by decide +kernel
theorem dX3_copy_86 : decode cX3_copy 86 = .ok (.invokevirtual 118, 3) := by decide +kernel
theorem dX3_copy_89 : decode cX3_copy 89 = .ok (.ifCond .eq 6, 3) := by decide +kernel
theorem dX3_copy_92 : decode cX3_copy 92 = .ok (.bipush (-3), 2) := by decide +kernel
theorem dX3_copy_94 : decode cX3_copy 94 = .ok (.ireturn, 1) := by decide +kernel
theorem dX3_copy_95 : decode cX3_copy 95 = .ok (.aload_n 3, 1) := by decide +kernel
theorem dX3_copy_96 : decode cX3_copy 96 = .ok (.iload_n 2, 1) := by decide +kernel
theorem dX3_copy_97 : decode cX3_copy 97 = .ok (.invokevirtual 55, 3) := by decide +kernel
theorem dX3_copy_100 : decode cX3_copy 100 = .ok (.iconst 0, 1) := by decide +kernel
theorem dX3_copy_101 : decode cX3_copy 101 = .ok (.istore 5, 2) := by decide +kernel
theorem dX3_copy_103 : decode cX3_copy 103 = .ok (.iload 5, 2) := by decide +kernel
theorem dX3_copy_105 : decode cX3_copy 105 = .ok (.bipush 8, 2) := by decide +kernel
theorem dX3_copy_107 : decode cX3_copy 107 = .ok (.if_icmp .ge 42, 3) := by decide +kernel
theorem dX3_copy_110 : decode cX3_copy 110 = .ok (.iload 4, 2) := by decide +kernel
theorem dX3_copy_112 : decode cX3_copy 112 = .ok (.iload 5, 2) := by decide +kernel
theorem dX3_copy_114 : decode cX3_copy 114 = .ok (.invokestatic 122, 3) := by decide +kernel
theorem dX3_copy_117 : decode cX3_copy 117 = .ok (.istore 6, 2) := by decide +kernel
theorem dX3_copy_119 : decode cX3_copy 119 = .ok (.aload_n 3, 1) := by decide +kernel
theorem dX3_copy_120 : decode cX3_copy 120 = .ok (.iload_n 2, 1) := by decide +kernel
theorem dX3_copy_121 : decode cX3_copy 121 = .ok (.iload 5, 2) := by decide +kernel
theorem dX3_copy_123 : decode cX3_copy 123 = .ok (.invokestatic 122, 3) := by decide +kernel
theorem dX3_copy_126 : decode cX3_copy 126 = .ok (.aload_n 3, 1) := by decide +kernel
theorem dX3_copy_127 : decode cX3_copy 127 = .ok (.getfield 126, 3) := by decide +kernel
theorem dX3_copy_130 : decode cX3_copy 130 = .ok (.iload 6, 2) := by decide +kernel
theorem dX3_copy_132 : decode cX3_copy 132 = .ok (.iaload, 1) := by decide +kernel
theorem dX3_copy_133 : decode cX3_copy 133 = .ok (.aload_n 3, 1) := by decide +kernel
theorem dX3_copy_134 : decode cX3_copy 134 = .ok (.getfield 129, 3) := by decide +kernel
theorem dX3_copy_137 : decode cX3_copy 137 = .ok (.iload 6, 2) := by decide +kernel
theorem dX3_copy_139 : decode cX3_copy 139 = .ok (.iaload, 1) := by decide +kernel
theorem dX3_copy_140 : decode cX3_copy 140 = .ok (.invokevirtual 132, 3) := by decide +kernel
theorem dX3_copy_143 : decode cX3_copy 143 = .ok (.iinc 5 1, 3) := by decide +kernel
theorem dX3_copy_146 : decode cX3_copy 146 = .ok (.goto (-43), 3) := by decide +kernel
theorem dX3_copy_149 : decode cX3_copy 149 = .ok (.aload_n 0, 1) := by decide +kernel
theorem dX3_copy_150 : decode cX3_copy 150 = .ok (.aload_n 3, 1) := by decide +kernel
theorem dX3_copy_151 : decode cX3_copy 151 = .ok (.invokevirtual 115, 3) := by decide +kernel
theorem dX3_copy_154 : decode cX3_copy 154 = .ok (.ireturn, 1) := by decide +kernel
theorem dX3_machine_0 : decode cX3_machine 0 = .ok (.iload_n 1, 1) := by decide +kernel
theorem dX3_machine_1 : decode cX3_machine 1 = .ok (.invokestatic 36, 3) := by decide +kernel
theorem dX3_machine_4 : decode cX3_machine 4 = .ok (.ifCond .ne 5, 3) := by decide +kernel
theorem dX3_machine_7 : decode cX3_machine 7 = .ok (.iconst (-1), 1) := by decide +kernel
theorem dX3_machine_8 : decode cX3_machine 8 = .ok (.ireturn, 1) := by decide +kernel
theorem dX3_machine_9 : decode cX3_machine 9 = .ok (.iload_n 2, 1) := by decide +kernel
theorem dX3_machine_10 : decode cX3_machine 10 = .ok (.tableswitch 73 0 3 #[30, 44, 58, 64], 30) := by decide +kernel
theorem dX3_machine_40 : decode cX3_machine 40 = .ok (.aload_n 0, 1) := by decide +kernel
theorem dX3_machine_41 : decode cX3_machine 41 = .ok (.iload_n 1, 1) := by decide +kernel
theorem dX3_machine_42 : decode cX3_machine 42 = .ok (.invokevirtual 65, 3) := by decide +kernel
theorem dX3_machine_45 : decode cX3_machine 45 = .ok (.ifCond .eq 7, 3) := by decide +kernel
theorem dX3_machine_48 : decode cX3_machine 48 = .ok (.iconst 1, 1) := by decide +kernel
theorem dX3_machine_49 : decode cX3_machine 49 = .ok (.goto 4, 3) := by decide +kernel
theorem dX3_machine_52 : decode cX3_machine 52 = .ok (.iconst 0, 1) := by decide +kernel
theorem dX3_machine_53 : decode cX3_machine 53 = .ok (.ireturn, 1) := by decide +kernel
theorem dX3_machine_54 : decode cX3_machine 54 = .ok (.aload_n 0, 1) := by decide +kernel
theorem dX3_machine_55 : decode cX3_machine 55 = .ok (.iload_n 1, 1) := by decide +kernel
theorem dX3_machine_56 : decode cX3_machine 56 = .ok (.invokevirtual 43, 3) := by decide +kernel
theorem dX3_machine_59 : decode cX3_machine 59 = .ok (.ifCond .eq 7, 3) := by decide +kernel
theorem dX3_machine_62 : decode cX3_machine 62 = .ok (.iconst 1, 1) := by decide +kernel
theorem dX3_machine_63 : decode cX3_machine 63 = .ok (.goto 4, 3) := by decide +kernel
theorem dX3_machine_66 : decode cX3_machine 66 = .ok (.iconst 0, 1) := by decide +kernel
theorem dX3_machine_67 : decode cX3_machine 67 = .ok (.ireturn, 1) := by decide +kernel
theorem dX3_machine_68 : decode cX3_machine 68 = .ok (.aload_n 0, 1) := by decide +kernel
theorem dX3_machine_69 : decode cX3_machine 69 = .ok (.iload_n 1, 1) := by decide +kernel
theorem dX3_machine_70 : decode cX3_machine 70 = .ok (.invokevirtual 136, 3) := by decide +kernel
theorem dX3_machine_73 : decode cX3_machine 73 = .ok (.ireturn, 1) := by decide +kernel
theorem dX3_machine_74 : decode cX3_machine 74 = .ok (.aload_n 0, 1) := by decide +kernel
theorem dX3_machine_75 : decode cX3_machine 75 = .ok (.iload_n 1, 1) := by decide +kernel
theorem dX3_machine_76 : decode cX3_machine 76 = .ok (.invokestatic 68, 3) := by decide +kernel
theorem dX3_machine_79 : decode cX3_machine 79 = .ok (.invokevirtual 139, 3) := by decide +kernel
theorem dX3_machine_82 : decode cX3_machine 82 = .ok (.ireturn, 1) := by decide +kernel
theorem dX3_machine_83 : decode cX3_machine 83 = .ok (.bipush (-2), 2) := by decide +kernel
theorem dX3_machine_85 : decode cX3_machine 85 = .ok (.ireturn, 1) := by decide +kernel
theorem dX3_copyAt_0 : decode cX3_copyAt 0 = .ok (.aload_n 0, 1) := by decide +kernel
theorem dX3_copyAt_1 : decode cX3_copyAt 1 = .ok (.iload_n 1, 1) := by decide +kernel
theorem dX3_copyAt_2 : decode cX3_copyAt 2 = .ok (.invokevirtual 100, 3) := by decide +kernel
theorem dX3_copyAt_5 : decode cX3_copyAt 5 = .ok (.astore_n 3, 1) := by decide +kernel
theorem dX3_copyAt_6 : decode cX3_copyAt 6 = .ok (.aload_n 3, 1) := by decide +kernel
theorem dX3_copyAt_7 : decode cX3_copyAt 7 = .ok (.ifnonnull 7, 3) := by decide +kernel
theorem dX3_copyAt_10 : decode cX3_copyAt 10 = .ok (.iconst (-1), 1) := by decide +kernel
theorem dX3_copyAt_11 : decode cX3_copyAt 11 = .ok (.goto 9, 3) := by decide +kernel
theorem dX3_copyAt_14 : decode cX3_copyAt 14 = .ok (.aload_n 0, 1) := by decide +kernel
theorem dX3_copyAt_15 : decode cX3_copyAt 15 = .ok (.aload_n 3, 1) := by decide +kernel
theorem dX3_copyAt_16 : decode cX3_copyAt 16 = .ok (.iload_n 2, 1) := by decide +kernel
theorem dX3_copyAt_17 : decode cX3_copyAt 17 = .ok (.invokevirtual 142, 3) := by decide +kernel
theorem dX3_copyAt_20 : decode cX3_copyAt 20 = .ok (.ireturn, 1) := by decide +kernel
theorem dX3_object_0 : decode cX3_object 0 = .ok (.aload_n 0, 1) := by decide +kernel
theorem dX3_object_1 : decode cX3_object 1 = .ok (.iload_n 1, 1) := by decide +kernel
theorem dX3_object_2 : decode cX3_object 2 = .ok (.invokevirtual 100, 3) := by decide +kernel
theorem dX3_object_5 : decode cX3_object 5 = .ok (.astore 5, 2) := by decide +kernel
theorem dX3_object_7 : decode cX3_object 7 = .ok (.aload 5, 2) := by decide +kernel
theorem dX3_object_9 : decode cX3_object 9 = .ok (.ifnull 10, 3) := by decide +kernel
theorem dX3_object_12 : decode cX3_object 12 = .ok (.iload_n 3, 1) := by decide +kernel
theorem dX3_object_13 : decode cX3_object 13 = .ok (.invokestatic 146, 3) := by decide +kernel
theorem dX3_object_16 : decode cX3_object 16 = .ok (.ifCond .ne 5, 3) := by decide +kernel
theorem dX3_object_19 : decode cX3_object 19 = .ok (.iconst (-1), 1) := by decide +kernel
theorem dX3_object_20 : decode cX3_object 20 = .ok (.ireturn, 1) := by decide +kernel
theorem dX3_object_21 : decode cX3_object 21 = .ok (.aload_n 0, 1) := by decide +kernel
theorem dX3_object_22 : decode cX3_object 22 = .ok (.aload 5, 2) := by decide +kernel
theorem dX3_object_24 : decode cX3_object 24 = .ok (.iload_n 2, 1) := by decide +kernel
theorem dX3_object_25 : decode cX3_object 25 = .ok (.invokevirtual 142, 3) := by decide +kernel
theorem dX3_object_28 : decode cX3_object 28 = .ok (.istore 6, 2) := by decide +kernel
theorem dX3_object_30 : decode cX3_object 30 = .ok (.iload 6, 2) := by decide +kernel
theorem dX3_object_32 : decode cX3_object 32 = .ok (.bipush (-9), 2) := by decide +kernel
theorem dX3_object_34 : decode cX3_object 34 = .ok (.if_icmp .ne 5, 3) := by decide +kernel
theorem dX3_object_37 : decode cX3_object 37 = .ok (.iconst (-1), 1) := by decide +kernel
theorem dX3_object_38 : decode cX3_object 38 = .ok (.ireturn, 1) := by decide +kernel
theorem dX3_object_39 : decode cX3_object 39 = .ok (.iload 4, 2) := by decide +kernel
theorem dX3_object_41 : decode cX3_object 41 = .ok (.tableswitch 91 0 3 #[31, 44, 57, 81], 31) := by decide +kernel
theorem dX3_object_72 : decode cX3_object 72 = .ok (.aload 5, 2) := by decide +kernel
theorem dX3_object_74 : decode cX3_object 74 = .ok (.getfield 126, 3) := by decide +kernel
theorem dX3_object_77 : decode cX3_object 77 = .ok (.iload 6, 2) := by decide +kernel
theorem dX3_object_79 : decode cX3_object 79 = .ok (.iload_n 3, 1) := by decide +kernel
theorem dX3_object_80 : decode cX3_object 80 = .ok (.invokestatic 122, 3) := by decide +kernel
theorem dX3_object_83 : decode cX3_object 83 = .ok (.iaload, 1) := by decide +kernel
theorem dX3_object_84 : decode cX3_object 84 = .ok (.ireturn, 1) := by decide +kernel
theorem dX3_object_85 : decode cX3_object 85 = .ok (.aload 5, 2) := by decide +kernel
theorem dX3_object_87 : decode cX3_object 87 = .ok (.getfield 129, 3) := by decide +kernel
theorem dX3_object_90 : decode cX3_object 90 = .ok (.iload 6, 2) := by decide +kernel
theorem dX3_object_92 : decode cX3_object 92 = .ok (.iload_n 3, 1) := by decide +kernel
theorem dX3_object_93 : decode cX3_object 93 = .ok (.invokestatic 122, 3) := by decide +kernel
theorem dX3_object_96 : decode cX3_object 96 = .ok (.iaload, 1) := by decide +kernel
theorem dX3_object_97 : decode cX3_object 97 = .ok (.ireturn, 1) := by decide +kernel
theorem dX3_object_98 : decode cX3_object 98 = .ok (.iload 6, 2) := by decide +kernel
theorem dX3_object_100 : decode cX3_object 100 = .ok (.aload_n 0, 1) := by decide +kernel
theorem dX3_object_101 : decode cX3_object 101 = .ok (.aload 5, 2) := by decide +kernel
theorem dX3_object_103 : decode cX3_object 103 = .ok (.invokevirtual 104, 3) := by decide +kernel
theorem dX3_object_106 : decode cX3_object 106 = .ok (.if_icmp .ne 13, 3) := by decide +kernel
theorem dX3_object_109 : decode cX3_object 109 = .ok (.aload 5, 2) := by decide +kernel
theorem dX3_object_111 : decode cX3_object 111 = .ok (.getfield 149, 3) := by decide +kernel
theorem dX3_object_114 : decode cX3_object 114 = .ok (.iload_n 3, 1) := by decide +kernel
theorem dX3_object_115 : decode cX3_object 115 = .ok (.iaload, 1) := by decide +kernel
theorem dX3_object_116 : decode cX3_object 116 = .ok (.goto 5, 3) := by decide +kernel
theorem dX3_object_119 : decode cX3_object 119 = .ok (.bipush (-9), 2) := by decide +kernel
theorem dX3_object_121 : decode cX3_object 121 = .ok (.ireturn, 1) := by decide +kernel
theorem dX3_object_122 : decode cX3_object 122 = .ok (.aload_n 0, 1) := by decide +kernel
theorem dX3_object_123 : decode cX3_object 123 = .ok (.aload 5, 2) := by decide +kernel
theorem dX3_object_125 : decode cX3_object 125 = .ok (.iload_n 3, 1) := by decide +kernel
theorem dX3_object_126 : decode cX3_object 126 = .ok (.iload 6, 2) := by decide +kernel
theorem dX3_object_128 : decode cX3_object 128 = .ok (.invokevirtual 152, 3) := by decide +kernel
theorem dX3_object_131 : decode cX3_object 131 = .ok (.ireturn, 1) := by decide +kernel
theorem dX3_object_132 : decode cX3_object 132 = .ok (.bipush (-2), 2) := by decide +kernel
theorem dX3_object_134 : decode cX3_object 134 = .ok (.ireturn, 1) := by decide +kernel
theorem dX3_begin_0 : decode cX3_begin 0 = .ok (.iload_n 1, 1) := by decide +kernel
theorem dX3_begin_1 : decode cX3_begin 1 = .ok (.invokestatic 36, 3) := by decide +kernel
theorem dX3_begin_4 : decode cX3_begin 4 = .ok (.ifCond .ne 5, 3) := by decide +kernel
theorem dX3_begin_7 : decode cX3_begin 7 = .ok (.iconst (-1), 1) := by decide +kernel
theorem dX3_begin_8 : decode cX3_begin 8 = .ok (.ireturn, 1) := by decide +kernel
theorem dX3_begin_9 : decode cX3_begin 9 = .ok (.aload_n 0, 1) := by decide +kernel
theorem dX3_begin_10 : decode cX3_begin 10 = .ok (.iload_n 1, 1) := by decide +kernel
theorem dX3_begin_11 : decode cX3_begin 11 = .ok (.invokevirtual 65, 3) := by decide +kernel
theorem dX3_begin_14 : decode cX3_begin 14 = .ok (.ifCond .eq 11, 3) := by decide +kernel
theorem dX3_begin_17 : decode cX3_begin 17 = .ok (.aload_n 0, 1) := by decide +kernel
theorem dX3_begin_18 : decode cX3_begin 18 = .ok (.iload_n 1, 1) := by decide +kernel
theorem dX3_begin_19 : decode cX3_begin 19 = .ok (.invokevirtual 43, 3) := by decide +kernel
theorem dX3_begin_22 : decode cX3_begin 22 = .ok (.ifCond .ne 6, 3) := by decide +kernel
theorem dX3_begin_25 : decode cX3_begin 25 = .ok (.bipush (-3), 2) := by decide +kernel
theorem dX3_begin_27 : decode cX3_begin 27 = .ok (.ireturn, 1) := by decide +kernel
theorem dX3_begin_28 : decode cX3_begin 28 = .ok (.aload_n 0, 1) := by decide +kernel
theorem dX3_begin_29 : decode cX3_begin 29 = .ok (.getfield 16, 3) := by decide +kernel
theorem dX3_begin_32 : decode cX3_begin 32 = .ok (.invokevirtual 46, 3) := by decide +kernel
theorem dX3_begin_35 : decode cX3_begin 35 = .ok (.bipush 60, 2) := by decide +kernel
theorem dX3_begin_37 : decode cX3_begin 37 = .ok (.if_icmp .lt 6, 3) := by decide +kernel
theorem dX3_begin_40 : decode cX3_begin 40 = .ok (.bipush (-4), 2) := by decide +kernel
theorem dX3_begin_42 : decode cX3_begin 42 = .ok (.ireturn, 1) := by decide +kernel
theorem dX3_begin_43 : decode cX3_begin 43 = .ok (.new 81, 3) := by decide +kernel
theorem dX3_begin_46 : decode cX3_begin 46 = .ok (.dup, 1) := by decide +kernel
theorem dX3_begin_47 : decode cX3_begin 47 = .ok (.aload_n 0, 1) := by decide +kernel
theorem dX3_begin_48 : decode cX3_begin 48 = .ok (.getfield 16, 3) := by decide +kernel
theorem dX3_begin_51 : decode cX3_begin 51 = .ok (.invokevirtual 46, 3) := by decide +kernel
theorem dX3_begin_54 : decode cX3_begin 54 = .ok (.iload_n 1, 1) := by decide +kernel
theorem dX3_begin_55 : decode cX3_begin 55 = .ok (.invokespecial 156, 3) := by decide +kernel
theorem dX3_begin_58 : decode cX3_begin 58 = .ok (.astore_n 2, 1) := by decide +kernel
theorem dX3_begin_59 : decode cX3_begin 59 = .ok (.aload_n 0, 1) := by decide +kernel
theorem dX3_begin_60 : decode cX3_begin 60 = .ok (.getfield 16, 3) := by decide +kernel
theorem dX3_begin_63 : decode cX3_begin 63 = .ok (.aload_n 2, 1) := by decide +kernel
theorem dX3_begin_64 : decode cX3_begin 64 = .ok (.invokevirtual 58, 3) := by decide +kernel
theorem dX3_begin_67 : decode cX3_begin 67 = .ok (.pop, 1) := by decide +kernel
theorem dX3_begin_68 : decode cX3_begin 68 = .ok (.aload_n 2, 1) := by decide +kernel
theorem dX3_begin_69 : decode cX3_begin 69 = .ok (.getfield 159, 3) := by decide +kernel
theorem dX3_begin_72 : decode cX3_begin 72 = .ok (.ireturn, 1) := by decide +kernel
theorem dX3_read_0 : decode cX3_read 0 = .ok (.aload_n 0, 1) := by decide +kernel
theorem dX3_read_1 : decode cX3_read 1 = .ok (.iload_n 1, 1) := by decide +kernel
theorem dX3_read_2 : decode cX3_read 2 = .ok (.invokevirtual 160, 3) := by decide +kernel
theorem dX3_read_5 : decode cX3_read 5 = .ok (.astore 4, 2) := by decide +kernel
theorem dX3_read_7 : decode cX3_read 7 = .ok (.aload_n 0, 1) := by decide +kernel
theorem dX3_read_8 : decode cX3_read 8 = .ok (.iload_n 2, 1) := by decide +kernel
theorem dX3_read_9 : decode cX3_read 9 = .ok (.invokevirtual 100, 3) := by decide +kernel
theorem dX3_read_12 : decode cX3_read 12 = .ok (.astore 5, 2) := by decide +kernel
theorem dX3_read_14 : decode cX3_read 14 = .ok (.aload 4, 2) := by decide +kernel
theorem dX3_read_16 : decode cX3_read 16 = .ok (.ifnull 15, 3) := by decide +kernel
theorem dX3_read_19 : decode cX3_read 19 = .ok (.aload 5, 2) := by decide +kernel
theorem dX3_read_21 : decode cX3_read 21 = .ok (.ifnull 10, 3) := by decide +kernel
theorem dX3_read_24 : decode cX3_read 24 = .ok (.iload_n 3, 1) := by decide +kernel
theorem dX3_read_25 : decode cX3_read 25 = .ok (.invokestatic 146, 3) := by decide +kernel
theorem dX3_read_28 : decode cX3_read 28 = .ok (.ifCond .ne 5, 3) := by decide +kernel
theorem dX3_read_31 : decode cX3_read 31 = .ok (.iconst (-1), 1) := by decide +kernel
theorem dX3_read_32 : decode cX3_read 32 = .ok (.ireturn, 1) := by decide +kernel
theorem dX3_read_33 : decode cX3_read 33 = .ok (.aload_n 0, 1) := by decide +kernel
theorem dX3_read_34 : decode cX3_read 34 = .ok (.aload 4, 2) := by decide +kernel
theorem dX3_read_36 : decode cX3_read 36 = .ok (.aload 5, 2) := by decide +kernel
theorem dX3_read_38 : decode cX3_read 38 = .ok (.iload_n 3, 1) := by decide +kernel
theorem dX3_read_39 : decode cX3_read 39 = .ok (.invokevirtual 164, 3) := by decide +kernel
theorem dX3_read_42 : decode cX3_read 42 = .ok (.istore 6, 2) := by decide +kernel
theorem dX3_read_44 : decode cX3_read 44 = .ok (.iload 6, 2) := by decide +kernel
theorem dX3_read_46 : decode cX3_read 46 = .ok (.ifCond .eq 6, 3) := by decide +kernel
theorem dX3_read_49 : decode cX3_read 49 = .ok (.iload 6, 2) := by decide +kernel
theorem dX3_read_51 : decode cX3_read 51 = .ok (.ireturn, 1) := by decide +kernel
theorem dX3_read_52 : decode cX3_read 52 = .ok (.aload_n 0, 1) := by decide +kernel
theorem dX3_read_53 : decode cX3_read 53 = .ok (.aload 4, 2) := by decide +kernel
theorem dX3_read_55 : decode cX3_read 55 = .ok (.aload 5, 2) := by decide +kernel
theorem dX3_read_57 : decode cX3_read 57 = .ok (.iload_n 3, 1) := by decide +kernel
theorem dX3_read_58 : decode cX3_read 58 = .ok (.invokevirtual 168, 3) := by decide +kernel
theorem dX3_read_61 : decode cX3_read 61 = .ok (.astore 7, 2) := by decide +kernel
theorem dX3_read_63 : decode cX3_read 63 = .ok (.aload 7, 2) := by decide +kernel
theorem dX3_read_65 : decode cX3_read 65 = .ok (.getfield 172, 3) := by decide +kernel
theorem dX3_read_68 : decode cX3_read 68 = .ok (.ifCond .eq 11, 3) := by decide +kernel
theorem dX3_read_71 : decode cX3_read 71 = .ok (.aload 7, 2) := by decide +kernel
theorem dX3_read_73 : decode cX3_read 73 = .ok (.getfield 178, 3) := by decide +kernel
theorem dX3_read_76 : decode cX3_read 76 = .ok (.goto 8, 3) := by decide +kernel
theorem dX3_read_79 : decode cX3_read 79 = .ok (.aload 7, 2) := by decide +kernel
theorem dX3_read_81 : decode cX3_read 81 = .ok (.getfield 181, 3) := by decide +kernel
theorem dX3_read_84 : decode cX3_read 84 = .ok (.ireturn, 1) := by decide +kernel
theorem dX3_write_0 : decode cX3_write 0 = .ok (.aload_n 0, 1) := by decide +kernel
theorem dX3_write_1 : decode cX3_write 1 = .ok (.iload_n 1, 1) := by decide +kernel
theorem dX3_write_2 : decode cX3_write 2 = .ok (.invokevirtual 160, 3) := by decide +kernel
theorem dX3_write_5 : decode cX3_write 5 = .ok (.astore 5, 2) := by decide +kernel
theorem dX3_write_7 : decode cX3_write 7 = .ok (.aload_n 0, 1) := by decide +kernel
theorem dX3_write_8 : decode cX3_write 8 = .ok (.iload_n 2, 1) := by decide +kernel
theorem dX3_write_9 : decode cX3_write 9 = .ok (.invokevirtual 100, 3) := by decide +kernel
theorem dX3_write_12 : decode cX3_write 12 = .ok (.astore 6, 2) := by decide +kernel
theorem dX3_write_14 : decode cX3_write 14 = .ok (.aload 5, 2) := by decide +kernel
theorem dX3_write_16 : decode cX3_write 16 = .ok (.ifnull 15, 3) := by decide +kernel
theorem dX3_write_19 : decode cX3_write 19 = .ok (.aload 6, 2) := by decide +kernel
theorem dX3_write_21 : decode cX3_write 21 = .ok (.ifnull 10, 3) := by decide +kernel
theorem dX3_write_24 : decode cX3_write 24 = .ok (.iload_n 3, 1) := by decide +kernel
theorem dX3_write_25 : decode cX3_write 25 = .ok (.invokestatic 146, 3) := by decide +kernel
theorem dX3_write_28 : decode cX3_write 28 = .ok (.ifCond .ne 5, 3) := by decide +kernel
theorem dX3_write_31 : decode cX3_write 31 = .ok (.iconst (-1), 1) := by decide +kernel
theorem dX3_write_32 : decode cX3_write 32 = .ok (.ireturn, 1) := by decide +kernel
theorem dX3_write_33 : decode cX3_write 33 = .ok (.iload 4, 2) := by decide +kernel
theorem dX3_write_35 : decode cX3_write 35 = .ok (.invokestatic 184, 3) := by decide +kernel
theorem dX3_write_38 : decode cX3_write 38 = .ok (.ifCond .ne 6, 3) := by decide +kernel
theorem dX3_write_41 : decode cX3_write 41 = .ok (.bipush (-2), 2) := by decide +kernel
theorem dX3_write_43 : decode cX3_write 43 = .ok (.ireturn, 1) := by decide +kernel
theorem dX3_write_44 : decode cX3_write 44 = .ok (.aload_n 0, 1) := by decide +kernel
theorem dX3_write_45 : decode cX3_write 45 = .ok (.aload 5, 2) := by decide +kernel
theorem dX3_write_47 : decode cX3_write 47 = .ok (.aload 6, 2) := by decide +kernel
theorem dX3_write_49 : decode cX3_write 49 = .ok (.iload_n 3, 1) := by decide +kernel
theorem dX3_write_50 : decode cX3_write 50 = .ok (.invokevirtual 164, 3) := by decide +kernel
theorem dX3_write_53 : decode cX3_write 53 = .ok (.istore 7, 2) := by decide +kernel
theorem dX3_write_55 : decode cX3_write 55 = .ok (.iload 7, 2) := by decide +kernel
theorem dX3_write_57 : decode cX3_write 57 = .ok (.ifCond .eq 6, 3) := by decide +kernel
theorem dX3_write_60 : decode cX3_write 60 = .ok (.iload 7, 2) := by decide +kernel
theorem dX3_write_62 : decode cX3_write 62 = .ok (.ireturn, 1) := by decide +kernel
theorem dX3_write_63 : decode cX3_write 63 = .ok (.aload_n 0, 1) := by decide +kernel
theorem dX3_write_64 : decode cX3_write 64 = .ok (.aload 5, 2) := by decide +kernel
theorem dX3_write_66 : decode cX3_write 66 = .ok (.aload 6, 2) := by decide +kernel
theorem dX3_write_68 : decode cX3_write 68 = .ok (.iload_n 3, 1) := by decide +kernel
theorem dX3_write_69 : decode cX3_write 69 = .ok (.invokevirtual 168, 3) := by decide +kernel
theorem dX3_write_72 : decode cX3_write 72 = .ok (.astore 8, 2) := by decide +kernel
theorem dX3_write_74 : decode cX3_write 74 = .ok (.aload 8, 2) := by decide +kernel
theorem dX3_write_76 : decode cX3_write 76 = .ok (.iconst 1, 1) := by decide +kernel
theorem dX3_write_77 : decode cX3_write 77 = .ok (.putfield 172, 3) := by decide +kernel
theorem dX3_write_80 : decode cX3_write 80 = .ok (.aload 8, 2) := by decide +kernel
theorem dX3_write_82 : decode cX3_write 82 = .ok (.iload 4, 2) := by decide +kernel
theorem dX3_write_84 : decode cX3_write 84 = .ok (.putfield 178, 3) := by decide +kernel
theorem dX3_write_87 : decode cX3_write 87 = .ok (.aload 5, 2) := by decide +kernel
theorem dX3_write_89 : decode cX3_write 89 = .ok (.invokevirtual 187, 3) := by decide +kernel
theorem dX3_write_92 : decode cX3_write 92 = .ok (.ireturn, 1) := by decide +kernel
theorem dX3_commit_0 : decode cX3_commit 0 = .ok (.aload_n 0, 1) := by decide +kernel
theorem dX3_commit_1 : decode cX3_commit 1 = .ok (.iload_n 1, 1) := by decide +kernel
theorem dX3_commit_2 : decode cX3_commit 2 = .ok (.invokevirtual 160, 3) := by decide +kernel
theorem dX3_commit_5 : decode cX3_commit 5 = .ok (.astore_n 2, 1) := by decide +kernel
theorem dX3_commit_6 : decode cX3_commit 6 = .ok (.aload_n 2, 1) := by decide +kernel
theorem dX3_commit_7 : decode cX3_commit 7 = .ok (.ifnonnull 5, 3) := by decide +kernel
theorem dX3_commit_10 : decode cX3_commit 10 = .ok (.iconst (-1), 1) := by decide +kernel
theorem dX3_commit_11 : decode cX3_commit 11 = .ok (.ireturn, 1) := by decide +kernel
theorem dX3_commit_12 : decode cX3_commit 12 = .ok (.aload_n 0, 1) := by decide +kernel
theorem dX3_commit_13 : decode cX3_commit 13 = .ok (.aload_n 2, 1) := by decide +kernel
theorem dX3_commit_14 : decode cX3_commit 14 = .ok (.invokevirtual 190, 3) := by decide +kernel
theorem dX3_commit_17 : decode cX3_commit 17 = .ok (.istore_n 3, 1) := by decide +kernel
theorem dX3_commit_18 : decode cX3_commit 18 = .ok (.iload_n 3, 1) := by decide +kernel
theorem dX3_commit_19 : decode cX3_commit 19 = .ok (.ifCond .eq 5, 3) := by decide +kernel
theorem dX3_commit_22 : decode cX3_commit 22 = .ok (.iload_n 3, 1) := by decide +kernel
theorem dX3_commit_23 : decode cX3_commit 23 = .ok (.ireturn, 1) := by decide +kernel
theorem dX3_commit_24 : decode cX3_commit 24 = .ok (.aload_n 2, 1) := by decide +kernel
theorem dX3_commit_25 : decode cX3_commit 25 = .ok (.iconst 1, 1) := by decide +kernel
theorem dX3_commit_26 : decode cX3_commit 26 = .ok (.invokevirtual 89, 3) := by decide +kernel
theorem dX3_commit_29 : decode cX3_commit 29 = .ok (.aload_n 0, 1) := by decide +kernel
theorem dX3_commit_30 : decode cX3_commit 30 = .ok (.aload_n 2, 1) := by decide +kernel
theorem dX3_commit_31 : decode cX3_commit 31 = .ok (.invokevirtual 194, 3) := by decide +kernel
theorem dX3_commit_34 : decode cX3_commit 34 = .ok (.aload_n 2, 1) := by decide +kernel
theorem dX3_commit_35 : decode cX3_commit 35 = .ok (.getfield 83, 3) := by decide +kernel
theorem dX3_commit_38 : decode cX3_commit 38 = .ok (.ireturn, 1) := by decide +kernel
theorem dX3_drop_0 : decode cX3_drop 0 = .ok (.aload_n 0, 1) := by decide +kernel
theorem dX3_drop_1 : decode cX3_drop 1 = .ok (.iload_n 1, 1) := by decide +kernel
theorem dX3_drop_2 : decode cX3_drop 2 = .ok (.invokevirtual 160, 3) := by decide +kernel
theorem dX3_drop_5 : decode cX3_drop 5 = .ok (.astore_n 2, 1) := by decide +kernel
theorem dX3_drop_6 : decode cX3_drop 6 = .ok (.aload_n 2, 1) := by decide +kernel
theorem dX3_drop_7 : decode cX3_drop 7 = .ok (.ifnonnull 5, 3) := by decide +kernel
theorem dX3_drop_10 : decode cX3_drop 10 = .ok (.iconst (-1), 1) := by decide +kernel
theorem dX3_drop_11 : decode cX3_drop 11 = .ok (.ireturn, 1) := by decide +kernel
theorem dX3_drop_12 : decode cX3_drop 12 = .ok (.aload_n 0, 1) := by decide +kernel
theorem dX3_drop_13 : decode cX3_drop 13 = .ok (.aload_n 2, 1) := by decide +kernel
theorem dX3_drop_14 : decode cX3_drop 14 = .ok (.invokevirtual 190, 3) := by decide +kernel
theorem dX3_drop_17 : decode cX3_drop 17 = .ok (.istore_n 3, 1) := by decide +kernel
theorem dX3_drop_18 : decode cX3_drop 18 = .ok (.iload_n 3, 1) := by decide +kernel
theorem dX3_drop_19 : decode cX3_drop 19 = .ok (.ifCond .eq 5, 3) := by decide +kernel
theorem dX3_drop_22 : decode cX3_drop 22 = .ok (.iload_n 3, 1) := by decide +kernel
theorem dX3_drop_23 : decode cX3_drop 23 = .ok (.ireturn, 1) := by decide +kernel
theorem dX3_drop_24 : decode cX3_drop 24 = .ok (.aload_n 2, 1) := by decide +kernel
theorem dX3_drop_25 : decode cX3_drop 25 = .ok (.bipush 8, 2) := by decide +kernel
theorem dX3_drop_27 : decode cX3_drop 27 = .ok (.invokevirtual 89, 3) := by decide +kernel
theorem dX3_drop_30 : decode cX3_drop 30 = .ok (.aload_n 2, 1) := by decide +kernel
theorem dX3_drop_31 : decode cX3_drop 31 = .ok (.getfield 83, 3) := by decide +kernel
theorem dX3_drop_34 : decode cX3_drop 34 = .ok (.ireturn, 1) := by decide +kernel
theorem dX3_step_0 : decode cX3_step 0 = .ok (.aload_n 0, 1) := by decide +kernel
theorem dX3_step_1 : decode cX3_step 1 = .ok (.iload_n 1, 1) := by decide +kernel
theorem dX3_step_2 : decode cX3_step 2 = .ok (.invokevirtual 160, 3) := by decide +kernel
theorem dX3_step_5 : decode cX3_step 5 = .ok (.astore_n 2, 1) := by decide +kernel
theorem dX3_step_6 : decode cX3_step 6 = .ok (.aload_n 2, 1) := by decide +kernel
theorem dX3_step_7 : decode cX3_step 7 = .ok (.ifnonnull 7, 3) := by decide +kernel
theorem dX3_step_10 : decode cX3_step 10 = .ok (.iconst (-1), 1) := by decide +kernel
theorem dX3_step_11 : decode cX3_step 11 = .ok (.goto 8, 3) := by decide +kernel
theorem dX3_step_14 : decode cX3_step 14 = .ok (.aload_n 0, 1) := by decide +kernel
theorem dX3_step_15 : decode cX3_step 15 = .ok (.aload_n 2, 1) := by decide +kernel
theorem dX3_step_16 : decode cX3_step 16 = .ok (.invokevirtual 198, 3) := by decide +kernel
theorem dX3_step_19 : decode cX3_step 19 = .ok (.ireturn, 1) := by decide +kernel
theorem dX3_run_0 : decode cX3_run 0 = .ok (.aload_n 0, 1) := by decide +kernel
theorem dX3_run_1 : decode cX3_run 1 = .ok (.iload_n 1, 1) := by decide +kernel
theorem dX3_run_2 : decode cX3_run 2 = .ok (.invokevirtual 160, 3) := by decide +kernel
theorem dX3_run_5 : decode cX3_run 5 = .ok (.astore_n 3, 1) := by decide +kernel
theorem dX3_run_6 : decode cX3_run 6 = .ok (.aload_n 3, 1) := by decide +kernel
theorem dX3_run_7 : decode cX3_run 7 = .ok (.ifnonnull 5, 3) := by decide +kernel
theorem dX3_run_10 : decode cX3_run 10 = .ok (.iconst (-1), 1) := by decide +kernel
theorem dX3_run_11 : decode cX3_run 11 = .ok (.ireturn, 1) := by decide +kernel
theorem dX3_run_12 : decode cX3_run 12 = .ok (.iload_n 2, 1) := by decide +kernel
theorem dX3_run_13 : decode cX3_run 13 = .ok (.iconst 1, 1) := by decide +kernel
theorem dX3_run_14 : decode cX3_run 14 = .ok (.if_icmp .lt 9, 3) := by decide +kernel
theorem dX3_run_17 : decode cX3_run 17 = .ok (.iload_n 2, 1) := by decide +kernel
theorem dX3_run_18 : decode cX3_run 18 = .ok (.bipush 100, 2) := by decide +kernel
theorem dX3_run_20 : decode cX3_run 20 = .ok (.if_icmp .le 6, 3) := by decide +kernel
theorem dX3_run_23 : decode cX3_run 23 = .ok (.bipush (-2), 2) := by decide +kernel
theorem dX3_run_25 : decode cX3_run 25 = .ok (.ireturn, 1) := by decide +kernel
theorem dX3_run_26 : decode cX3_run 26 = .ok (.aload_n 3, 1) := by decide +kernel
theorem dX3_run_27 : decode cX3_run 27 = .ok (.invokevirtual 201, 3) := by decide +kernel
theorem dX3_run_30 : decode cX3_run 30 = .ok (.ifCond .ne 6, 3) := by decide +kernel
theorem dX3_run_33 : decode cX3_run 33 = .ok (.bipush (-3), 2) := by decide +kernel
theorem dX3_run_35 : decode cX3_run 35 = .ok (.ireturn, 1) := by decide +kernel
theorem dX3_run_36 : decode cX3_run 36 = .ok (.iconst 0, 1) := by decide +kernel
theorem dX3_run_37 : decode cX3_run 37 = .ok (.istore 4, 2) := by decide +kernel
theorem dX3_run_39 : decode cX3_run 39 = .ok (.iload 4, 2) := by decide +kernel
theorem dX3_run_41 : decode cX3_run 41 = .ok (.iload_n 2, 1) := by decide +kernel
theorem dX3_run_42 : decode cX3_run 42 = .ok (.if_icmp .ge 17, 3) := by decide +kernel
theorem dX3_run_45 : decode cX3_run 45 = .ok (.aload_n 0, 1) := by decide +kernel
theorem dX3_run_46 : decode cX3_run 46 = .ok (.aload_n 3, 1) := by decide +kernel
theorem dX3_run_47 : decode cX3_run 47 = .ok (.invokevirtual 198, 3) := by decide +kernel
theorem dX3_run_50 : decode cX3_run 50 = .ok (.ifCond .lt 9, 3) := by decide +kernel
theorem dX3_run_53 : decode cX3_run 53 = .ok (.iinc 4 1, 3) := by decide +kernel
theorem dX3_run_56 : decode cX3_run 56 = .ok (.goto (-17), 3) := by decide +kernel
theorem dX3_run_59 : decode cX3_run 59 = .ok (.iload 4, 2) := by decide +kernel
theorem dX3_run_61 : decode cX3_run 61 = .ok (.ireturn, 1) := by decide +kernel
theorem dX3_about_0 : decode cX3_about 0 = .ok (.aload_n 0, 1) := by decide +kernel
theorem dX3_about_1 : decode cX3_about 1 = .ok (.iload_n 1, 1) := by decide +kernel
theorem dX3_about_2 : decode cX3_about 2 = .ok (.invokevirtual 160, 3) := by decide +kernel
theorem dX3_about_5 : decode cX3_about 5 = .ok (.astore_n 3, 1) := by decide +kernel
theorem dX3_about_6 : decode cX3_about 6 = .ok (.aload_n 3, 1) := by decide +kernel
theorem dX3_about_7 : decode cX3_about 7 = .ok (.ifnonnull 5, 3) := by decide +kernel
theorem dX3_about_10 : decode cX3_about 10 = .ok (.iconst (-1), 1) := by decide +kernel
theorem dX3_about_11 : decode cX3_about 11 = .ok (.ireturn, 1) := by decide +kernel
theorem dX3_about_12 : decode cX3_about 12 = .ok (.iload_n 2, 1) := by decide +kernel
theorem dX3_about_13 : decode cX3_about 13 = .ok (.tableswitch 80 0 5 #[39, 44, 49, 57, 62, 75], 39) := by decide +kernel
theorem dX3_about_52 : decode cX3_about 52 = .ok (.aload_n 3, 1) := by decide +kernel
theorem dX3_about_53 : decode cX3_about 53 = .ok (.getfield 83, 3) := by decide +kernel
theorem dX3_about_56 : decode cX3_about 56 = .ok (.ireturn, 1) := by decide +kernel
theorem dX3_about_57 : decode cX3_about 57 = .ok (.aload_n 3, 1) := by decide +kernel
theorem dX3_about_58 : decode cX3_about 58 = .ok (.getfield 86, 3) := by decide +kernel
theorem dX3_about_61 : decode cX3_about 61 = .ok (.ireturn, 1) := by decide +kernel
theorem dX3_about_62 : decode cX3_about 62 = .ok (.aload_n 3, 1) := by decide +kernel
theorem dX3_about_63 : decode cX3_about 63 = .ok (.getfield 205, 3) := by decide +kernel
theorem dX3_about_66 : decode cX3_about 66 = .ok (.invokevirtual 46, 3) := by decide +kernel
theorem dX3_about_69 : decode cX3_about 69 = .ok (.ireturn, 1) := by decide +kernel
theorem dX3_about_70 : decode cX3_about 70 = .ok (.aload_n 3, 1) := by decide +kernel
theorem dX3_about_71 : decode cX3_about 71 = .ok (.invokevirtual 187, 3) := by decide +kernel
theorem dX3_about_74 : decode cX3_about 74 = .ok (.ireturn, 1) := by decide +kernel
theorem dX3_about_75 : decode cX3_about 75 = .ok (.aload_n 3, 1) := by decide +kernel
theorem dX3_about_76 : decode cX3_about 76 = .ok (.getfield 208, 3) := by decide +kernel
theorem dX3_about_79 : decode cX3_about 79 = .ok (.ifCond .eq 7, 3) := by decide +kernel
theorem dX3_about_82 : decode cX3_about 82 = .ok (.iconst 1, 1) := by decide +kernel
theorem dX3_about_83 : decode cX3_about 83 = .ok (.goto 4, 3) := by decide +kernel
theorem dX3_about_86 : decode cX3_about 86 = .ok (.iconst 0, 1) := by decide +kernel
theorem dX3_about_87 : decode cX3_about 87 = .ok (.ireturn, 1) := by decide +kernel
theorem dX3_about_88 : decode cX3_about 88 = .ok (.aload_n 3, 1) := by decide +kernel
theorem dX3_about_89 : decode cX3_about 89 = .ok (.getfield 211, 3) := by decide +kernel
theorem dX3_about_92 : decode cX3_about 92 = .ok (.ireturn, 1) := by decide +kernel
theorem dX3_about_93 : decode cX3_about 93 = .ok (.bipush (-2), 2) := by decide +kernel
theorem dX3_about_95 : decode cX3_about 95 = .ok (.ireturn, 1) := by decide +kernel
theorem dX3_item_0 : decode cX3_item 0 = .ok (.aload_n 0, 1) := by decide +kernel
theorem dX3_item_1 : decode cX3_item 1 = .ok (.iload_n 1, 1) := by decide +kernel
theorem dX3_item_2 : decode cX3_item 2 = .ok (.invokevirtual 160, 3) := by decide +kernel
theorem dX3_item_5 : decode cX3_item 5 = .ok (.astore 4, 2) := by decide +kernel
theorem dX3_item_7 : decode cX3_item 7 = .ok (.aload 4, 2) := by decide +kernel
theorem dX3_item_9 : decode cX3_item 9 = .ok (.ifnonnull 5, 3) := by decide +kernel
theorem dX3_item_12 : decode cX3_item 12 = .ok (.iconst (-1), 1) := by decide +kernel
theorem dX3_item_13 : decode cX3_item 13 = .ok (.ireturn, 1) := by decide +kernel
theorem dX3_item_14 : decode cX3_item 14 = .ok (.aload 4, 2) := by decide +kernel
theorem dX3_item_16 : decode cX3_item 16 = .ok (.iload_n 2, 1) := by decide +kernel
theorem dX3_item_17 : decode cX3_item 17 = .ok (.invokevirtual 214, 3) := by decide +kernel
theorem dX3_item_20 : decode cX3_item 20 = .ok (.astore 5, 2) := by decide +kernel
theorem dX3_item_22 : decode cX3_item 22 = .ok (.aload 5, 2) := by decide +kernel
theorem dX3_item_24 : decode cX3_item 24 = .ok (.ifnonnull 5, 3) := by decide +kernel
theorem dX3_item_27 : decode cX3_item 27 = .ok (.iconst (-1), 1) := by decide +kernel
theorem dX3_item_28 : decode cX3_item 28 = .ok (.ireturn, 1) := by decide +kernel
theorem dX3_item_29 : decode cX3_item 29 = .ok (.iload_n 3, 1) := by decide +kernel
theorem dX3_item_30 : decode cX3_item 30 = .ok (.tableswitch 80 0 4 #[34, 43, 49, 55, 61], 34) := by decide +kernel
theorem dX3_item_64 : decode cX3_item 64 = .ok (.aload 5, 2) := by decide +kernel
theorem dX3_item_66 : decode cX3_item 66 = .ok (.getfield 218, 3) := by decide +kernel
theorem dX3_item_69 : decode cX3_item 69 = .ok (.getfield 62, 3) := by decide +kernel
theorem dX3_item_72 : decode cX3_item 72 = .ok (.ireturn, 1) := by decide +kernel
theorem dX3_item_73 : decode cX3_item 73 = .ok (.aload 5, 2) := by decide +kernel
theorem dX3_item_75 : decode cX3_item 75 = .ok (.getfield 222, 3) := by decide +kernel
theorem dX3_item_78 : decode cX3_item 78 = .ok (.ireturn, 1) := by decide +kernel
theorem dX3_item_79 : decode cX3_item 79 = .ok (.aload 5, 2) := by decide +kernel
theorem dX3_item_81 : decode cX3_item 81 = .ok (.getfield 181, 3) := by decide +kernel
theorem dX3_item_84 : decode cX3_item 84 = .ok (.ireturn, 1) := by decide +kernel
theorem dX3_item_85 : decode cX3_item 85 = .ok (.aload 5, 2) := by decide +kernel
theorem dX3_item_87 : decode cX3_item 87 = .ok (.getfield 223, 3) := by decide +kernel
theorem dX3_item_90 : decode cX3_item 90 = .ok (.ireturn, 1) := by decide +kernel
theorem dX3_item_91 : decode cX3_item 91 = .ok (.aload 5, 2) := by decide +kernel
theorem dX3_item_93 : decode cX3_item 93 = .ok (.getfield 172, 3) := by decide +kernel
theorem dX3_item_96 : decode cX3_item 96 = .ok (.ifCond .eq 11, 3) := by decide +kernel
theorem dX3_item_99 : decode cX3_item 99 = .ok (.aload 5, 2) := by decide +kernel
theorem dX3_item_101 : decode cX3_item 101 = .ok (.getfield 178, 3) := by decide +kernel
theorem dX3_item_104 : decode cX3_item 104 = .ok (.goto 5, 3) := by decide +kernel
theorem dX3_item_107 : decode cX3_item 107 = .ok (.bipush (-9), 2) := by decide +kernel
theorem dX3_item_109 : decode cX3_item 109 = .ok (.ireturn, 1) := by decide +kernel
theorem dX3_item_110 : decode cX3_item 110 = .ok (.bipush (-2), 2) := by decide +kernel
theorem dX3_item_112 : decode cX3_item 112 = .ok (.ireturn, 1) := by decide +kernel
theorem dX3_check_0 : decode cX3_check 0 = .ok (.iconst 0, 1) := by decide +kernel
theorem dX3_check_1 : decode cX3_check 1 = .ok (.istore_n 1, 1) := by decide +kernel
theorem dX3_check_2 : decode cX3_check 2 = .ok (.iload_n 1, 1) := by decide +kernel
theorem dX3_check_3 : decode cX3_check 3 = .ok (.aload_n 0, 1) := by decide +kernel
theorem dX3_check_4 : decode cX3_check 4 = .ok (.getfield 22, 3) := by decide +kernel
theorem dX3_check_7 : decode cX3_check 7 = .ok (.arraylength, 1) := by decide +kernel
theorem dX3_check_8 : decode cX3_check 8 = .ok (.if_icmp .ge 16, 3) := by decide +kernel
theorem dX3_check_11 : decode cX3_check 11 = .ok (.aload_n 0, 1) := by decide +kernel
theorem dX3_check_12 : decode cX3_check 12 = .ok (.getfield 22, 3) := by decide +kernel
theorem dX3_check_15 : decode cX3_check 15 = .ok (.iload_n 1, 1) := by decide +kernel
theorem dX3_check_16 : decode cX3_check 16 = .ok (.iconst 0, 1) := by decide +kernel
theorem dX3_check_17 : decode cX3_check 17 = .ok (.iastore, 1) := by decide +kernel
theorem dX3_check_18 : decode cX3_check 18 = .ok (.iinc 1 1, 3) := by decide +kernel
theorem dX3_check_21 : decode cX3_check 21 = .ok (.goto (-19), 3) := by decide +kernel
theorem dX3_check_24 : decode cX3_check 24 = .ok (.iconst 0, 1) := by decide +kernel
theorem dX3_check_25 : decode cX3_check 25 = .ok (.istore_n 1, 1) := by decide +kernel
theorem dX3_check_26 : decode cX3_check 26 = .ok (.iload_n 1, 1) := by decide +kernel
theorem dX3_check_27 : decode cX3_check 27 = .ok (.aload_n 0, 1) := by decide +kernel
theorem dX3_check_28 : decode cX3_check 28 = .ok (.getfield 19, 3) := by decide +kernel
theorem dX3_check_31 : decode cX3_check 31 = .ok (.invokevirtual 46, 3) := by decide +kernel
theorem dX3_check_34 : decode cX3_check 34 = .ok (.if_icmp .ge 48, 3) := by decide +kernel
theorem dX3_check_37 : decode cX3_check 37 = .ok (.aload_n 0, 1) := by decide +kernel
theorem dX3_check_38 : decode cX3_check 38 = .ok (.getfield 19, 3) := by decide +kernel
theorem dX3_check_41 : decode cX3_check 41 = .ok (.iload_n 1, 1) := by decide +kernel
theorem dX3_check_42 : decode cX3_check 42 = .ok (.invokevirtual 77, 3) := by decide +kernel
theorem dX3_check_45 : decode cX3_check 45 = .ok (.checkcast 81, 3) := by decide +kernel
theorem dX3_check_48 : decode cX3_check 48 = .ok (.astore_n 2, 1) := by decide +kernel
theorem dX3_check_49 : decode cX3_check 49 = .ok (.aload_n 2, 1) := by decide +kernel
theorem dX3_check_50 : decode cX3_check 50 = .ok (.getfield 83, 3) := by decide +kernel
theorem dX3_check_53 : decode cX3_check 53 = .ok (.bipush 7, 2) := by decide +kernel
theorem dX3_check_55 : decode cX3_check 55 = .ok (.if_icmp .ne 21, 3) := by decide +kernel
theorem dX3_check_58 : decode cX3_check 58 = .ok (.aload_n 0, 1) := by decide +kernel
theorem dX3_check_59 : decode cX3_check 59 = .ok (.aload_n 2, 1) := by decide +kernel
theorem dX3_check_60 : decode cX3_check 60 = .ok (.invokevirtual 226, 3) := by decide +kernel
theorem dX3_check_63 : decode cX3_check 63 = .ok (.ifCond .ne 8, 3) := by decide +kernel
theorem dX3_check_66 : decode cX3_check 66 = .ok (.aload_n 2, 1) := by decide +kernel
theorem dX3_check_67 : decode cX3_check 67 = .ok (.getfield 159, 3) := by decide +kernel
theorem dX3_check_70 : decode cX3_check 70 = .ok (.ireturn, 1) := by decide +kernel
theorem dX3_check_71 : decode cX3_check 71 = .ok (.aload_n 0, 1) := by decide +kernel
theorem dX3_check_72 : decode cX3_check 72 = .ok (.aload_n 2, 1) := by decide +kernel
theorem dX3_check_73 : decode cX3_check 73 = .ok (.invokevirtual 230, 3) := by decide +kernel
theorem dX3_check_76 : decode cX3_check 76 = .ok (.iinc 1 1, 3) := by decide +kernel
theorem dX3_check_79 : decode cX3_check 79 = .ok (.goto (-53), 3) := by decide +kernel
theorem dX3_check_82 : decode cX3_check 82 = .ok (.bipush (-9), 2) := by decide +kernel
theorem dX3_check_84 : decode cX3_check 84 = .ok (.ireturn, 1) := by decide +kernel
theorem dX3_unlike_0 : decode cX3_unlike 0 = .ok (.iconst 0, 1) := by decide +kernel
theorem dX3_unlike_1 : decode cX3_unlike 1 = .ok (.istore_n 1, 1) := by decide +kernel
theorem dX3_unlike_2 : decode cX3_unlike 2 = .ok (.iload_n 1, 1) := by decide +kernel
theorem dX3_unlike_3 : decode cX3_unlike 3 = .ok (.aload_n 0, 1) := by decide +kernel
theorem dX3_unlike_4 : decode cX3_unlike 4 = .ok (.getfield 10, 3) := by decide +kernel
theorem dX3_unlike_7 : decode cX3_unlike 7 = .ok (.invokevirtual 46, 3) := by decide +kernel
theorem dX3_unlike_10 : decode cX3_unlike 10 = .ok (.if_icmp .ge 29, 3) := by decide +kernel
theorem dX3_unlike_13 : decode cX3_unlike 13 = .ok (.aload_n 0, 1) := by decide +kernel
theorem dX3_unlike_14 : decode cX3_unlike 14 = .ok (.aload_n 0, 1) := by decide +kernel
theorem dX3_unlike_15 : decode cX3_unlike 15 = .ok (.getfield 10, 3) := by decide +kernel
theorem dX3_unlike_18 : decode cX3_unlike 18 = .ok (.iload_n 1, 1) := by decide +kernel
theorem dX3_unlike_19 : decode cX3_unlike 19 = .ok (.invokevirtual 77, 3) := by decide +kernel
theorem dX3_unlike_22 : decode cX3_unlike 22 = .ok (.checkcast 50, 3) := by decide +kernel
theorem dX3_unlike_25 : decode cX3_unlike 25 = .ok (.invokevirtual 233, 3) := by decide +kernel
theorem dX3_unlike_28 : decode cX3_unlike 28 = .ok (.ifCond .ne 5, 3) := by decide +kernel
theorem dX3_unlike_31 : decode cX3_unlike 31 = .ok (.iload_n 1, 1) := by decide +kernel
theorem dX3_unlike_32 : decode cX3_unlike 32 = .ok (.ireturn, 1) := by decide +kernel
theorem dX3_unlike_33 : decode cX3_unlike 33 = .ok (.iinc 1 1, 3) := by decide +kernel
theorem dX3_unlike_36 : decode cX3_unlike 36 = .ok (.goto (-34), 3) := by decide +kernel
theorem dX3_unlike_39 : decode cX3_unlike 39 = .ok (.bipush (-9), 2) := by decide +kernel
theorem dX3_unlike_41 : decode cX3_unlike 41 = .ok (.ireturn, 1) := by decide +kernel
theorem dX3_count_0 : decode cX3_count 0 = .ok (.iload_n 1, 1) := by decide +kernel
theorem dX3_count_1 : decode cX3_count 1 = .ok (.tableswitch 125 0 9 #[55, 63, 71, 76, 84, 92, 99, 106, 111, 120], 55) := by decide +kernel
theorem dX3_count_56 : decode cX3_count 56 = .ok (.aload_n 0, 1) := by decide +kernel
theorem dX3_count_57 : decode cX3_count 57 = .ok (.getfield 10, 3) := by decide +kernel
theorem dX3_count_60 : decode cX3_count 60 = .ok (.invokevirtual 46, 3) := by decide +kernel
theorem dX3_count_63 : decode cX3_count 63 = .ok (.ireturn, 1) := by decide +kernel
theorem dX3_count_64 : decode cX3_count 64 = .ok (.aload_n 0, 1) := by decide +kernel
theorem dX3_count_65 : decode cX3_count 65 = .ok (.getfield 16, 3) := by decide +kernel
theorem dX3_count_68 : decode cX3_count 68 = .ok (.invokevirtual 46, 3) := by decide +kernel
theorem dX3_count_71 : decode cX3_count 71 = .ok (.ireturn, 1) := by decide +kernel
theorem dX3_count_72 : decode cX3_count 72 = .ok (.aload_n 0, 1) := by decide +kernel
theorem dX3_count_73 : decode cX3_count 73 = .ok (.getfield 33, 3) := by decide +kernel
theorem dX3_count_76 : decode cX3_count 76 = .ok (.ireturn, 1) := by decide +kernel
theorem dX3_count_77 : decode cX3_count 77 = .ok (.aload_n 0, 1) := by decide +kernel
theorem dX3_count_78 : decode cX3_count 78 = .ok (.getfield 30, 3) := by decide +kernel
theorem dX3_count_81 : decode cX3_count 81 = .ok (.invokestatic 72, 3) := by decide +kernel
theorem dX3_count_84 : decode cX3_count 84 = .ok (.ireturn, 1) := by decide +kernel
theorem dX3_count_85 : decode cX3_count 85 = .ok (.aload_n 0, 1) := by decide +kernel
theorem dX3_count_86 : decode cX3_count 86 = .ok (.getfield 26, 3) := by decide +kernel
theorem dX3_count_89 : decode cX3_count 89 = .ok (.invokestatic 72, 3) := by decide +kernel
theorem dX3_count_92 : decode cX3_count 92 = .ok (.ireturn, 1) := by decide +kernel
theorem dX3_count_93 : decode cX3_count 93 = .ok (.aload_n 0, 1) := by decide +kernel
theorem dX3_count_94 : decode cX3_count 94 = .ok (.bipush 7, 2) := by decide +kernel
theorem dX3_count_96 : decode cX3_count 96 = .ok (.invokevirtual 236, 3) := by decide +kernel
theorem dX3_count_99 : decode cX3_count 99 = .ok (.ireturn, 1) := by decide +kernel
theorem dX3_count_100 : decode cX3_count 100 = .ok (.aload_n 0, 1) := by decide +kernel
theorem dX3_count_101 : decode cX3_count 101 = .ok (.bipush 8, 2) := by decide +kernel
theorem dX3_count_103 : decode cX3_count 103 = .ok (.invokevirtual 236, 3) := by decide +kernel
theorem dX3_count_106 : decode cX3_count 106 = .ok (.ireturn, 1) := by decide +kernel
theorem dX3_count_107 : decode cX3_count 107 = .ok (.aload_n 0, 1) := by decide +kernel
theorem dX3_count_108 : decode cX3_count 108 = .ok (.invokevirtual 239, 3) := by decide +kernel
theorem dX3_count_111 : decode cX3_count 111 = .ok (.ireturn, 1) := by decide +kernel
theorem dX3_count_112 : decode cX3_count 112 = .ok (.aload_n 0, 1) := by decide +kernel
theorem dX3_count_113 : decode cX3_count 113 = .ok (.aload_n 0, 1) := by decide +kernel
theorem dX3_count_114 : decode cX3_count 114 = .ok (.getfield 30, 3) := by decide +kernel
theorem dX3_count_117 : decode cX3_count 117 = .ok (.invokevirtual 139, 3) := by decide +kernel
theorem dX3_count_120 : decode cX3_count 120 = .ok (.ireturn, 1) := by decide +kernel
theorem dX3_count_121 : decode cX3_count 121 = .ok (.aload_n 0, 1) := by decide +kernel
theorem dX3_count_122 : decode cX3_count 122 = .ok (.invokevirtual 242, 3) := by decide +kernel
theorem dX3_count_125 : decode cX3_count 125 = .ok (.ireturn, 1) := by decide +kernel
theorem dX3_count_126 : decode cX3_count 126 = .ok (.bipush (-2), 2) := by decide +kernel
theorem dX3_count_128 : decode cX3_count 128 = .ok (.ireturn, 1) := by decide +kernel
theorem dX3_bit_0 : decode cX3_bit 0 = .ok (.iconst 1, 1) := by decide +kernel
theorem dX3_bit_1 : decode cX3_bit 1 = .ok (.iload_n 0, 1) := by decide +kernel
theorem dX3_bit_2 : decode cX3_bit 2 = .ok (.ishl, 1) := by decide +kernel
theorem dX3_bit_3 : decode cX3_bit 3 = .ok (.ireturn, 1) := by decide +kernel
theorem dX3_holds_0 : decode cX3_holds 0 = .ok (.iload_n 0, 1) := by decide +kernel
theorem dX3_holds_1 : decode cX3_holds 1 = .ok (.iconst 1, 1) := by decide +kernel
theorem dX3_holds_2 : decode cX3_holds 2 = .ok (.iload_n 1, 1) := by decide +kernel
theorem dX3_holds_3 : decode cX3_holds 3 = .ok (.ishl, 1) := by decide +kernel
theorem dX3_holds_4 : decode cX3_holds 4 = .ok (.iand, 1) := by decide +kernel
theorem dX3_holds_5 : decode cX3_holds 5 = .ok (.ifCond .eq 7, 3) := by decide +kernel
theorem dX3_holds_8 : decode cX3_holds 8 = .ok (.iconst 1, 1) := by decide +kernel
theorem dX3_holds_9 : decode cX3_holds 9 = .ok (.goto 4, 3) := by decide +kernel
theorem dX3_holds_12 : decode cX3_holds 12 = .ok (.iconst 0, 1) := by decide +kernel
theorem dX3_holds_13 : decode cX3_holds 13 = .ok (.ireturn, 1) := by decide +kernel
theorem dX3_cell_0 : decode cX3_cell 0 = .ok (.iload_n 0, 1) := by decide +kernel
theorem dX3_cell_1 : decode cX3_cell 1 = .ok (.bipush 8, 2) := by decide +kernel
theorem dX3_cell_3 : decode cX3_cell 3 = .ok (.imul, 1) := by decide +kernel
theorem dX3_cell_4 : decode cX3_cell 4 = .ok (.iload_n 1, 1) := by decide +kernel
theorem dX3_cell_5 : decode cX3_cell 5 = .ok (.iadd, 1) := by decide +kernel
theorem dX3_cell_6 : decode cX3_cell 6 = .ok (.ireturn, 1) := by decide +kernel
theorem dX3_isMachine_0 : decode cX3_isMachine 0 = .ok (.iload_n 0, 1) := by decide +kernel
theorem dX3_isMachine_1 : decode cX3_isMachine 1 = .ok (.ifCond .lt 13, 3) := by decide +kernel
theorem dX3_isMachine_4 : decode cX3_isMachine 4 = .ok (.iload_n 0, 1) := by decide +kernel
theorem dX3_isMachine_5 : decode cX3_isMachine 5 = .ok (.bipush 6, 2) := by decide +kernel
theorem dX3_isMachine_7 : decode cX3_isMachine 7 = .ok (.if_icmp .ge 7, 3) := by decide +kernel
theorem dX3_isMachine_10 : decode cX3_isMachine 10 = .ok (.iconst 1, 1) := by decide +kernel
theorem dX3_isMachine_11 : decode cX3_isMachine 11 = .ok (.goto 4, 3) := by decide +kernel
theorem dX3_isMachine_14 : decode cX3_isMachine 14 = .ok (.iconst 0, 1) := by decide +kernel
theorem dX3_isMachine_15 : decode cX3_isMachine 15 = .ok (.ireturn, 1) := by decide +kernel
theorem dX3_isMachineOrNone_0 : decode cX3_isMachineOrNone 0 = .ok (.iload_n 0, 1) := by decide +kernel
theorem dX3_isMachineOrNone_1 : decode cX3_isMachineOrNone 1 = .ok (.bipush (-9), 2) := by decide +kernel
theorem dX3_isMachineOrNone_3 : decode cX3_isMachineOrNone 3 = .ok (.if_icmp .eq 10, 3) := by decide +kernel
theorem dX3_isMachineOrNone_6 : decode cX3_isMachineOrNone 6 = .ok (.iload_n 0, 1) := by decide +kernel
theorem dX3_isMachineOrNone_7 : decode cX3_isMachineOrNone 7 = .ok (.invokestatic 36, 3) := by decide +kernel
theorem dX3_isMachineOrNone_10 : decode cX3_isMachineOrNone 10 = .ok (.ifCond .eq 7, 3) := by decide +kernel
theorem dX3_isMachineOrNone_13 : decode cX3_isMachineOrNone 13 = .ok (.iconst 1, 1) := by decide +kernel
theorem dX3_isMachineOrNone_14 : decode cX3_isMachineOrNone 14 = .ok (.goto 4, 3) := by decide +kernel
theorem dX3_isMachineOrNone_17 : decode cX3_isMachineOrNone 17 = .ok (.iconst 0, 1) := by decide +kernel
theorem dX3_isMachineOrNone_18 : decode cX3_isMachineOrNone 18 = .ok (.ireturn, 1) := by decide +kernel
theorem dX3_isObject_0 : decode cX3_isObject 0 = .ok (.iload_n 0, 1) := by decide +kernel
theorem dX3_isObject_1 : decode cX3_isObject 1 = .ok (.ifCond .lt 13, 3) := by decide +kernel
theorem dX3_isObject_4 : decode cX3_isObject 4 = .ok (.iload_n 0, 1) := by decide +kernel
theorem dX3_isObject_5 : decode cX3_isObject 5 = .ok (.bipush 8, 2) := by decide +kernel
theorem dX3_isObject_7 : decode cX3_isObject 7 = .ok (.if_icmp .ge 7, 3) := by decide +kernel
theorem dX3_isObject_10 : decode cX3_isObject 10 = .ok (.iconst 1, 1) := by decide +kernel
theorem dX3_isObject_11 : decode cX3_isObject 11 = .ok (.goto 4, 3) := by decide +kernel
theorem dX3_isObject_14 : decode cX3_isObject 14 = .ok (.iconst 0, 1) := by decide +kernel
theorem dX3_isObject_15 : decode cX3_isObject 15 = .ok (.ireturn, 1) := by decide +kernel
theorem dX3_isValue_0 : decode cX3_isValue 0 = .ok (.iload_n 0, 1) := by decide +kernel
theorem dX3_isValue_1 : decode cX3_isValue 1 = .ok (.ldc 245, 2) := by decide +kernel
theorem dX3_isValue_3 : decode cX3_isValue 3 = .ok (.if_icmp .lt 9, 3) := by decide +kernel
theorem dX3_isValue_6 : decode cX3_isValue 6 = .ok (.iload_n 0, 1) := by decide +kernel
theorem dX3_isValue_7 : decode cX3_isValue 7 = .ok (.bipush (-10), 2) := by decide +kernel
theorem dX3_isValue_9 : decode cX3_isValue 9 = .ok (.if_icmp .le 13, 3) := by decide +kernel
theorem dX3_isValue_12 : decode cX3_isValue 12 = .ok (.iload_n 0, 1) := by decide +kernel
theorem dX3_isValue_13 : decode cX3_isValue 13 = .ok (.ifCond .lt 13, 3) := by decide +kernel
theorem dX3_isValue_16 : decode cX3_isValue 16 = .ok (.iload_n 0, 1) := by decide +kernel
theorem dX3_isValue_17 : decode cX3_isValue 17 = .ok (.ldc 246, 2) := by decide +kernel
theorem dX3_isValue_19 : decode cX3_isValue 19 = .ok (.if_icmp .gt 7, 3) := by decide +kernel
theorem dX3_isValue_22 : decode cX3_isValue 22 = .ok (.iconst 1, 1) := by decide +kernel
theorem dX3_isValue_23 : decode cX3_isValue 23 = .ok (.goto 4, 3) := by decide +kernel
theorem dX3_isValue_26 : decode cX3_isValue 26 = .ok (.iconst 0, 1) := by decide +kernel
theorem dX3_isValue_27 : decode cX3_isValue 27 = .ok (.ireturn, 1) := by decide +kernel
theorem dX3_isUp_0 : decode cX3_isUp 0 = .ok (.aload_n 0, 1) := by decide +kernel
theorem dX3_isUp_1 : decode cX3_isUp 1 = .ok (.getfield 26, 3) := by decide +kernel
theorem dX3_isUp_4 : decode cX3_isUp 4 = .ok (.iload_n 1, 1) := by decide +kernel
theorem dX3_isUp_5 : decode cX3_isUp 5 = .ok (.invokestatic 111, 3) := by decide +kernel
theorem dX3_isUp_8 : decode cX3_isUp 8 = .ok (.ireturn, 1) := by decide +kernel
theorem dX3_isMember_0 : decode cX3_isMember 0 = .ok (.aload_n 0, 1) := by decide +kernel
theorem dX3_isMember_1 : decode cX3_isMember 1 = .ok (.getfield 30, 3) := by decide +kernel
theorem dX3_isMember_4 : decode cX3_isMember 4 = .ok (.iload_n 1, 1) := by decide +kernel
theorem dX3_isMember_5 : decode cX3_isMember 5 = .ok (.invokestatic 111, 3) := by decide +kernel
theorem dX3_isMember_8 : decode cX3_isMember 8 = .ok (.ireturn, 1) := by decide +kernel
theorem dX3_regionAt_0 : decode cX3_regionAt 0 = .ok (.iload_n 1, 1) := by decide +kernel
theorem dX3_regionAt_1 : decode cX3_regionAt 1 = .ok (.ifCond .lt 28, 3) := by decide +kernel
theorem dX3_regionAt_4 : decode cX3_regionAt 4 = .ok (.iload_n 1, 1) := by decide +kernel
theorem dX3_regionAt_5 : decode cX3_regionAt 5 = .ok (.aload_n 0, 1) := by decide +kernel
theorem dX3_regionAt_6 : decode cX3_regionAt 6 = .ok (.getfield 10, 3) := by decide +kernel
theorem dX3_regionAt_9 : decode cX3_regionAt 9 = .ok (.invokevirtual 46, 3) := by decide +kernel
theorem dX3_regionAt_12 : decode cX3_regionAt 12 = .ok (.if_icmp .ge 17, 3) := by decide +kernel
theorem dX3_regionAt_15 : decode cX3_regionAt 15 = .ok (.aload_n 0, 1) := by decide +kernel
theorem dX3_regionAt_16 : decode cX3_regionAt 16 = .ok (.getfield 10, 3) := by decide +kernel
theorem dX3_regionAt_19 : decode cX3_regionAt 19 = .ok (.iload_n 1, 1) := by decide +kernel
theorem dX3_regionAt_20 : decode cX3_regionAt 20 = .ok (.invokevirtual 77, 3) := by decide +kernel
theorem dX3_regionAt_23 : decode cX3_regionAt 23 = .ok (.checkcast 50, 3) := by decide +kernel
theorem dX3_regionAt_26 : decode cX3_regionAt 26 = .ok (.goto 4, 3) := by decide +kernel
theorem dX3_regionAt_29 : decode cX3_regionAt 29 = .ok (.aconst_null, 1) := by decide +kernel
theorem dX3_regionAt_30 : decode cX3_regionAt 30 = .ok (.areturn, 1) := by decide +kernel
theorem dX3_transactionAt_0 : decode cX3_transactionAt 0 = .ok (.iload_n 1, 1) := by decide +kernel
theorem dX3_transactionAt_1 : decode cX3_transactionAt 1 = .ok (.ifCond .lt 28, 3) := by decide +kernel
theorem dX3_transactionAt_4 : decode cX3_transactionAt 4 = .ok (.iload_n 1, 1) := by decide +kernel
theorem dX3_transactionAt_5 : decode cX3_transactionAt 5 = .ok (.aload_n 0, 1) := by decide +kernel
theorem dX3_transactionAt_6 : decode cX3_transactionAt 6 = .ok (.getfield 16, 3) := by decide +kernel
theorem dX3_transactionAt_9 : decode cX3_transactionAt 9 = .ok (.invokevirtual 46, 3) := by decide +kernel
theorem dX3_transactionAt_12 : decode cX3_transactionAt 12 = .ok (.if_icmp .ge 17, 3) := by decide +kernel
theorem dX3_transactionAt_15 : decode cX3_transactionAt 15 = .ok (.aload_n 0, 1) := by decide +kernel
theorem dX3_transactionAt_16 : decode cX3_transactionAt 16 = .ok (.getfield 16, 3) := by decide +kernel
theorem dX3_transactionAt_19 : decode cX3_transactionAt 19 = .ok (.iload_n 1, 1) := by decide +kernel
theorem dX3_transactionAt_20 : decode cX3_transactionAt 20 = .ok (.invokevirtual 77, 3) := by decide +kernel
theorem dX3_transactionAt_23 : decode cX3_transactionAt 23 = .ok (.checkcast 81, 3) := by decide +kernel
theorem dX3_transactionAt_26 : decode cX3_transactionAt 26 = .ok (.goto 4, 3) := by decide +kernel
theorem dX3_transactionAt_29 : decode cX3_transactionAt 29 = .ok (.aconst_null, 1) := by decide +kernel
theorem dX3_transactionAt_30 : decode cX3_transactionAt 30 = .ok (.areturn, 1) := by decide +kernel
theorem dX3_primaryOf_0 : decode cX3_primaryOf 0 = .ok (.aload_n 1, 1) := by decide +kernel
theorem dX3_primaryOf_1 : decode cX3_primaryOf 1 = .ok (.aload_n 0, 1) := by decide +kernel
theorem dX3_primaryOf_2 : decode cX3_primaryOf 2 = .ok (.getfield 30, 3) := by decide +kernel
theorem dX3_primaryOf_5 : decode cX3_primaryOf 5 = .ok (.invokevirtual 247, 3) := by decide +kernel
theorem dX3_primaryOf_8 : decode cX3_primaryOf 8 = .ok (.ireturn, 1) := by decide +kernel
theorem dX3_isLost_0 : decode cX3_isLost 0 = .ok (.aload_n 1, 1) := by decide +kernel
theorem dX3_isLost_1 : decode cX3_isLost 1 = .ok (.getfield 108, 3) := by decide +kernel
theorem dX3_isLost_4 : decode cX3_isLost 4 = .ok (.aload_n 0, 1) := by decide +kernel
theorem dX3_isLost_5 : decode cX3_isLost 5 = .ok (.getfield 30, 3) := by decide +kernel
theorem dX3_isLost_8 : decode cX3_isLost 8 = .ok (.iand, 1) := by decide +kernel
theorem dX3_isLost_9 : decode cX3_isLost 9 = .ok (.ifCond .ne 7, 3) := by decide +kernel
theorem dX3_isLost_12 : decode cX3_isLost 12 = .ok (.iconst 1, 1) := by decide +kernel
theorem dX3_isLost_13 : decode cX3_isLost 13 = .ok (.goto 4, 3) := by decide +kernel
theorem dX3_isLost_16 : decode cX3_isLost 16 = .ok (.iconst 0, 1) := by decide +kernel
theorem dX3_isLost_17 : decode cX3_isLost 17 = .ok (.ireturn, 1) := by decide +kernel
theorem dX3_copiesOnMembers_0 : decode cX3_copiesOnMembers 0 = .ok (.aload_n 1, 1) := by decide +kernel
theorem dX3_copiesOnMembers_1 : decode cX3_copiesOnMembers 1 = .ok (.getfield 108, 3) := by decide +kernel
theorem dX3_copiesOnMembers_4 : decode cX3_copiesOnMembers 4 = .ok (.aload_n 0, 1) := by decide +kernel
theorem dX3_copiesOnMembers_5 : decode cX3_copiesOnMembers 5 = .ok (.getfield 30, 3) := by decide +kernel
theorem dX3_copiesOnMembers_8 : decode cX3_copiesOnMembers 8 = .ok (.iand, 1) := by decide +kernel
theorem dX3_copiesOnMembers_9 : decode cX3_copiesOnMembers 9 = .ok (.invokestatic 72, 3) := by decide +kernel
theorem dX3_copiesOnMembers_12 : decode cX3_copiesOnMembers 12 = .ok (.ireturn, 1) := by decide +kernel
theorem dX3_isBackup_0 : decode cX3_isBackup 0 = .ok (.iload_n 2, 1) := by decide +kernel
theorem dX3_isBackup_1 : decode cX3_isBackup 1 = .ok (.ifCond .lt 48, 3) := by decide +kernel
theorem dX3_isBackup_4 : decode cX3_isBackup 4 = .ok (.iload_n 2, 1) := by decide +kernel
theorem dX3_isBackup_5 : decode cX3_isBackup 5 = .ok (.aload_n 1, 1) := by decide +kernel
theorem dX3_isBackup_6 : decode cX3_isBackup 6 = .ok (.getfield 250, 3) := by decide +kernel
theorem dX3_isBackup_9 : decode cX3_isBackup 9 = .ok (.if_icmp .ge 40, 3) := by decide +kernel
theorem dX3_isBackup_12 : decode cX3_isBackup 12 = .ok (.aload_n 0, 1) := by decide +kernel
theorem dX3_isBackup_13 : decode cX3_isBackup 13 = .ok (.getfield 30, 3) := by decide +kernel
theorem dX3_isBackup_16 : decode cX3_isBackup 16 = .ok (.aload_n 1, 1) := by decide +kernel
theorem dX3_isBackup_17 : decode cX3_isBackup 17 = .ok (.getfield 253, 3) := by decide +kernel
theorem dX3_isBackup_20 : decode cX3_isBackup 20 = .ok (.iload_n 2, 1) := by decide +kernel
theorem dX3_isBackup_21 : decode cX3_isBackup 21 = .ok (.iaload, 1) := by decide +kernel
theorem dX3_isBackup_22 : decode cX3_isBackup 22 = .ok (.invokestatic 111, 3) := by decide +kernel
theorem dX3_isBackup_25 : decode cX3_isBackup 25 = .ok (.ifCond .eq 24, 3) := by decide +kernel
theorem dX3_isBackup_28 : decode cX3_isBackup 28 = .ok (.aload_n 1, 1) := by decide +kernel
theorem dX3_isBackup_29 : decode cX3_isBackup 29 = .ok (.getfield 253, 3) := by decide +kernel
theorem dX3_isBackup_32 : decode cX3_isBackup 32 = .ok (.iload_n 2, 1) := by decide +kernel
theorem dX3_isBackup_33 : decode cX3_isBackup 33 = .ok (.iaload, 1) := by decide +kernel
theorem dX3_isBackup_34 : decode cX3_isBackup 34 = .ok (.aload_n 1, 1) := by decide +kernel
theorem dX3_isBackup_35 : decode cX3_isBackup 35 = .ok (.aload_n 0, 1) := by decide +kernel
theorem dX3_isBackup_36 : decode cX3_isBackup 36 = .ok (.getfield 30, 3) := by decide +kernel
theorem dX3_isBackup_39 : decode cX3_isBackup 39 = .ok (.invokevirtual 247, 3) := by decide +kernel
theorem dX3_isBackup_42 : decode cX3_isBackup 42 = .ok (.if_icmp .eq 7, 3) := by decide +kernel
theorem dX3_isBackup_45 : decode cX3_isBackup 45 = .ok (.iconst 1, 1) := by decide +kernel
theorem dX3_isBackup_46 : decode cX3_isBackup 46 = .ok (.goto 4, 3) := by decide +kernel
theorem dX3_isBackup_49 : decode cX3_isBackup 49 = .ok (.iconst 0, 1) := by decide +kernel
theorem dX3_isBackup_50 : decode cX3_isBackup 50 = .ok (.ireturn, 1) := by decide +kernel
theorem dX3_machineOfCopy_0 : decode cX3_machineOfCopy 0 = .ok (.iconst 0, 1) := by decide +kernel
theorem dX3_machineOfCopy_1 : decode cX3_machineOfCopy 1 = .ok (.istore_n 3, 1) := by decide +kernel
theorem dX3_machineOfCopy_2 : decode cX3_machineOfCopy 2 = .ok (.iconst 0, 1) := by decide +kernel
theorem dX3_machineOfCopy_3 : decode cX3_machineOfCopy 3 = .ok (.istore 4, 2) := by decide +kernel
theorem dX3_machineOfCopy_5 : decode cX3_machineOfCopy 5 = .ok (.iload 4, 2) := by decide +kernel
theorem dX3_machineOfCopy_7 : decode cX3_machineOfCopy 7 = .ok (.aload_n 1, 1) := by decide +kernel
theorem dX3_machineOfCopy_8 : decode cX3_machineOfCopy 8 = .ok (.getfield 250, 3) := by decide +kernel
theorem dX3_machineOfCopy_11 : decode cX3_machineOfCopy 11 = .ok (.if_icmp .ge 39, 3) := by decide +kernel
theorem dX3_machineOfCopy_14 : decode cX3_machineOfCopy 14 = .ok (.aload_n 0, 1) := by decide +kernel
theorem dX3_machineOfCopy_15 : decode cX3_machineOfCopy 15 = .ok (.aload_n 1, 1) := by decide +kernel
theorem dX3_machineOfCopy_16 : decode cX3_machineOfCopy 16 = .ok (.getfield 253, 3) := by decide +kernel
theorem dX3_machineOfCopy_19 : decode cX3_machineOfCopy 19 = .ok (.iload 4, 2) := by decide +kernel
theorem dX3_machineOfCopy_21 : decode cX3_machineOfCopy 21 = .ok (.iaload, 1) := by decide +kernel
theorem dX3_machineOfCopy_22 : decode cX3_machineOfCopy 22 = .ok (.invokevirtual 43, 3) := by decide +kernel
theorem dX3_machineOfCopy_25 : decode cX3_machineOfCopy 25 = .ok (.ifCond .eq 19, 3) := by decide +kernel
theorem dX3_machineOfCopy_28 : decode cX3_machineOfCopy 28 = .ok (.iload_n 3, 1) := by decide +kernel
theorem dX3_machineOfCopy_29 : decode cX3_machineOfCopy 29 = .ok (.iload_n 2, 1) := by decide +kernel
theorem dX3_machineOfCopy_30 : decode cX3_machineOfCopy 30 = .ok (.if_icmp .ne 11, 3) := by decide +kernel
theorem dX3_machineOfCopy_33 : decode cX3_machineOfCopy 33 = .ok (.aload_n 1, 1) := by decide +kernel
theorem dX3_machineOfCopy_34 : decode cX3_machineOfCopy 34 = .ok (.getfield 253, 3) := by decide +kernel
theorem dX3_machineOfCopy_37 : decode cX3_machineOfCopy 37 = .ok (.iload 4, 2) := by decide +kernel
theorem dX3_machineOfCopy_39 : decode cX3_machineOfCopy 39 = .ok (.iaload, 1) := by decide +kernel
theorem dX3_machineOfCopy_40 : decode cX3_machineOfCopy 40 = .ok (.ireturn, 1) := by decide +kernel
theorem dX3_machineOfCopy_41 : decode cX3_machineOfCopy 41 = .ok (.iinc 3 1, 3) := by decide +kernel
theorem dX3_machineOfCopy_44 : decode cX3_machineOfCopy 44 = .ok (.iinc 4 1, 3) := by decide +kernel
theorem dX3_machineOfCopy_47 : decode cX3_machineOfCopy 47 = .ok (.goto (-42), 3) := by decide +kernel
theorem dX3_machineOfCopy_50 : decode cX3_machineOfCopy 50 = .ok (.bipush (-9), 2) := by decide +kernel
theorem dX3_machineOfCopy_52 : decode cX3_machineOfCopy 52 = .ok (.ireturn, 1) := by decide +kernel
theorem dX3_copiesOn_0 : decode cX3_copiesOn 0 = .ok (.iconst 0, 1) := by decide +kernel
theorem dX3_copiesOn_1 : decode cX3_copiesOn 1 = .ok (.istore_n 2, 1) := by decide +kernel
theorem dX3_copiesOn_2 : decode cX3_copiesOn 2 = .ok (.iconst 0, 1) := by decide +kernel
theorem dX3_copiesOn_3 : decode cX3_copiesOn 3 = .ok (.istore_n 3, 1) := by decide +kernel
theorem dX3_copiesOn_4 : decode cX3_copiesOn 4 = .ok (.iload_n 3, 1) := by decide +kernel
theorem dX3_copiesOn_5 : decode cX3_copiesOn 5 = .ok (.aload_n 0, 1) := by decide +kernel
theorem dX3_copiesOn_6 : decode cX3_copiesOn 6 = .ok (.getfield 10, 3) := by decide +kernel
theorem dX3_copiesOn_9 : decode cX3_copiesOn 9 = .ok (.invokevirtual 46, 3) := by decide +kernel
theorem dX3_copiesOn_12 : decode cX3_copiesOn 12 = .ok (.if_icmp .ge 33, 3) := by decide +kernel
theorem dX3_copiesOn_15 : decode cX3_copiesOn 15 = .ok (.aload_n 0, 1) := by decide +kernel
theorem dX3_copiesOn_16 : decode cX3_copiesOn 16 = .ok (.getfield 10, 3) := by decide +kernel
theorem dX3_copiesOn_19 : decode cX3_copiesOn 19 = .ok (.iload_n 3, 1) := by decide +kernel
theorem dX3_copiesOn_20 : decode cX3_copiesOn 20 = .ok (.invokevirtual 77, 3) := by decide +kernel
theorem dX3_copiesOn_23 : decode cX3_copiesOn 23 = .ok (.checkcast 50, 3) := by decide +kernel
theorem dX3_copiesOn_26 : decode cX3_copiesOn 26 = .ok (.getfield 108, 3) := by decide +kernel
theorem dX3_copiesOn_29 : decode cX3_copiesOn 29 = .ok (.iload_n 1, 1) := by decide +kernel
theorem dX3_copiesOn_30 : decode cX3_copiesOn 30 = .ok (.invokestatic 111, 3) := by decide +kernel
theorem dX3_copiesOn_33 : decode cX3_copiesOn 33 = .ok (.ifCond .eq 6, 3) := by decide +kernel
theorem dX3_copiesOn_36 : decode cX3_copiesOn 36 = .ok (.iinc 2 1, 3) := by decide +kernel
theorem dX3_copiesOn_39 : decode cX3_copiesOn 39 = .ok (.iinc 3 1, 3) := by decide +kernel
theorem dX3_copiesOn_42 : decode cX3_copiesOn 42 = .ok (.goto (-38), 3) := by decide +kernel
theorem dX3_copiesOn_45 : decode cX3_copiesOn 45 = .ok (.iload_n 2, 1) := by decide +kernel
theorem dX3_copiesOn_46 : decode cX3_copiesOn 46 = .ok (.ireturn, 1) := by decide +kernel
theorem dX3_areCopiesAlike_0 : decode cX3_areCopiesAlike 0 = .ok (.aload_n 0, 1) := by decide +kernel
theorem dX3_areCopiesAlike_1 : decode cX3_areCopiesAlike 1 = .ok (.aload_n 1, 1) := by decide +kernel
theorem dX3_areCopiesAlike_2 : decode cX3_areCopiesAlike 2 = .ok (.invokevirtual 104, 3) := by decide +kernel
theorem dX3_areCopiesAlike_5 : decode cX3_areCopiesAlike 5 = .ok (.istore_n 2, 1) := by decide +kernel
theorem dX3_areCopiesAlike_6 : decode cX3_areCopiesAlike 6 = .ok (.iload_n 2, 1) := by decide +kernel
theorem dX3_areCopiesAlike_7 : decode cX3_areCopiesAlike 7 = .ok (.bipush (-9), 2) := by decide +kernel
theorem dX3_areCopiesAlike_9 : decode cX3_areCopiesAlike 9 = .ok (.if_icmp .ne 5, 3) := by decide +kernel
theorem dX3_areCopiesAlike_12 : decode cX3_areCopiesAlike 12 = .ok (.iconst 1, 1) := by decide +kernel
theorem dX3_areCopiesAlike_13 : decode cX3_areCopiesAlike 13 = .ok (.ireturn, 1) := by decide +kernel
theorem dX3_areCopiesAlike_14 : decode cX3_areCopiesAlike 14 = .ok (.iconst 0, 1) := by decide +kernel
theorem dX3_areCopiesAlike_15 : decode cX3_areCopiesAlike 15 = .ok (.istore_n 3, 1) := by decide +kernel
theorem dX3_areCopiesAlike_16 : decode cX3_areCopiesAlike 16 = .ok (.iload_n 3, 1) := by decide +kernel
theorem dX3_areCopiesAlike_17 : decode cX3_areCopiesAlike 17 = .ok (.aload_n 1, 1) := by decide +kernel
theorem dX3_areCopiesAlike_18 : decode cX3_areCopiesAlike 18 = .ok (.getfield 250, 3) := by decide +kernel
theorem dX3_areCopiesAlike_21 : decode cX3_areCopiesAlike 21 = .ok (.if_icmp .ge 38, 3) := by decide +kernel
theorem dX3_areCopiesAlike_24 : decode cX3_areCopiesAlike 24 = .ok (.aload_n 0, 1) := by decide +kernel
theorem dX3_areCopiesAlike_25 : decode cX3_areCopiesAlike 25 = .ok (.aload_n 1, 1) := by decide +kernel
theorem dX3_areCopiesAlike_26 : decode cX3_areCopiesAlike 26 = .ok (.getfield 253, 3) := by decide +kernel
theorem dX3_areCopiesAlike_29 : decode cX3_areCopiesAlike 29 = .ok (.iload_n 3, 1) := by decide +kernel
theorem dX3_areCopiesAlike_30 : decode cX3_areCopiesAlike 30 = .ok (.iaload, 1) := by decide +kernel
theorem dX3_areCopiesAlike_31 : decode cX3_areCopiesAlike 31 = .ok (.invokevirtual 43, 3) := by decide +kernel
theorem dX3_areCopiesAlike_34 : decode cX3_areCopiesAlike 34 = .ok (.ifCond .eq 19, 3) := by decide +kernel
theorem dX3_areCopiesAlike_37 : decode cX3_areCopiesAlike 37 = .ok (.aload_n 1, 1) := by decide +kernel
theorem dX3_areCopiesAlike_38 : decode cX3_areCopiesAlike 38 = .ok (.iload_n 2, 1) := by decide +kernel
theorem dX3_areCopiesAlike_39 : decode cX3_areCopiesAlike 39 = .ok (.aload_n 1, 1) := by decide +kernel
theorem dX3_areCopiesAlike_40 : decode cX3_areCopiesAlike 40 = .ok (.getfield 253, 3) := by decide +kernel
theorem dX3_areCopiesAlike_43 : decode cX3_areCopiesAlike 43 = .ok (.iload_n 3, 1) := by decide +kernel
theorem dX3_areCopiesAlike_44 : decode cX3_areCopiesAlike 44 = .ok (.iaload, 1) := by decide +kernel
theorem dX3_areCopiesAlike_45 : decode cX3_areCopiesAlike 45 = .ok (.invokestatic 256, 3) := by decide +kernel
theorem dX3_areCopiesAlike_48 : decode cX3_areCopiesAlike 48 = .ok (.ifCond .ne 5, 3) := by decide +kernel
theorem dX3_areCopiesAlike_51 : decode cX3_areCopiesAlike 51 = .ok (.iconst 0, 1) := by decide +kernel
theorem dX3_areCopiesAlike_52 : decode cX3_areCopiesAlike 52 = .ok (.ireturn, 1) := by decide +kernel
theorem dX3_areCopiesAlike_53 : decode cX3_areCopiesAlike 53 = .ok (.iinc 3 1, 3) := by decide +kernel
theorem dX3_areCopiesAlike_56 : decode cX3_areCopiesAlike 56 = .ok (.goto (-40), 3) := by decide +kernel
theorem dX3_areCopiesAlike_59 : decode cX3_areCopiesAlike 59 = .ok (.iconst 1, 1) := by decide +kernel
theorem dX3_areCopiesAlike_60 : decode cX3_areCopiesAlike 60 = .ok (.ireturn, 1) := by decide +kernel
theorem dX3_areAlike_0 : decode cX3_areAlike 0 = .ok (.iconst 0, 1) := by decide +kernel
theorem dX3_areAlike_1 : decode cX3_areAlike 1 = .ok (.istore_n 3, 1) := by decide +kernel
theorem dX3_areAlike_2 : decode cX3_areAlike 2 = .ok (.iload_n 3, 1) := by decide +kernel
theorem dX3_areAlike_3 : decode cX3_areAlike 3 = .ok (.bipush 8, 2) := by decide +kernel
theorem dX3_areAlike_5 : decode cX3_areAlike 5 = .ok (.if_icmp .ge 59, 3) := by decide +kernel
theorem dX3_areAlike_8 : decode cX3_areAlike 8 = .ok (.iload_n 1, 1) := by decide +kernel
theorem dX3_areAlike_9 : decode cX3_areAlike 9 = .ok (.iload_n 3, 1) := by decide +kernel
theorem dX3_areAlike_10 : decode cX3_areAlike 10 = .ok (.invokestatic 122, 3) := by decide +kernel
theorem dX3_areAlike_13 : decode cX3_areAlike 13 = .ok (.istore 4, 2) := by decide +kernel
theorem dX3_areAlike_15 : decode cX3_areAlike 15 = .ok (.iload_n 2, 1) := by decide +kernel
theorem dX3_areAlike_16 : decode cX3_areAlike 16 = .ok (.iload_n 3, 1) := by decide +kernel
theorem dX3_areAlike_17 : decode cX3_areAlike 17 = .ok (.invokestatic 122, 3) := by decide +kernel
theorem dX3_areAlike_20 : decode cX3_areAlike 20 = .ok (.istore 5, 2) := by decide +kernel
theorem dX3_areAlike_22 : decode cX3_areAlike 22 = .ok (.aload_n 0, 1) := by decide +kernel
theorem dX3_areAlike_23 : decode cX3_areAlike 23 = .ok (.getfield 126, 3) := by decide +kernel
theorem dX3_areAlike_26 : decode cX3_areAlike 26 = .ok (.iload 4, 2) := by decide +kernel
theorem dX3_areAlike_28 : decode cX3_areAlike 28 = .ok (.iaload, 1) := by decide +kernel
theorem dX3_areAlike_29 : decode cX3_areAlike 29 = .ok (.aload_n 0, 1) := by decide +kernel
theorem dX3_areAlike_30 : decode cX3_areAlike 30 = .ok (.getfield 126, 3) := by decide +kernel
theorem dX3_areAlike_33 : decode cX3_areAlike 33 = .ok (.iload 5, 2) := by decide +kernel
theorem dX3_areAlike_35 : decode cX3_areAlike 35 = .ok (.iaload, 1) := by decide +kernel
theorem dX3_areAlike_36 : decode cX3_areAlike 36 = .ok (.if_icmp .ne 20, 3) := by decide +kernel
theorem dX3_areAlike_39 : decode cX3_areAlike 39 = .ok (.aload_n 0, 1) := by decide +kernel
theorem dX3_areAlike_40 : decode cX3_areAlike 40 = .ok (.getfield 129, 3) := by decide +kernel
theorem dX3_areAlike_43 : decode cX3_areAlike 43 = .ok (.iload 4, 2) := by decide +kernel
theorem dX3_areAlike_45 : decode cX3_areAlike 45 = .ok (.iaload, 1) := by decide +kernel
theorem dX3_areAlike_46 : decode cX3_areAlike 46 = .ok (.aload_n 0, 1) := by decide +kernel
theorem dX3_areAlike_47 : decode cX3_areAlike 47 = .ok (.getfield 129, 3) := by decide +kernel
theorem dX3_areAlike_50 : decode cX3_areAlike 50 = .ok (.iload 5, 2) := by decide +kernel
theorem dX3_areAlike_52 : decode cX3_areAlike 52 = .ok (.iaload, 1) := by decide +kernel
theorem dX3_areAlike_53 : decode cX3_areAlike 53 = .ok (.if_icmp .eq 5, 3) := by decide +kernel
theorem dX3_areAlike_56 : decode cX3_areAlike 56 = .ok (.iconst 0, 1) := by decide +kernel
theorem dX3_areAlike_57 : decode cX3_areAlike 57 = .ok (.ireturn, 1) := by decide +kernel
theorem dX3_areAlike_58 : decode cX3_areAlike 58 = .ok (.iinc 3 1, 3) := by decide +kernel
theorem dX3_areAlike_61 : decode cX3_areAlike 61 = .ok (.goto (-59), 3) := by decide +kernel
theorem dX3_areAlike_64 : decode cX3_areAlike 64 = .ok (.iconst 1, 1) := by decide +kernel
theorem dX3_areAlike_65 : decode cX3_areAlike 65 = .ok (.ireturn, 1) := by decide +kernel
theorem dX3_isWrittenUnderWay_0 : decode cX3_isWrittenUnderWay 0 = .ok (.iconst 0, 1) := by decide +kernel
theorem dX3_isWrittenUnderWay_1 : decode cX3_isWrittenUnderWay 1 = .ok (.istore_n 2, 1) := by decide +kernel
theorem dX3_isWrittenUnderWay_2 : decode cX3_isWrittenUnderWay 2 = .ok (.iload_n 2, 1) := by decide +kernel
theorem dX3_isWrittenUnderWay_3 : decode cX3_isWrittenUnderWay 3 = .ok (.aload_n 0, 1) := by decide +kernel
theorem dX3_isWrittenUnderWay_4 : decode cX3_isWrittenUnderWay 4 = .ok (.getfield 16, 3) := by decide +kernel
theorem dX3_isWrittenUnderWay_7 : decode cX3_isWrittenUnderWay 7 = .ok (.invokevirtual 46, 3) := by decide +kernel
theorem dX3_isWrittenUnderWay_10 : decode cX3_isWrittenUnderWay 10 = .ok (.if_icmp .ge 38, 3) := by decide +kernel
theorem dX3_isWrittenUnderWay_13 : decode cX3_isWrittenUnderWay 13 = .ok (.aload_n 0, 1) := by decide +kernel
theorem dX3_isWrittenUnderWay_14 : decode cX3_isWrittenUnderWay 14 = .ok (.getfield 16, 3) := by decide +kernel
theorem dX3_isWrittenUnderWay_17 : decode cX3_isWrittenUnderWay 17 = .ok (.iload_n 2, 1) := by decide +kernel
theorem dX3_isWrittenUnderWay_18 : decode cX3_isWrittenUnderWay 18 = .ok (.invokevirtual 77, 3) := by decide +kernel
theorem dX3_isWrittenUnderWay_21 : decode cX3_isWrittenUnderWay 21 = .ok (.checkcast 81, 3) := by decide +kernel
theorem dX3_isWrittenUnderWay_24 : decode cX3_isWrittenUnderWay 24 = .ok (.astore_n 3, 1) := by decide +kernel
theorem dX3_isWrittenUnderWay_25 : decode cX3_isWrittenUnderWay 25 = .ok (.aload_n 3, 1) := by decide +kernel
theorem dX3_isWrittenUnderWay_26 : decode cX3_isWrittenUnderWay 26 = .ok (.invokevirtual 201, 3) := by decide +kernel
theorem dX3_isWrittenUnderWay_29 : decode cX3_isWrittenUnderWay 29 = .ok (.ifCond .eq 13, 3) := by decide +kernel
theorem dX3_isWrittenUnderWay_32 : decode cX3_isWrittenUnderWay 32 = .ok (.aload_n 3, 1) := by decide +kernel
theorem dX3_isWrittenUnderWay_33 : decode cX3_isWrittenUnderWay 33 = .ok (.aload_n 1, 1) := by decide +kernel
theorem dX3_isWrittenUnderWay_34 : decode cX3_isWrittenUnderWay 34 = .ok (.invokevirtual 260, 3) := by decide +kernel
theorem dX3_isWrittenUnderWay_37 : decode cX3_isWrittenUnderWay 37 = .ok (.ifCond .eq 5, 3) := by decide +kernel
theorem dX3_isWrittenUnderWay_40 : decode cX3_isWrittenUnderWay 40 = .ok (.iconst 1, 1) := by decide +kernel
theorem dX3_isWrittenUnderWay_41 : decode cX3_isWrittenUnderWay 41 = .ok (.ireturn, 1) := by decide +kernel
theorem dX3_isWrittenUnderWay_42 : decode cX3_isWrittenUnderWay 42 = .ok (.iinc 2 1, 3) := by decide +kernel
theorem dX3_isWrittenUnderWay_45 : decode cX3_isWrittenUnderWay 45 = .ok (.goto (-43), 3) := by decide +kernel
theorem dX3_isWrittenUnderWay_48 : decode cX3_isWrittenUnderWay 48 = .ok (.iconst 0, 1) := by decide +kernel
theorem dX3_isWrittenUnderWay_49 : decode cX3_isWrittenUnderWay 49 = .ok (.ireturn, 1) := by decide +kernel
theorem dX3_recordsOf_0 : decode cX3_recordsOf 0 = .ok (.iconst 0, 1) := by decide +kernel
theorem dX3_recordsOf_1 : decode cX3_recordsOf 1 = .ok (.istore 4, 2) := by decide +kernel
theorem dX3_recordsOf_3 : decode cX3_recordsOf 3 = .ok (.iconst 0, 1) := by decide +kernel
theorem dX3_recordsOf_4 : decode cX3_recordsOf 4 = .ok (.istore 5, 2) := by decide +kernel
theorem dX3_recordsOf_6 : decode cX3_recordsOf 6 = .ok (.iload 5, 2) := by decide +kernel
theorem dX3_recordsOf_8 : decode cX3_recordsOf 8 = .ok (.aload_n 0, 1) := by decide +kernel
theorem dX3_recordsOf_9 : decode cX3_recordsOf 9 = .ok (.getfield 16, 3) := by decide +kernel
theorem dX3_recordsOf_12 : decode cX3_recordsOf 12 = .ok (.invokevirtual 46, 3) := by decide +kernel
theorem dX3_recordsOf_15 : decode cX3_recordsOf 15 = .ok (.if_icmp .ge 48, 3) := by decide +kernel
theorem dX3_recordsOf_18 : decode cX3_recordsOf 18 = .ok (.aload_n 0, 1) := by decide +kernel
theorem dX3_recordsOf_19 : decode cX3_recordsOf 19 = .ok (.getfield 16, 3) := by decide +kernel
theorem dX3_recordsOf_22 : decode cX3_recordsOf 22 = .ok (.iload 5, 2) := by decide +kernel
theorem dX3_recordsOf_24 : decode cX3_recordsOf 24 = .ok (.invokevirtual 77, 3) := by decide +kernel
theorem dX3_recordsOf_27 : decode cX3_recordsOf 27 = .ok (.checkcast 81, 3) := by decide +kernel
theorem dX3_recordsOf_30 : decode cX3_recordsOf 30 = .ok (.aload_n 1, 1) := by decide +kernel
theorem dX3_recordsOf_31 : decode cX3_recordsOf 31 = .ok (.iload_n 2, 1) := by decide +kernel
theorem dX3_recordsOf_32 : decode cX3_recordsOf 32 = .ok (.invokevirtual 263, 3) := by decide +kernel
theorem dX3_recordsOf_35 : decode cX3_recordsOf 35 = .ok (.astore 6, 2) := by decide +kernel
theorem dX3_recordsOf_37 : decode cX3_recordsOf 37 = .ok (.aload 6, 2) := by decide +kernel
theorem dX3_recordsOf_39 : decode cX3_recordsOf 39 = .ok (.ifnull 18, 3) := by decide +kernel
theorem dX3_recordsOf_42 : decode cX3_recordsOf 42 = .ok (.aload 6, 2) := by decide +kernel
theorem dX3_recordsOf_44 : decode cX3_recordsOf 44 = .ok (.getfield 267, 3) := by decide +kernel
theorem dX3_recordsOf_47 : decode cX3_recordsOf 47 = .ok (.iload_n 3, 1) := by decide +kernel
theorem dX3_recordsOf_48 : decode cX3_recordsOf 48 = .ok (.invokestatic 111, 3) := by decide +kernel
theorem dX3_recordsOf_51 : decode cX3_recordsOf 51 = .ok (.ifCond .eq 6, 3) := by decide +kernel
theorem dX3_recordsOf_54 : decode cX3_recordsOf 54 = .ok (.iinc 4 1, 3) := by decide +kernel
theorem dX3_recordsOf_57 : decode cX3_recordsOf 57 = .ok (.iinc 5 1, 3) := by decide +kernel
theorem dX3_recordsOf_60 : decode cX3_recordsOf 60 = .ok (.goto (-54), 3) := by decide +kernel
theorem dX3_recordsOf_63 : decode cX3_recordsOf 63 = .ok (.iload 4, 2) := by decide +kernel
theorem dX3_recordsOf_65 : decode cX3_recordsOf 65 = .ok (.ireturn, 1) := by decide +kernel
theorem dX3_recordsWithin_0 : decode cX3_recordsWithin 0 = .ok (.iconst 0, 1) := by decide +kernel
theorem dX3_recordsWithin_1 : decode cX3_recordsWithin 1 = .ok (.istore_n 2, 1) := by decide +kernel
theorem dX3_recordsWithin_2 : decode cX3_recordsWithin 2 = .ok (.iconst 0, 1) := by decide +kernel
theorem dX3_recordsWithin_3 : decode cX3_recordsWithin 3 = .ok (.istore_n 3, 1) := by decide +kernel
theorem dX3_recordsWithin_4 : decode cX3_recordsWithin 4 = .ok (.iload_n 3, 1) := by decide +kernel
theorem dX3_recordsWithin_5 : decode cX3_recordsWithin 5 = .ok (.aload_n 0, 1) := by decide +kernel
theorem dX3_recordsWithin_6 : decode cX3_recordsWithin 6 = .ok (.getfield 16, 3) := by decide +kernel
theorem dX3_recordsWithin_9 : decode cX3_recordsWithin 9 = .ok (.invokevirtual 46, 3) := by decide +kernel
theorem dX3_recordsWithin_12 : decode cX3_recordsWithin 12 = .ok (.if_icmp .ge 68, 3) := by decide +kernel
theorem dX3_recordsWithin_15 : decode cX3_recordsWithin 15 = .ok (.aload_n 0, 1) := by decide +kernel
theorem dX3_recordsWithin_16 : decode cX3_recordsWithin 16 = .ok (.getfield 16, 3) := by decide +kernel
theorem dX3_recordsWithin_19 : decode cX3_recordsWithin 19 = .ok (.iload_n 3, 1) := by decide +kernel
theorem dX3_recordsWithin_20 : decode cX3_recordsWithin 20 = .ok (.invokevirtual 77, 3) := by decide +kernel
theorem dX3_recordsWithin_23 : decode cX3_recordsWithin 23 = .ok (.checkcast 81, 3) := by decide +kernel
theorem dX3_recordsWithin_26 : decode cX3_recordsWithin 26 = .ok (.astore 4, 2) := by decide +kernel
theorem dX3_recordsWithin_28 : decode cX3_recordsWithin 28 = .ok (.iconst 0, 1) := by decide +kernel
theorem dX3_recordsWithin_29 : decode cX3_recordsWithin 29 = .ok (.istore 5, 2) := by decide +kernel
theorem dX3_recordsWithin_31 : decode cX3_recordsWithin 31 = .ok (.iload 5, 2) := by decide +kernel
theorem dX3_recordsWithin_33 : decode cX3_recordsWithin 33 = .ok (.aload 4, 2) := by decide +kernel
theorem dX3_recordsWithin_35 : decode cX3_recordsWithin 35 = .ok (.getfield 205, 3) := by decide +kernel
theorem dX3_recordsWithin_38 : decode cX3_recordsWithin 38 = .ok (.invokevirtual 46, 3) := by decide +kernel
theorem dX3_recordsWithin_41 : decode cX3_recordsWithin 41 = .ok (.if_icmp .ge 33, 3) := by decide +kernel
theorem dX3_recordsWithin_44 : decode cX3_recordsWithin 44 = .ok (.iload_n 2, 1) := by decide +kernel
theorem dX3_recordsWithin_45 : decode cX3_recordsWithin 45 = .ok (.aload 4, 2) := by decide +kernel
theorem dX3_recordsWithin_47 : decode cX3_recordsWithin 47 = .ok (.getfield 205, 3) := by decide +kernel
theorem dX3_recordsWithin_50 : decode cX3_recordsWithin 50 = .ok (.iload 5, 2) := by decide +kernel
theorem dX3_recordsWithin_52 : decode cX3_recordsWithin 52 = .ok (.invokevirtual 77, 3) := by decide +kernel
theorem dX3_recordsWithin_55 : decode cX3_recordsWithin 55 = .ok (.checkcast 173, 3) := by decide +kernel
theorem dX3_recordsWithin_58 : decode cX3_recordsWithin 58 = .ok (.getfield 267, 3) := by decide +kernel
theorem dX3_recordsWithin_61 : decode cX3_recordsWithin 61 = .ok (.iload_n 1, 1) := by decide +kernel
theorem dX3_recordsWithin_62 : decode cX3_recordsWithin 62 = .ok (.iand, 1) := by decide +kernel
theorem dX3_recordsWithin_63 : decode cX3_recordsWithin 63 = .ok (.invokestatic 72, 3) := by decide +kernel
theorem dX3_recordsWithin_66 : decode cX3_recordsWithin 66 = .ok (.iadd, 1) := by decide +kernel
theorem dX3_recordsWithin_67 : decode cX3_recordsWithin 67 = .ok (.istore_n 2, 1) := by decide +kernel
theorem dX3_recordsWithin_68 : decode cX3_recordsWithin 68 = .ok (.iinc 5 1, 3) := by decide +kernel
theorem dX3_recordsWithin_71 : decode cX3_recordsWithin 71 = .ok (.goto (-40), 3) := by decide +kernel
theorem dX3_recordsWithin_74 : decode cX3_recordsWithin 74 = .ok (.iinc 3 1, 3) := by decide +kernel
theorem dX3_recordsWithin_77 : decode cX3_recordsWithin 77 = .ok (.goto (-73), 3) := by decide +kernel
theorem dX3_recordsWithin_80 : decode cX3_recordsWithin 80 = .ok (.iload_n 2, 1) := by decide +kernel
theorem dX3_recordsWithin_81 : decode cX3_recordsWithin 81 = .ok (.ireturn, 1) := by decide +kernel
