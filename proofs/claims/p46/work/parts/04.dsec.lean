/-! what stands at each place of the code -/
theorem dX0_init_0 : decode cX0_init 0 = .ok (.aload_n 0, 1) := by decide +kernel
theorem dX0_init_1 : decode cX0_init 1 = .ok (.invokespecial 3, 3) := by decide +kernel
theorem dX0_init_4 : decode cX0_init 4 = .ok (.aload_n 0, 1) := by decide +kernel
theorem dX0_init_5 : decode cX0_init 5 = .ok (.bipush 8, 2) := by decide +kernel
theorem dX0_init_7 : decode cX0_init 7 = .ok (.newarray .int, 2) := by decide +kernel
theorem dX0_init_9 : decode cX0_init 9 = .ok (.putfield 9, 3) := by decide +kernel
theorem dX0_init_12 : decode cX0_init 12 = .ok (.aload_n 0, 1) := by decide +kernel
theorem dX0_init_13 : decode cX0_init 13 = .ok (.bipush 7, 2) := by decide +kernel
theorem dX0_init_15 : decode cX0_init 15 = .ok (.newarray .int, 2) := by decide +kernel
theorem dX0_init_17 : decode cX0_init 17 = .ok (.putfield 15, 3) := by decide +kernel
theorem dX0_init_20 : decode cX0_init 20 = .ok (.aload_n 0, 1) := by decide +kernel
theorem dX0_init_21 : decode cX0_init 21 = .ok (.invokevirtual 18, 3) := by decide +kernel
theorem dX0_init_24 : decode cX0_init 24 = .ok (.return_, 1) := by decide +kernel
theorem dX0_clear_0 : decode cX0_clear 0 = .ok (.aload_n 0, 1) := by decide +kernel
theorem dX0_clear_1 : decode cX0_clear 1 = .ok (.iconst 0, 1) := by decide +kernel
theorem dX0_clear_2 : decode cX0_clear 2 = .ok (.putfield 21, 3) := by decide +kernel
theorem dX0_clear_5 : decode cX0_clear 5 = .ok (.aload_n 0, 1) := by decide +kernel
theorem dX0_clear_6 : decode cX0_clear 6 = .ok (.iconst 0, 1) := by decide +kernel
theorem dX0_clear_7 : decode cX0_clear 7 = .ok (.putfield 25, 3) := by decide +kernel
theorem dX0_clear_10 : decode cX0_clear 10 = .ok (.aload_n 0, 1) := by decide +kernel
theorem dX0_clear_11 : decode cX0_clear 11 = .ok (.iconst 0, 1) := by decide +kernel
theorem dX0_clear_12 : decode cX0_clear 12 = .ok (.putfield 29, 3) := by decide +kernel
theorem dX0_clear_15 : decode cX0_clear 15 = .ok (.iconst 0, 1) := by decide +kernel
theorem dX0_clear_16 : decode cX0_clear 16 = .ok (.istore_n 1, 1) := by decide +kernel
theorem dX0_clear_17 : decode cX0_clear 17 = .ok (.iload_n 1, 1) := by decide +kernel
theorem dX0_clear_18 : decode cX0_clear 18 = .ok (.aload_n 0, 1) := by decide +kernel
theorem dX0_clear_19 : decode cX0_clear 19 = .ok (.getfield 9, 3) := by decide +kernel
theorem dX0_clear_22 : decode cX0_clear 22 = .ok (.arraylength, 1) := by decide +kernel
theorem dX0_clear_23 : decode cX0_clear 23 = .ok (.if_icmp .ge 16, 3) := by decide +kernel
theorem dX0_clear_26 : decode cX0_clear 26 = .ok (.aload_n 0, 1) := by decide +kernel
theorem dX0_clear_27 : decode cX0_clear 27 = .ok (.getfield 9, 3) := by decide +kernel
theorem dX0_clear_30 : decode cX0_clear 30 = .ok (.iload_n 1, 1) := by decide +kernel
theorem dX0_clear_31 : decode cX0_clear 31 = .ok (.iconst (-1), 1) := by decide +kernel
theorem dX0_clear_32 : decode cX0_clear 32 = .ok (.iastore, 1) := by decide +kernel
theorem dX0_clear_33 : decode cX0_clear 33 = .ok (.iinc 1 1, 3) := by decide +kernel
theorem dX0_clear_36 : decode cX0_clear 36 = .ok (.goto (-19), 3) := by decide +kernel
theorem dX0_clear_39 : decode cX0_clear 39 = .ok (.return_, 1) := by decide +kernel
theorem dX0_start_0 : decode cX0_start 0 = .ok (.aload_n 0, 1) := by decide +kernel
theorem dX0_start_1 : decode cX0_start 1 = .ok (.invokevirtual 18, 3) := by decide +kernel
theorem dX0_start_4 : decode cX0_start 4 = .ok (.aload_n 0, 1) := by decide +kernel
theorem dX0_start_5 : decode cX0_start 5 = .ok (.iconst 1, 1) := by decide +kernel
theorem dX0_start_6 : decode cX0_start 6 = .ok (.putfield 21, 3) := by decide +kernel
theorem dX0_start_9 : decode cX0_start 9 = .ok (.aload_n 0, 1) := by decide +kernel
theorem dX0_start_10 : decode cX0_start 10 = .ok (.iload_n 1, 1) := by decide +kernel
theorem dX0_start_11 : decode cX0_start 11 = .ok (.putfield 25, 3) := by decide +kernel
theorem dX0_start_14 : decode cX0_start 14 = .ok (.return_, 1) := by decide +kernel
theorem dX0_take_0 : decode cX0_take 0 = .ok (.aload_n 0, 1) := by decide +kernel
theorem dX0_take_1 : decode cX0_take 1 = .ok (.aload_n 1, 1) := by decide +kernel
theorem dX0_take_2 : decode cX0_take 2 = .ok (.getfield 21, 3) := by decide +kernel
theorem dX0_take_5 : decode cX0_take 5 = .ok (.putfield 21, 3) := by decide +kernel
theorem dX0_take_8 : decode cX0_take 8 = .ok (.aload_n 0, 1) := by decide +kernel
theorem dX0_take_9 : decode cX0_take 9 = .ok (.aload_n 1, 1) := by decide +kernel
theorem dX0_take_10 : decode cX0_take 10 = .ok (.getfield 25, 3) := by decide +kernel
theorem dX0_take_13 : decode cX0_take 13 = .ok (.putfield 25, 3) := by decide +kernel
theorem dX0_take_16 : decode cX0_take 16 = .ok (.aload_n 0, 1) := by decide +kernel
theorem dX0_take_17 : decode cX0_take 17 = .ok (.aload_n 1, 1) := by decide +kernel
theorem dX0_take_18 : decode cX0_take 18 = .ok (.getfield 29, 3) := by decide +kernel
theorem dX0_take_21 : decode cX0_take 21 = .ok (.putfield 29, 3) := by decide +kernel
theorem dX0_take_24 : decode cX0_take 24 = .ok (.iconst 1, 1) := by decide +kernel
theorem dX0_take_25 : decode cX0_take 25 = .ok (.istore_n 2, 1) := by decide +kernel
theorem dX0_take_26 : decode cX0_take 26 = .ok (.iload_n 2, 1) := by decide +kernel
theorem dX0_take_27 : decode cX0_take 27 = .ok (.aload_n 0, 1) := by decide +kernel
theorem dX0_take_28 : decode cX0_take 28 = .ok (.getfield 9, 3) := by decide +kernel
theorem dX0_take_31 : decode cX0_take 31 = .ok (.arraylength, 1) := by decide +kernel
theorem dX0_take_32 : decode cX0_take 32 = .ok (.if_icmp .ge 20, 3) := by decide +kernel
theorem dX0_take_35 : decode cX0_take 35 = .ok (.aload_n 0, 1) := by decide +kernel
theorem dX0_take_36 : decode cX0_take 36 = .ok (.getfield 9, 3) := by decide +kernel
theorem dX0_take_39 : decode cX0_take 39 = .ok (.iload_n 2, 1) := by decide +kernel
theorem dX0_take_40 : decode cX0_take 40 = .ok (.aload_n 1, 1) := by decide +kernel
theorem dX0_take_41 : decode cX0_take 41 = .ok (.iload_n 2, 1) := by decide +kernel
theorem dX0_take_42 : decode cX0_take 42 = .ok (.invokevirtual 32, 3) := by decide +kernel
theorem dX0_take_45 : decode cX0_take 45 = .ok (.iastore, 1) := by decide +kernel
theorem dX0_take_46 : decode cX0_take 46 = .ok (.iinc 2 1, 3) := by decide +kernel
theorem dX0_take_49 : decode cX0_take 49 = .ok (.goto (-23), 3) := by decide +kernel
theorem dX0_take_52 : decode cX0_take 52 = .ok (.iconst 0, 1) := by decide +kernel
theorem dX0_take_53 : decode cX0_take 53 = .ok (.istore_n 2, 1) := by decide +kernel
theorem dX0_take_54 : decode cX0_take 54 = .ok (.iload_n 2, 1) := by decide +kernel
theorem dX0_take_55 : decode cX0_take 55 = .ok (.aload_n 0, 1) := by decide +kernel
theorem dX0_take_56 : decode cX0_take 56 = .ok (.getfield 15, 3) := by decide +kernel
theorem dX0_take_59 : decode cX0_take 59 = .ok (.arraylength, 1) := by decide +kernel
theorem dX0_take_60 : decode cX0_take 60 = .ok (.if_icmp .ge 20, 3) := by decide +kernel
theorem dX0_take_63 : decode cX0_take 63 = .ok (.aload_n 0, 1) := by decide +kernel
theorem dX0_take_64 : decode cX0_take 64 = .ok (.getfield 15, 3) := by decide +kernel
theorem dX0_take_67 : decode cX0_take 67 = .ok (.iload_n 2, 1) := by decide +kernel
theorem dX0_take_68 : decode cX0_take 68 = .ok (.aload_n 1, 1) := by decide +kernel
theorem dX0_take_69 : decode cX0_take 69 = .ok (.iload_n 2, 1) := by decide +kernel
theorem dX0_take_70 : decode cX0_take 70 = .ok (.invokevirtual 36, 3) := by decide +kernel
theorem dX0_take_73 : decode cX0_take 73 = .ok (.iastore, 1) := by decide +kernel
theorem dX0_take_74 : decode cX0_take 74 = .ok (.iinc 2 1, 3) := by decide +kernel
theorem dX0_take_77 : decode cX0_take 77 = .ok (.goto (-23), 3) := by decide +kernel
theorem dX0_take_80 : decode cX0_take 80 = .ok (.return_, 1) := by decide +kernel
theorem dX0_isEmpty_0 : decode cX0_isEmpty 0 = .ok (.aload_n 0, 1) := by decide +kernel
theorem dX0_isEmpty_1 : decode cX0_isEmpty 1 = .ok (.getfield 21, 3) := by decide +kernel
theorem dX0_isEmpty_4 : decode cX0_isEmpty 4 = .ok (.ifCond .ne 7, 3) := by decide +kernel
theorem dX0_isEmpty_7 : decode cX0_isEmpty 7 = .ok (.iconst 1, 1) := by decide +kernel
theorem dX0_isEmpty_8 : decode cX0_isEmpty 8 = .ok (.goto 4, 3) := by decide +kernel
theorem dX0_isEmpty_11 : decode cX0_isEmpty 11 = .ok (.iconst 0, 1) := by decide +kernel
theorem dX0_isEmpty_12 : decode cX0_isEmpty 12 = .ok (.ireturn, 1) := by decide +kernel
theorem dX0_shareAt_0 : decode cX0_shareAt 0 = .ok (.iload_n 1, 1) := by decide +kernel
theorem dX0_shareAt_1 : decode cX0_shareAt 1 = .ok (.iconst 1, 1) := by decide +kernel
theorem dX0_shareAt_2 : decode cX0_shareAt 2 = .ok (.if_icmp .lt 21, 3) := by decide +kernel
theorem dX0_shareAt_5 : decode cX0_shareAt 5 = .ok (.iload_n 1, 1) := by decide +kernel
theorem dX0_shareAt_6 : decode cX0_shareAt 6 = .ok (.aload_n 0, 1) := by decide +kernel
theorem dX0_shareAt_7 : decode cX0_shareAt 7 = .ok (.getfield 9, 3) := by decide +kernel
theorem dX0_shareAt_10 : decode cX0_shareAt 10 = .ok (.arraylength, 1) := by decide +kernel
theorem dX0_shareAt_11 : decode cX0_shareAt 11 = .ok (.if_icmp .ge 12, 3) := by decide +kernel
theorem dX0_shareAt_14 : decode cX0_shareAt 14 = .ok (.aload_n 0, 1) := by decide +kernel
theorem dX0_shareAt_15 : decode cX0_shareAt 15 = .ok (.getfield 9, 3) := by decide +kernel
theorem dX0_shareAt_18 : decode cX0_shareAt 18 = .ok (.iload_n 1, 1) := by decide +kernel
theorem dX0_shareAt_19 : decode cX0_shareAt 19 = .ok (.iaload, 1) := by decide +kernel
theorem dX0_shareAt_20 : decode cX0_shareAt 20 = .ok (.goto 4, 3) := by decide +kernel
theorem dX0_shareAt_23 : decode cX0_shareAt 23 = .ok (.iconst (-1), 1) := by decide +kernel
theorem dX0_shareAt_24 : decode cX0_shareAt 24 = .ok (.ireturn, 1) := by decide +kernel
theorem dX0_hasShare_0 : decode cX0_hasShare 0 = .ok (.aload_n 0, 1) := by decide +kernel
theorem dX0_hasShare_1 : decode cX0_hasShare 1 = .ok (.iload_n 1, 1) := by decide +kernel
theorem dX0_hasShare_2 : decode cX0_hasShare 2 = .ok (.invokevirtual 32, 3) := by decide +kernel
theorem dX0_hasShare_5 : decode cX0_hasShare 5 = .ok (.iconst (-1), 1) := by decide +kernel
theorem dX0_hasShare_6 : decode cX0_hasShare 6 = .ok (.if_icmp .eq 7, 3) := by decide +kernel
theorem dX0_hasShare_9 : decode cX0_hasShare 9 = .ok (.iconst 1, 1) := by decide +kernel
theorem dX0_hasShare_10 : decode cX0_hasShare 10 = .ok (.goto 4, 3) := by decide +kernel
theorem dX0_hasShare_13 : decode cX0_hasShare 13 = .ok (.iconst 0, 1) := by decide +kernel
theorem dX0_hasShare_14 : decode cX0_hasShare 14 = .ok (.ireturn, 1) := by decide +kernel
theorem dX0_setShare_0 : decode cX0_setShare 0 = .ok (.iload_n 1, 1) := by decide +kernel
theorem dX0_setShare_1 : decode cX0_setShare 1 = .ok (.iconst 1, 1) := by decide +kernel
theorem dX0_setShare_2 : decode cX0_setShare 2 = .ok (.if_icmp .lt 19, 3) := by decide +kernel
theorem dX0_setShare_5 : decode cX0_setShare 5 = .ok (.iload_n 1, 1) := by decide +kernel
theorem dX0_setShare_6 : decode cX0_setShare 6 = .ok (.aload_n 0, 1) := by decide +kernel
theorem dX0_setShare_7 : decode cX0_setShare 7 = .ok (.getfield 9, 3) := by decide +kernel
theorem dX0_setShare_10 : decode cX0_setShare 10 = .ok (.arraylength, 1) := by decide +kernel
theorem dX0_setShare_11 : decode cX0_setShare 11 = .ok (.if_icmp .ge 10, 3) := by decide +kernel
theorem dX0_setShare_14 : decode cX0_setShare 14 = .ok (.aload_n 0, 1) := by decide +kernel
theorem dX0_setShare_15 : decode cX0_setShare 15 = .ok (.getfield 9, 3) := by decide +kernel
theorem dX0_setShare_18 : decode cX0_setShare 18 = .ok (.iload_n 1, 1) := by decide +kernel
theorem dX0_setShare_19 : decode cX0_setShare 19 = .ok (.iload_n 2, 1) := by decide +kernel
theorem dX0_setShare_20 : decode cX0_setShare 20 = .ok (.iastore, 1) := by decide +kernel
theorem dX0_setShare_21 : decode cX0_setShare 21 = .ok (.return_, 1) := by decide +kernel
theorem dX0_holderSet_0 : decode cX0_holderSet 0 = .ok (.iconst 0, 1) := by decide +kernel
theorem dX0_holderSet_1 : decode cX0_holderSet 1 = .ok (.istore_n 1, 1) := by decide +kernel
theorem dX0_holderSet_2 : decode cX0_holderSet 2 = .ok (.iconst 1, 1) := by decide +kernel
theorem dX0_holderSet_3 : decode cX0_holderSet 3 = .ok (.istore_n 2, 1) := by decide +kernel
theorem dX0_holderSet_4 : decode cX0_holderSet 4 = .ok (.iload_n 2, 1) := by decide +kernel
theorem dX0_holderSet_5 : decode cX0_holderSet 5 = .ok (.aload_n 0, 1) := by decide +kernel
theorem dX0_holderSet_6 : decode cX0_holderSet 6 = .ok (.getfield 9, 3) := by decide +kernel
theorem dX0_holderSet_9 : decode cX0_holderSet 9 = .ok (.arraylength, 1) := by decide +kernel
theorem dX0_holderSet_10 : decode cX0_holderSet 10 = .ok (.if_icmp .ge 26, 3) := by decide +kernel
theorem dX0_holderSet_13 : decode cX0_holderSet 13 = .ok (.aload_n 0, 1) := by decide +kernel
theorem dX0_holderSet_14 : decode cX0_holderSet 14 = .ok (.getfield 9, 3) := by decide +kernel
theorem dX0_holderSet_17 : decode cX0_holderSet 17 = .ok (.iload_n 2, 1) := by decide +kernel
theorem dX0_holderSet_18 : decode cX0_holderSet 18 = .ok (.iaload, 1) := by decide +kernel
theorem dX0_holderSet_19 : decode cX0_holderSet 19 = .ok (.iconst (-1), 1) := by decide +kernel
theorem dX0_holderSet_20 : decode cX0_holderSet 20 = .ok (.if_icmp .eq 10, 3) := by decide +kernel
theorem dX0_holderSet_23 : decode cX0_holderSet 23 = .ok (.iload_n 1, 1) := by decide +kernel
theorem dX0_holderSet_24 : decode cX0_holderSet 24 = .ok (.iload_n 2, 1) := by decide +kernel
theorem dX0_holderSet_25 : decode cX0_holderSet 25 = .ok (.invokestatic 39, 3) := by decide +kernel
theorem dX0_holderSet_28 : decode cX0_holderSet 28 = .ok (.ior, 1) := by decide +kernel
theorem dX0_holderSet_29 : decode cX0_holderSet 29 = .ok (.istore_n 1, 1) := by decide +kernel
theorem dX0_holderSet_30 : decode cX0_holderSet 30 = .ok (.iinc 2 1, 3) := by decide +kernel
theorem dX0_holderSet_33 : decode cX0_holderSet 33 = .ok (.goto (-29), 3) := by decide +kernel
theorem dX0_holderSet_36 : decode cX0_holderSet 36 = .ok (.iload_n 1, 1) := by decide +kernel
theorem dX0_holderSet_37 : decode cX0_holderSet 37 = .ok (.ireturn, 1) := by decide +kernel
theorem dX0_shareCount_0 : decode cX0_shareCount 0 = .ok (.aload_n 0, 1) := by decide +kernel
theorem dX0_shareCount_1 : decode cX0_shareCount 1 = .ok (.invokevirtual 42, 3) := by decide +kernel
theorem dX0_shareCount_4 : decode cX0_shareCount 4 = .ok (.invokestatic 46, 3) := by decide +kernel
theorem dX0_shareCount_7 : decode cX0_shareCount 7 = .ok (.ireturn, 1) := by decide +kernel
theorem dX0_firstSet_0 : decode cX0_firstSet 0 = .ok (.iconst 0, 1) := by decide +kernel
theorem dX0_firstSet_1 : decode cX0_firstSet 1 = .ok (.istore_n 1, 1) := by decide +kernel
theorem dX0_firstSet_2 : decode cX0_firstSet 2 = .ok (.aload_n 0, 1) := by decide +kernel
theorem dX0_firstSet_3 : decode cX0_firstSet 3 = .ok (.getfield 25, 3) := by decide +kernel
theorem dX0_firstSet_6 : decode cX0_firstSet 6 = .ok (.iconst 1, 1) := by decide +kernel
theorem dX0_firstSet_7 : decode cX0_firstSet 7 = .ok (.iadd, 1) := by decide +kernel
theorem dX0_firstSet_8 : decode cX0_firstSet 8 = .ok (.istore_n 2, 1) := by decide +kernel
theorem dX0_firstSet_9 : decode cX0_firstSet 9 = .ok (.iconst 1, 1) := by decide +kernel
theorem dX0_firstSet_10 : decode cX0_firstSet 10 = .ok (.istore_n 3, 1) := by decide +kernel
theorem dX0_firstSet_11 : decode cX0_firstSet 11 = .ok (.iload_n 3, 1) := by decide +kernel
theorem dX0_firstSet_12 : decode cX0_firstSet 12 = .ok (.aload_n 0, 1) := by decide +kernel
theorem dX0_firstSet_13 : decode cX0_firstSet 13 = .ok (.getfield 9, 3) := by decide +kernel
theorem dX0_firstSet_16 : decode cX0_firstSet 16 = .ok (.arraylength, 1) := by decide +kernel
theorem dX0_firstSet_17 : decode cX0_firstSet 17 = .ok (.if_icmp .ge 33, 3) := by decide +kernel
theorem dX0_firstSet_20 : decode cX0_firstSet 20 = .ok (.iload_n 2, 1) := by decide +kernel
theorem dX0_firstSet_21 : decode cX0_firstSet 21 = .ok (.ifCond .le 29, 3) := by decide +kernel
theorem dX0_firstSet_24 : decode cX0_firstSet 24 = .ok (.aload_n 0, 1) := by decide +kernel
theorem dX0_firstSet_25 : decode cX0_firstSet 25 = .ok (.getfield 9, 3) := by decide +kernel
theorem dX0_firstSet_28 : decode cX0_firstSet 28 = .ok (.iload_n 3, 1) := by decide +kernel
theorem dX0_firstSet_29 : decode cX0_firstSet 29 = .ok (.iaload, 1) := by decide +kernel
theorem dX0_firstSet_30 : decode cX0_firstSet 30 = .ok (.iconst (-1), 1) := by decide +kernel
theorem dX0_firstSet_31 : decode cX0_firstSet 31 = .ok (.if_icmp .eq 13, 3) := by decide +kernel
theorem dX0_firstSet_34 : decode cX0_firstSet 34 = .ok (.iload_n 1, 1) := by decide +kernel
theorem dX0_firstSet_35 : decode cX0_firstSet 35 = .ok (.iload_n 3, 1) := by decide +kernel
theorem dX0_firstSet_36 : decode cX0_firstSet 36 = .ok (.invokestatic 39, 3) := by decide +kernel
theorem dX0_firstSet_39 : decode cX0_firstSet 39 = .ok (.ior, 1) := by decide +kernel
theorem dX0_firstSet_40 : decode cX0_firstSet 40 = .ok (.istore_n 1, 1) := by decide +kernel
theorem dX0_firstSet_41 : decode cX0_firstSet 41 = .ok (.iinc 2 (-1), 3) := by decide +kernel
theorem dX0_firstSet_44 : decode cX0_firstSet 44 = .ok (.iinc 3 1, 3) := by decide +kernel
theorem dX0_firstSet_47 : decode cX0_firstSet 47 = .ok (.goto (-36), 3) := by decide +kernel
theorem dX0_firstSet_50 : decode cX0_firstSet 50 = .ok (.iload_n 2, 1) := by decide +kernel
theorem dX0_firstSet_51 : decode cX0_firstSet 51 = .ok (.ifCond .ne 7, 3) := by decide +kernel
theorem dX0_firstSet_54 : decode cX0_firstSet 54 = .ok (.iload_n 1, 1) := by decide +kernel
theorem dX0_firstSet_55 : decode cX0_firstSet 55 = .ok (.goto 4, 3) := by decide +kernel
theorem dX0_firstSet_58 : decode cX0_firstSet 58 = .ok (.iconst 0, 1) := by decide +kernel
theorem dX0_firstSet_59 : decode cX0_firstSet 59 = .ok (.ireturn, 1) := by decide +kernel
theorem dX0_isThere_0 : decode cX0_isThere 0 = .ok (.aload_n 0, 1) := by decide +kernel
theorem dX0_isThere_1 : decode cX0_isThere 1 = .ok (.getfield 21, 3) := by decide +kernel
theorem dX0_isThere_4 : decode cX0_isThere 4 = .ok (.ifCond .eq 17, 3) := by decide +kernel
theorem dX0_isThere_7 : decode cX0_isThere 7 = .ok (.aload_n 0, 1) := by decide +kernel
theorem dX0_isThere_8 : decode cX0_isThere 8 = .ok (.invokevirtual 42, 3) := by decide +kernel
theorem dX0_isThere_11 : decode cX0_isThere 11 = .ok (.iload_n 1, 1) := by decide +kernel
theorem dX0_isThere_12 : decode cX0_isThere 12 = .ok (.iand, 1) := by decide +kernel
theorem dX0_isThere_13 : decode cX0_isThere 13 = .ok (.iload_n 1, 1) := by decide +kernel
theorem dX0_isThere_14 : decode cX0_isThere 14 = .ok (.if_icmp .ne 7, 3) := by decide +kernel
theorem dX0_isThere_17 : decode cX0_isThere 17 = .ok (.iconst 1, 1) := by decide +kernel
theorem dX0_isThere_18 : decode cX0_isThere 18 = .ok (.goto 4, 3) := by decide +kernel
theorem dX0_isThere_21 : decode cX0_isThere 21 = .ok (.iconst 0, 1) := by decide +kernel
theorem dX0_isThere_22 : decode cX0_isThere 22 = .ok (.ireturn, 1) := by decide +kernel
theorem dX0_isEnough_0 : decode cX0_isEnough 0 = .ok (.aload_n 0, 1) := by decide +kernel
theorem dX0_isEnough_1 : decode cX0_isEnough 1 = .ok (.iload_n 1, 1) := by decide +kernel
theorem dX0_isEnough_2 : decode cX0_isEnough 2 = .ok (.invokevirtual 51, 3) := by decide +kernel
theorem dX0_isEnough_5 : decode cX0_isEnough 5 = .ok (.ifCond .eq 18, 3) := by decide +kernel
theorem dX0_isEnough_8 : decode cX0_isEnough 8 = .ok (.iload_n 1, 1) := by decide +kernel
theorem dX0_isEnough_9 : decode cX0_isEnough 9 = .ok (.invokestatic 46, 3) := by decide +kernel
theorem dX0_isEnough_12 : decode cX0_isEnough 12 = .ok (.aload_n 0, 1) := by decide +kernel
theorem dX0_isEnough_13 : decode cX0_isEnough 13 = .ok (.getfield 25, 3) := by decide +kernel
theorem dX0_isEnough_16 : decode cX0_isEnough 16 = .ok (.if_icmp .le 7, 3) := by decide +kernel
theorem dX0_isEnough_19 : decode cX0_isEnough 19 = .ok (.iconst 1, 1) := by decide +kernel
theorem dX0_isEnough_20 : decode cX0_isEnough 20 = .ok (.goto 4, 3) := by decide +kernel
theorem dX0_isEnough_23 : decode cX0_isEnough 23 = .ok (.iconst 0, 1) := by decide +kernel
theorem dX0_isEnough_24 : decode cX0_isEnough 24 = .ok (.ireturn, 1) := by decide +kernel
theorem dX0_hasSeals_0 : decode cX0_hasSeals 0 = .ok (.aload_n 0, 1) := by decide +kernel
theorem dX0_hasSeals_1 : decode cX0_hasSeals 1 = .ok (.getfield 29, 3) := by decide +kernel
theorem dX0_hasSeals_4 : decode cX0_hasSeals 4 = .ok (.ifCond .le 7, 3) := by decide +kernel
theorem dX0_hasSeals_7 : decode cX0_hasSeals 7 = .ok (.iconst 1, 1) := by decide +kernel
theorem dX0_hasSeals_8 : decode cX0_hasSeals 8 = .ok (.goto 4, 3) := by decide +kernel
theorem dX0_hasSeals_11 : decode cX0_hasSeals 11 = .ok (.iconst 0, 1) := by decide +kernel
theorem dX0_hasSeals_12 : decode cX0_hasSeals 12 = .ok (.ireturn, 1) := by decide +kernel
theorem dX0_sealAt_0 : decode cX0_sealAt 0 = .ok (.iload_n 1, 1) := by decide +kernel
theorem dX0_sealAt_1 : decode cX0_sealAt 1 = .ok (.ifCond .lt 29, 3) := by decide +kernel
theorem dX0_sealAt_4 : decode cX0_sealAt 4 = .ok (.iload_n 1, 1) := by decide +kernel
theorem dX0_sealAt_5 : decode cX0_sealAt 5 = .ok (.aload_n 0, 1) := by decide +kernel
theorem dX0_sealAt_6 : decode cX0_sealAt 6 = .ok (.getfield 29, 3) := by decide +kernel
theorem dX0_sealAt_9 : decode cX0_sealAt 9 = .ok (.if_icmp .ge 21, 3) := by decide +kernel
theorem dX0_sealAt_12 : decode cX0_sealAt 12 = .ok (.iload_n 1, 1) := by decide +kernel
theorem dX0_sealAt_13 : decode cX0_sealAt 13 = .ok (.aload_n 0, 1) := by decide +kernel
theorem dX0_sealAt_14 : decode cX0_sealAt 14 = .ok (.getfield 15, 3) := by decide +kernel
theorem dX0_sealAt_17 : decode cX0_sealAt 17 = .ok (.arraylength, 1) := by decide +kernel
theorem dX0_sealAt_18 : decode cX0_sealAt 18 = .ok (.if_icmp .ge 12, 3) := by decide +kernel
theorem dX0_sealAt_21 : decode cX0_sealAt 21 = .ok (.aload_n 0, 1) := by decide +kernel
theorem dX0_sealAt_22 : decode cX0_sealAt 22 = .ok (.getfield 15, 3) := by decide +kernel
theorem dX0_sealAt_25 : decode cX0_sealAt 25 = .ok (.iload_n 1, 1) := by decide +kernel
theorem dX0_sealAt_26 : decode cX0_sealAt 26 = .ok (.iaload, 1) := by decide +kernel
theorem dX0_sealAt_27 : decode cX0_sealAt 27 = .ok (.goto 4, 3) := by decide +kernel
theorem dX0_sealAt_30 : decode cX0_sealAt 30 = .ok (.iconst (-1), 1) := by decide +kernel
theorem dX0_sealAt_31 : decode cX0_sealAt 31 = .ok (.ireturn, 1) := by decide +kernel
theorem dX0_setSeal_0 : decode cX0_setSeal 0 = .ok (.iload_n 1, 1) := by decide +kernel
theorem dX0_setSeal_1 : decode cX0_setSeal 1 = .ok (.ifCond .lt 27, 3) := by decide +kernel
theorem dX0_setSeal_4 : decode cX0_setSeal 4 = .ok (.iload_n 1, 1) := by decide +kernel
theorem dX0_setSeal_5 : decode cX0_setSeal 5 = .ok (.aload_n 0, 1) := by decide +kernel
theorem dX0_setSeal_6 : decode cX0_setSeal 6 = .ok (.getfield 29, 3) := by decide +kernel
theorem dX0_setSeal_9 : decode cX0_setSeal 9 = .ok (.if_icmp .ge 19, 3) := by decide +kernel
theorem dX0_setSeal_12 : decode cX0_setSeal 12 = .ok (.iload_n 1, 1) := by decide +kernel
theorem dX0_setSeal_13 : decode cX0_setSeal 13 = .ok (.aload_n 0, 1) := by decide +kernel
theorem dX0_setSeal_14 : decode cX0_setSeal 14 = .ok (.getfield 15, 3) := by decide +kernel
theorem dX0_setSeal_17 : decode cX0_setSeal 17 = .ok (.arraylength, 1) := by decide +kernel
theorem dX0_setSeal_18 : decode cX0_setSeal 18 = .ok (.if_icmp .ge 10, 3) := by decide +kernel
theorem dX0_setSeal_21 : decode cX0_setSeal 21 = .ok (.aload_n 0, 1) := by decide +kernel
theorem dX0_setSeal_22 : decode cX0_setSeal 22 = .ok (.getfield 15, 3) := by decide +kernel
theorem dX0_setSeal_25 : decode cX0_setSeal 25 = .ok (.iload_n 1, 1) := by decide +kernel
theorem dX0_setSeal_26 : decode cX0_setSeal 26 = .ok (.iload_n 2, 1) := by decide +kernel
theorem dX0_setSeal_27 : decode cX0_setSeal 27 = .ok (.iastore, 1) := by decide +kernel
theorem dX0_setSeal_28 : decode cX0_setSeal 28 = .ok (.return_, 1) := by decide +kernel
theorem dX0_addSeal_0 : decode cX0_addSeal 0 = .ok (.aload_n 0, 1) := by decide +kernel
theorem dX0_addSeal_1 : decode cX0_addSeal 1 = .ok (.getfield 29, 3) := by decide +kernel
theorem dX0_addSeal_4 : decode cX0_addSeal 4 = .ok (.ifCond .lt 35, 3) := by decide +kernel
theorem dX0_addSeal_7 : decode cX0_addSeal 7 = .ok (.aload_n 0, 1) := by decide +kernel
theorem dX0_addSeal_8 : decode cX0_addSeal 8 = .ok (.getfield 29, 3) := by decide +kernel
theorem dX0_addSeal_11 : decode cX0_addSeal 11 = .ok (.aload_n 0, 1) := by decide +kernel
theorem dX0_addSeal_12 : decode cX0_addSeal 12 = .ok (.getfield 15, 3) := by decide +kernel
theorem dX0_addSeal_15 : decode cX0_addSeal 15 = .ok (.arraylength, 1) := by decide +kernel
theorem dX0_addSeal_16 : decode cX0_addSeal 16 = .ok (.if_icmp .ge 23, 3) := by decide +kernel
theorem dX0_addSeal_19 : decode cX0_addSeal 19 = .ok (.aload_n 0, 1) := by decide +kernel
theorem dX0_addSeal_20 : decode cX0_addSeal 20 = .ok (.getfield 15, 3) := by decide +kernel
theorem dX0_addSeal_23 : decode cX0_addSeal 23 = .ok (.aload_n 0, 1) := by decide +kernel
theorem dX0_addSeal_24 : decode cX0_addSeal 24 = .ok (.getfield 29, 3) := by decide +kernel
theorem dX0_addSeal_27 : decode cX0_addSeal 27 = .ok (.iload_n 1, 1) := by decide +kernel
theorem dX0_addSeal_28 : decode cX0_addSeal 28 = .ok (.iastore, 1) := by decide +kernel
theorem dX0_addSeal_29 : decode cX0_addSeal 29 = .ok (.aload_n 0, 1) := by decide +kernel
theorem dX0_addSeal_30 : decode cX0_addSeal 30 = .ok (.dup, 1) := by decide +kernel
theorem dX0_addSeal_31 : decode cX0_addSeal 31 = .ok (.getfield 29, 3) := by decide +kernel
theorem dX0_addSeal_34 : decode cX0_addSeal 34 = .ok (.iconst 1, 1) := by decide +kernel
theorem dX0_addSeal_35 : decode cX0_addSeal 35 = .ok (.iadd, 1) := by decide +kernel
theorem dX0_addSeal_36 : decode cX0_addSeal 36 = .ok (.putfield 29, 3) := by decide +kernel
theorem dX0_addSeal_39 : decode cX0_addSeal 39 = .ok (.return_, 1) := by decide +kernel
theorem dX1_init_0 : decode cX1_init 0 = .ok (.aload_n 0, 1) := by decide +kernel
theorem dX1_init_1 : decode cX1_init 1 = .ok (.invokespecial 3, 3) := by decide +kernel
theorem dX1_init_4 : decode cX1_init 4 = .ok (.aload_n 0, 1) := by decide +kernel
theorem dX1_init_5 : decode cX1_init 5 = .ok (.iconst 3, 1) := by decide +kernel
theorem dX1_init_6 : decode cX1_init 6 = .ok (.invokevirtual 9, 3) := by decide +kernel
theorem dX1_init_9 : decode cX1_init 9 = .ok (.return_, 1) := by decide +kernel
theorem dX1_choose_0 : decode cX1_choose 0 = .ok (.iload_n 1, 1) := by decide +kernel
theorem dX1_choose_1 : decode cX1_choose 1 = .ok (.ifCond .lt 27, 3) := by decide +kernel
theorem dX1_choose_4 : decode cX1_choose 4 = .ok (.iload_n 1, 1) := by decide +kernel
theorem dX1_choose_5 : decode cX1_choose 5 = .ok (.getstatic 15, 3) := by decide +kernel
theorem dX1_choose_8 : decode cX1_choose 8 = .ok (.arraylength, 1) := by decide +kernel
theorem dX1_choose_9 : decode cX1_choose 9 = .ok (.if_icmp .ge 19, 3) := by decide +kernel
theorem dX1_choose_12 : decode cX1_choose 12 = .ok (.iload_n 1, 1) := by decide +kernel
theorem dX1_choose_13 : decode cX1_choose 13 = .ok (.getstatic 19, 3) := by decide +kernel
theorem dX1_choose_16 : decode cX1_choose 16 = .ok (.arraylength, 1) := by decide +kernel
theorem dX1_choose_17 : decode cX1_choose 17 = .ok (.if_icmp .ge 11, 3) := by decide +kernel
theorem dX1_choose_20 : decode cX1_choose 20 = .ok (.iload_n 1, 1) := by decide +kernel
theorem dX1_choose_21 : decode cX1_choose 21 = .ok (.getstatic 22, 3) := by decide +kernel
theorem dX1_choose_24 : decode cX1_choose 24 = .ok (.arraylength, 1) := by decide +kernel
theorem dX1_choose_25 : decode cX1_choose 25 = .ok (.if_icmp .lt 4, 3) := by decide +kernel
theorem dX1_choose_28 : decode cX1_choose 28 = .ok (.return_, 1) := by decide +kernel
theorem dX1_choose_29 : decode cX1_choose 29 = .ok (.aload_n 0, 1) := by decide +kernel
theorem dX1_choose_30 : decode cX1_choose 30 = .ok (.iload_n 1, 1) := by decide +kernel
theorem dX1_choose_31 : decode cX1_choose 31 = .ok (.putfield 25, 3) := by decide +kernel
theorem dX1_choose_34 : decode cX1_choose 34 = .ok (.aload_n 0, 1) := by decide +kernel
theorem dX1_choose_35 : decode cX1_choose 35 = .ok (.getstatic 15, 3) := by decide +kernel
theorem dX1_choose_38 : decode cX1_choose 38 = .ok (.iload_n 1, 1) := by decide +kernel
theorem dX1_choose_39 : decode cX1_choose 39 = .ok (.iaload, 1) := by decide +kernel
theorem dX1_choose_40 : decode cX1_choose 40 = .ok (.putfield 29, 3) := by decide +kernel
theorem dX1_choose_43 : decode cX1_choose 43 = .ok (.aload_n 0, 1) := by decide +kernel
theorem dX1_choose_44 : decode cX1_choose 44 = .ok (.getstatic 19, 3) := by decide +kernel
theorem dX1_choose_47 : decode cX1_choose 47 = .ok (.iload_n 1, 1) := by decide +kernel
theorem dX1_choose_48 : decode cX1_choose 48 = .ok (.iaload, 1) := by decide +kernel
theorem dX1_choose_49 : decode cX1_choose 49 = .ok (.putfield 32, 3) := by decide +kernel
theorem dX1_choose_52 : decode cX1_choose 52 = .ok (.aload_n 0, 1) := by decide +kernel
theorem dX1_choose_53 : decode cX1_choose 53 = .ok (.getstatic 22, 3) := by decide +kernel
theorem dX1_choose_56 : decode cX1_choose 56 = .ok (.iload_n 1, 1) := by decide +kernel
theorem dX1_choose_57 : decode cX1_choose 57 = .ok (.iaload, 1) := by decide +kernel
theorem dX1_choose_58 : decode cX1_choose 58 = .ok (.putfield 35, 3) := by decide +kernel
theorem dX1_choose_61 : decode cX1_choose 61 = .ok (.aload_n 0, 1) := by decide +kernel
theorem dX1_choose_62 : decode cX1_choose 62 = .ok (.bipush 7, 2) := by decide +kernel
theorem dX1_choose_64 : decode cX1_choose 64 = .ok (.aload_n 0, 1) := by decide +kernel
theorem dX1_choose_65 : decode cX1_choose 65 = .ok (.getfield 29, 3) := by decide +kernel
theorem dX1_choose_68 : decode cX1_choose 68 = .ok (.iconst 1, 1) := by decide +kernel
theorem dX1_choose_69 : decode cX1_choose 69 = .ok (.isub, 1) := by decide +kernel
theorem dX1_choose_70 : decode cX1_choose 70 = .ok (.invokestatic 38, 3) := by decide +kernel
theorem dX1_choose_73 : decode cX1_choose 73 = .ok (.putfield 44, 3) := by decide +kernel
theorem dX1_choose_76 : decode cX1_choose 76 = .ok (.return_, 1) := by decide +kernel
theorem dX1_raise_0 : decode cX1_raise 0 = .ok (.iload_n 3, 1) := by decide +kernel
theorem dX1_raise_1 : decode cX1_raise 1 = .ok (.ifCond .gt 5, 3) := by decide +kernel
theorem dX1_raise_4 : decode cX1_raise 4 = .ok (.iconst 0, 1) := by decide +kernel
theorem dX1_raise_5 : decode cX1_raise 5 = .ok (.ireturn, 1) := by decide +kernel
theorem dX1_raise_6 : decode cX1_raise 6 = .ok (.lconst 1, 1) := by decide +kernel
theorem dX1_raise_7 : decode cX1_raise 7 = .ok (.lstore 4, 2) := by decide +kernel
theorem dX1_raise_9 : decode cX1_raise 9 = .ok (.iload_n 0, 1) := by decide +kernel
theorem dX1_raise_10 : decode cX1_raise 10 = .ok (.i2l, 1) := by decide +kernel
theorem dX1_raise_11 : decode cX1_raise 11 = .ok (.lstore 6, 2) := by decide +kernel
theorem dX1_raise_13 : decode cX1_raise 13 = .ok (.lload_n 1, 1) := by decide +kernel
theorem dX1_raise_14 : decode cX1_raise 14 = .ok (.lstore 8, 2) := by decide +kernel
theorem dX1_raise_16 : decode cX1_raise 16 = .ok (.iconst 0, 1) := by decide +kernel
theorem dX1_raise_17 : decode cX1_raise 17 = .ok (.istore 10, 2) := by decide +kernel
theorem dX1_raise_19 : decode cX1_raise 19 = .ok (.iload 10, 2) := by decide +kernel
theorem dX1_raise_21 : decode cX1_raise 21 = .ok (.bipush 63, 2) := by decide +kernel
theorem dX1_raise_23 : decode cX1_raise 23 = .ok (.if_icmp .ge 51, 3) := by decide +kernel
theorem dX1_raise_26 : decode cX1_raise 26 = .ok (.lload 8, 2) := by decide +kernel
theorem dX1_raise_28 : decode cX1_raise 28 = .ok (.lconst 0, 1) := by decide +kernel
theorem dX1_raise_29 : decode cX1_raise 29 = .ok (.lcmp, 1) := by decide +kernel
theorem dX1_raise_30 : decode cX1_raise 30 = .ok (.ifCond .le 44, 3) := by decide +kernel
theorem dX1_raise_33 : decode cX1_raise 33 = .ok (.lload 8, 2) := by decide +kernel
theorem dX1_raise_35 : decode cX1_raise 35 = .ok (.lconst 1, 1) := by decide +kernel
theorem dX1_raise_36 : decode cX1_raise 36 = .ok (.land, 1) := by decide +kernel
theorem dX1_raise_37 : decode cX1_raise 37 = .ok (.lconst 1, 1) := by decide +kernel
theorem dX1_raise_38 : decode cX1_raise 38 = .ok (.lcmp, 1) := by decide +kernel
theorem dX1_raise_39 : decode cX1_raise 39 = .ok (.ifCond .ne 13, 3) := by decide +kernel
theorem dX1_raise_42 : decode cX1_raise 42 = .ok (.lload 4, 2) := by decide +kernel
theorem dX1_raise_44 : decode cX1_raise 44 = .ok (.lload 6, 2) := by decide +kernel
theorem dX1_raise_46 : decode cX1_raise 46 = .ok (.lmul, 1) := by decide +kernel
theorem dX1_raise_47 : decode cX1_raise 47 = .ok (.iload_n 3, 1) := by decide +kernel
theorem dX1_raise_48 : decode cX1_raise 48 = .ok (.i2l, 1) := by decide +kernel
theorem dX1_raise_49 : decode cX1_raise 49 = .ok (.lrem, 1) := by decide +kernel
theorem dX1_raise_50 : decode cX1_raise 50 = .ok (.lstore 4, 2) := by decide +kernel
theorem dX1_raise_52 : decode cX1_raise 52 = .ok (.lload 6, 2) := by decide +kernel
theorem dX1_raise_54 : decode cX1_raise 54 = .ok (.lload 6, 2) := by decide +kernel
theorem dX1_raise_56 : decode cX1_raise 56 = .ok (.lmul, 1) := by decide +kernel
theorem dX1_raise_57 : decode cX1_raise 57 = .ok (.iload_n 3, 1) := by decide +kernel
theorem dX1_raise_58 : decode cX1_raise 58 = .ok (.i2l, 1) := by decide +kernel
theorem dX1_raise_59 : decode cX1_raise 59 = .ok (.lrem, 1) := by decide +kernel
theorem dX1_raise_60 : decode cX1_raise 60 = .ok (.lstore 6, 2) := by decide +kernel
theorem dX1_raise_62 : decode cX1_raise 62 = .ok (.lload 8, 2) := by decide +kernel
theorem dX1_raise_64 : decode cX1_raise 64 = .ok (.iconst 1, 1) := by decide +kernel
theorem dX1_raise_65 : decode cX1_raise 65 = .ok (.lshr, 1) := by decide +kernel
theorem dX1_raise_66 : decode cX1_raise 66 = .ok (.lstore 8, 2) := by decide +kernel
theorem dX1_raise_68 : decode cX1_raise 68 = .ok (.iinc 10 1, 3) := by decide +kernel
theorem dX1_raise_71 : decode cX1_raise 71 = .ok (.goto (-52), 3) := by decide +kernel
theorem dX1_raise_74 : decode cX1_raise 74 = .ok (.lload 4, 2) := by decide +kernel
theorem dX1_raise_76 : decode cX1_raise 76 = .ok (.l2i, 1) := by decide +kernel
theorem dX1_raise_77 : decode cX1_raise 77 = .ok (.ireturn, 1) := by decide +kernel
theorem dX1_modPrime_0 : decode cX1_modPrime 0 = .ok (.aload_n 0, 1) := by decide +kernel
theorem dX1_modPrime_1 : decode cX1_modPrime 1 = .ok (.getfield 29, 3) := by decide +kernel
theorem dX1_modPrime_4 : decode cX1_modPrime 4 = .ok (.ifCond .gt 5, 3) := by decide +kernel
theorem dX1_modPrime_7 : decode cX1_modPrime 7 = .ok (.iconst 0, 1) := by decide +kernel
theorem dX1_modPrime_8 : decode cX1_modPrime 8 = .ok (.ireturn, 1) := by decide +kernel
theorem dX1_modPrime_9 : decode cX1_modPrime 9 = .ok (.lload_n 1, 1) := by decide +kernel
theorem dX1_modPrime_10 : decode cX1_modPrime 10 = .ok (.aload_n 0, 1) := by decide +kernel
theorem dX1_modPrime_11 : decode cX1_modPrime 11 = .ok (.getfield 29, 3) := by decide +kernel
theorem dX1_modPrime_14 : decode cX1_modPrime 14 = .ok (.i2l, 1) := by decide +kernel
theorem dX1_modPrime_15 : decode cX1_modPrime 15 = .ok (.lrem, 1) := by decide +kernel
theorem dX1_modPrime_16 : decode cX1_modPrime 16 = .ok (.lstore_n 3, 1) := by decide +kernel
theorem dX1_modPrime_17 : decode cX1_modPrime 17 = .ok (.lload_n 3, 1) := by decide +kernel
theorem dX1_modPrime_18 : decode cX1_modPrime 18 = .ok (.lconst 0, 1) := by decide +kernel
theorem dX1_modPrime_19 : decode cX1_modPrime 19 = .ok (.lcmp, 1) := by decide +kernel
theorem dX1_modPrime_20 : decode cX1_modPrime 20 = .ok (.ifCond .ge 13, 3) := by decide +kernel
theorem dX1_modPrime_23 : decode cX1_modPrime 23 = .ok (.lload_n 3, 1) := by decide +kernel
theorem dX1_modPrime_24 : decode cX1_modPrime 24 = .ok (.aload_n 0, 1) := by decide +kernel
theorem dX1_modPrime_25 : decode cX1_modPrime 25 = .ok (.getfield 29, 3) := by decide +kernel
theorem dX1_modPrime_28 : decode cX1_modPrime 28 = .ok (.i2l, 1) := by decide +kernel
theorem dX1_modPrime_29 : decode cX1_modPrime 29 = .ok (.ladd, 1) := by decide +kernel
theorem dX1_modPrime_30 : decode cX1_modPrime 30 = .ok (.goto 4, 3) := by decide +kernel
theorem dX1_modPrime_33 : decode cX1_modPrime 33 = .ok (.lload_n 3, 1) := by decide +kernel
theorem dX1_modPrime_34 : decode cX1_modPrime 34 = .ok (.l2i, 1) := by decide +kernel
theorem dX1_modPrime_35 : decode cX1_modPrime 35 = .ok (.ireturn, 1) := by decide +kernel
theorem dX1_inverse_0 : decode cX1_inverse 0 = .ok (.iload_n 1, 1) := by decide +kernel
theorem dX1_inverse_1 : decode cX1_inverse 1 = .ok (.aload_n 0, 1) := by decide +kernel
theorem dX1_inverse_2 : decode cX1_inverse 2 = .ok (.getfield 29, 3) := by decide +kernel
theorem dX1_inverse_5 : decode cX1_inverse 5 = .ok (.iconst 2, 1) := by decide +kernel
theorem dX1_inverse_6 : decode cX1_inverse 6 = .ok (.isub, 1) := by decide +kernel
theorem dX1_inverse_7 : decode cX1_inverse 7 = .ok (.i2l, 1) := by decide +kernel
theorem dX1_inverse_8 : decode cX1_inverse 8 = .ok (.aload_n 0, 1) := by decide +kernel
theorem dX1_inverse_9 : decode cX1_inverse 9 = .ok (.getfield 29, 3) := by decide +kernel
theorem dX1_inverse_12 : decode cX1_inverse 12 = .ok (.invokestatic 47, 3) := by decide +kernel
theorem dX1_inverse_15 : decode cX1_inverse 15 = .ok (.ireturn, 1) := by decide +kernel
theorem dX1_inverseSeal_0 : decode cX1_inverseSeal 0 = .ok (.iload_n 1, 1) := by decide +kernel
theorem dX1_inverseSeal_1 : decode cX1_inverseSeal 1 = .ok (.aload_n 0, 1) := by decide +kernel
theorem dX1_inverseSeal_2 : decode cX1_inverseSeal 2 = .ok (.getfield 32, 3) := by decide +kernel
theorem dX1_inverseSeal_5 : decode cX1_inverseSeal 5 = .ok (.iconst 2, 1) := by decide +kernel
theorem dX1_inverseSeal_6 : decode cX1_inverseSeal 6 = .ok (.isub, 1) := by decide +kernel
theorem dX1_inverseSeal_7 : decode cX1_inverseSeal 7 = .ok (.i2l, 1) := by decide +kernel
theorem dX1_inverseSeal_8 : decode cX1_inverseSeal 8 = .ok (.aload_n 0, 1) := by decide +kernel
theorem dX1_inverseSeal_9 : decode cX1_inverseSeal 9 = .ok (.getfield 32, 3) := by decide +kernel
theorem dX1_inverseSeal_12 : decode cX1_inverseSeal 12 = .ok (.invokestatic 47, 3) := by decide +kernel
theorem dX1_inverseSeal_15 : decode cX1_inverseSeal 15 = .ok (.ireturn, 1) := by decide +kernel
theorem dX1_sealProduct_0 : decode cX1_sealProduct 0 = .ok (.aload_n 0, 1) := by decide +kernel
theorem dX1_sealProduct_1 : decode cX1_sealProduct 1 = .ok (.getfield 32, 3) := by decide +kernel
theorem dX1_sealProduct_4 : decode cX1_sealProduct 4 = .ok (.ifCond .gt 7, 3) := by decide +kernel
theorem dX1_sealProduct_7 : decode cX1_sealProduct 7 = .ok (.iconst 0, 1) := by decide +kernel
theorem dX1_sealProduct_8 : decode cX1_sealProduct 8 = .ok (.goto 15, 3) := by decide +kernel
theorem dX1_sealProduct_11 : decode cX1_sealProduct 11 = .ok (.iload_n 1, 1) := by decide +kernel
theorem dX1_sealProduct_12 : decode cX1_sealProduct 12 = .ok (.i2l, 1) := by decide +kernel
theorem dX1_sealProduct_13 : decode cX1_sealProduct 13 = .ok (.iload_n 2, 1) := by decide +kernel
theorem dX1_sealProduct_14 : decode cX1_sealProduct 14 = .ok (.i2l, 1) := by decide +kernel
theorem dX1_sealProduct_15 : decode cX1_sealProduct 15 = .ok (.lmul, 1) := by decide +kernel
theorem dX1_sealProduct_16 : decode cX1_sealProduct 16 = .ok (.aload_n 0, 1) := by decide +kernel
theorem dX1_sealProduct_17 : decode cX1_sealProduct 17 = .ok (.getfield 32, 3) := by decide +kernel
theorem dX1_sealProduct_20 : decode cX1_sealProduct 20 = .ok (.i2l, 1) := by decide +kernel
theorem dX1_sealProduct_21 : decode cX1_sealProduct 21 = .ok (.lrem, 1) := by decide +kernel
theorem dX1_sealProduct_22 : decode cX1_sealProduct 22 = .ok (.l2i, 1) := by decide +kernel
theorem dX1_sealProduct_23 : decode cX1_sealProduct 23 = .ok (.ireturn, 1) := by decide +kernel
theorem dX1_sealFor_0 : decode cX1_sealFor 0 = .ok (.aload_n 0, 1) := by decide +kernel
theorem dX1_sealFor_1 : decode cX1_sealFor 1 = .ok (.getfield 35, 3) := by decide +kernel
theorem dX1_sealFor_4 : decode cX1_sealFor 4 = .ok (.aload_n 0, 1) := by decide +kernel
theorem dX1_sealFor_5 : decode cX1_sealFor 5 = .ok (.iload_n 1, 1) := by decide +kernel
theorem dX1_sealFor_6 : decode cX1_sealFor 6 = .ok (.i2l, 1) := by decide +kernel
theorem dX1_sealFor_7 : decode cX1_sealFor 7 = .ok (.invokevirtual 51, 3) := by decide +kernel
theorem dX1_sealFor_10 : decode cX1_sealFor 10 = .ok (.i2l, 1) := by decide +kernel
theorem dX1_sealFor_11 : decode cX1_sealFor 11 = .ok (.aload_n 0, 1) := by decide +kernel
theorem dX1_sealFor_12 : decode cX1_sealFor 12 = .ok (.getfield 32, 3) := by decide +kernel
theorem dX1_sealFor_15 : decode cX1_sealFor 15 = .ok (.invokestatic 47, 3) := by decide +kernel
theorem dX1_sealFor_18 : decode cX1_sealFor 18 = .ok (.ireturn, 1) := by decide +kernel
theorem dX1_weightAt_0 : decode cX1_weightAt 0 = .ok (.aload_n 0, 1) := by decide +kernel
theorem dX1_weightAt_1 : decode cX1_weightAt 1 = .ok (.iload_n 3, 1) := by decide +kernel
theorem dX1_weightAt_2 : decode cX1_weightAt 2 = .ok (.i2l, 1) := by decide +kernel
theorem dX1_weightAt_3 : decode cX1_weightAt 3 = .ok (.invokevirtual 51, 3) := by decide +kernel
theorem dX1_weightAt_6 : decode cX1_weightAt 6 = .ok (.istore 4, 2) := by decide +kernel
theorem dX1_weightAt_8 : decode cX1_weightAt 8 = .ok (.iconst 1, 1) := by decide +kernel
theorem dX1_weightAt_9 : decode cX1_weightAt 9 = .ok (.istore 5, 2) := by decide +kernel
theorem dX1_weightAt_11 : decode cX1_weightAt 11 = .ok (.iconst 1, 1) := by decide +kernel
theorem dX1_weightAt_12 : decode cX1_weightAt 12 = .ok (.istore 6, 2) := by decide +kernel
theorem dX1_weightAt_14 : decode cX1_weightAt 14 = .ok (.iconst 1, 1) := by decide +kernel
theorem dX1_weightAt_15 : decode cX1_weightAt 15 = .ok (.istore 7, 2) := by decide +kernel
theorem dX1_weightAt_17 : decode cX1_weightAt 17 = .ok (.iload 7, 2) := by decide +kernel
theorem dX1_weightAt_19 : decode cX1_weightAt 19 = .ok (.aload_n 0, 1) := by decide +kernel
theorem dX1_weightAt_20 : decode cX1_weightAt 20 = .ok (.getfield 44, 3) := by decide +kernel
theorem dX1_weightAt_23 : decode cX1_weightAt 23 = .ok (.if_icmp .gt 55, 3) := by decide +kernel
theorem dX1_weightAt_26 : decode cX1_weightAt 26 = .ok (.iload 7, 2) := by decide +kernel
theorem dX1_weightAt_28 : decode cX1_weightAt 28 = .ok (.iload_n 2, 1) := by decide +kernel
theorem dX1_weightAt_29 : decode cX1_weightAt 29 = .ok (.if_icmp .eq 43, 3) := by decide +kernel
theorem dX1_weightAt_32 : decode cX1_weightAt 32 = .ok (.iload_n 1, 1) := by decide +kernel
theorem dX1_weightAt_33 : decode cX1_weightAt 33 = .ok (.iload 7, 2) := by decide +kernel
theorem dX1_weightAt_35 : decode cX1_weightAt 35 = .ok (.invokestatic 55, 3) := by decide +kernel
theorem dX1_weightAt_38 : decode cX1_weightAt 38 = .ok (.ifCond .eq 34, 3) := by decide +kernel
theorem dX1_weightAt_41 : decode cX1_weightAt 41 = .ok (.aload_n 0, 1) := by decide +kernel
theorem dX1_weightAt_42 : decode cX1_weightAt 42 = .ok (.iload 5, 2) := by decide +kernel
theorem dX1_weightAt_44 : decode cX1_weightAt 44 = .ok (.i2l, 1) := by decide +kernel
theorem dX1_weightAt_45 : decode cX1_weightAt 45 = .ok (.iload 4, 2) := by decide +kernel
theorem dX1_weightAt_47 : decode cX1_weightAt 47 = .ok (.iload 7, 2) := by decide +kernel
theorem dX1_weightAt_49 : decode cX1_weightAt 49 = .ok (.isub, 1) := by decide +kernel
theorem dX1_weightAt_50 : decode cX1_weightAt 50 = .ok (.i2l, 1) := by decide +kernel
theorem dX1_weightAt_51 : decode cX1_weightAt 51 = .ok (.lmul, 1) := by decide +kernel
theorem dX1_weightAt_52 : decode cX1_weightAt 52 = .ok (.invokevirtual 51, 3) := by decide +kernel
theorem dX1_weightAt_55 : decode cX1_weightAt 55 = .ok (.istore 5, 2) := by decide +kernel
theorem dX1_weightAt_57 : decode cX1_weightAt 57 = .ok (.aload_n 0, 1) := by decide +kernel
theorem dX1_weightAt_58 : decode cX1_weightAt 58 = .ok (.iload 6, 2) := by decide +kernel
theorem dX1_weightAt_60 : decode cX1_weightAt 60 = .ok (.i2l, 1) := by decide +kernel
theorem dX1_weightAt_61 : decode cX1_weightAt 61 = .ok (.iload_n 2, 1) := by decide +kernel
theorem dX1_weightAt_62 : decode cX1_weightAt 62 = .ok (.iload 7, 2) := by decide +kernel
theorem dX1_weightAt_64 : decode cX1_weightAt 64 = .ok (.isub, 1) := by decide +kernel
theorem dX1_weightAt_65 : decode cX1_weightAt 65 = .ok (.i2l, 1) := by decide +kernel
theorem dX1_weightAt_66 : decode cX1_weightAt 66 = .ok (.lmul, 1) := by decide +kernel
theorem dX1_weightAt_67 : decode cX1_weightAt 67 = .ok (.invokevirtual 51, 3) := by decide +kernel
theorem dX1_weightAt_70 : decode cX1_weightAt 70 = .ok (.istore 6, 2) := by decide +kernel
theorem dX1_weightAt_72 : decode cX1_weightAt 72 = .ok (.iinc 7 1, 3) := by decide +kernel
theorem dX1_weightAt_75 : decode cX1_weightAt 75 = .ok (.goto (-58), 3) := by decide +kernel
theorem dX1_weightAt_78 : decode cX1_weightAt 78 = .ok (.aload_n 0, 1) := by decide +kernel
theorem dX1_weightAt_79 : decode cX1_weightAt 79 = .ok (.iload 5, 2) := by decide +kernel
theorem dX1_weightAt_81 : decode cX1_weightAt 81 = .ok (.i2l, 1) := by decide +kernel
theorem dX1_weightAt_82 : decode cX1_weightAt 82 = .ok (.aload_n 0, 1) := by decide +kernel
theorem dX1_weightAt_83 : decode cX1_weightAt 83 = .ok (.iload 6, 2) := by decide +kernel
theorem dX1_weightAt_85 : decode cX1_weightAt 85 = .ok (.invokevirtual 59, 3) := by decide +kernel
theorem dX1_weightAt_88 : decode cX1_weightAt 88 = .ok (.i2l, 1) := by decide +kernel
theorem dX1_weightAt_89 : decode cX1_weightAt 89 = .ok (.lmul, 1) := by decide +kernel
theorem dX1_weightAt_90 : decode cX1_weightAt 90 = .ok (.invokevirtual 51, 3) := by decide +kernel
theorem dX1_weightAt_93 : decode cX1_weightAt 93 = .ok (.ireturn, 1) := by decide +kernel
theorem dX2_init_0 : decode cX2_init 0 = .ok (.aload_n 0, 1) := by decide +kernel
theorem dX2_init_1 : decode cX2_init 1 = .ok (.invokespecial 3, 3) := by decide +kernel
theorem dX2_init_4 : decode cX2_init 4 = .ok (.aload_n 0, 1) := by decide +kernel
theorem dX2_init_5 : decode cX2_init 5 = .ok (.bipush 7, 2) := by decide +kernel
theorem dX2_init_7 : decode cX2_init 7 = .ok (.newarray .int, 2) := by decide +kernel
theorem dX2_init_9 : decode cX2_init 9 = .ok (.putfield 9, 3) := by decide +kernel
theorem dX2_init_12 : decode cX2_init 12 = .ok (.aload_n 0, 1) := by decide +kernel
theorem dX2_init_13 : decode cX2_init 13 = .ok (.bipush 7, 2) := by decide +kernel
theorem dX2_init_15 : decode cX2_init 15 = .ok (.newarray .int, 2) := by decide +kernel
theorem dX2_init_17 : decode cX2_init 17 = .ok (.putfield 15, 3) := by decide +kernel
theorem dX2_init_20 : decode cX2_init 20 = .ok (.return_, 1) := by decide +kernel
theorem dX2_clear_0 : decode cX2_clear 0 = .ok (.iconst 0, 1) := by decide +kernel
theorem dX2_clear_1 : decode cX2_clear 1 = .ok (.istore_n 1, 1) := by decide +kernel
theorem dX2_clear_2 : decode cX2_clear 2 = .ok (.iload_n 1, 1) := by decide +kernel
theorem dX2_clear_3 : decode cX2_clear 3 = .ok (.aload_n 0, 1) := by decide +kernel
theorem dX2_clear_4 : decode cX2_clear 4 = .ok (.getfield 9, 3) := by decide +kernel
theorem dX2_clear_7 : decode cX2_clear 7 = .ok (.arraylength, 1) := by decide +kernel
theorem dX2_clear_8 : decode cX2_clear 8 = .ok (.if_icmp .ge 16, 3) := by decide +kernel
theorem dX2_clear_11 : decode cX2_clear 11 = .ok (.aload_n 0, 1) := by decide +kernel
theorem dX2_clear_12 : decode cX2_clear 12 = .ok (.getfield 9, 3) := by decide +kernel
theorem dX2_clear_15 : decode cX2_clear 15 = .ok (.iload_n 1, 1) := by decide +kernel
theorem dX2_clear_16 : decode cX2_clear 16 = .ok (.iconst 0, 1) := by decide +kernel
theorem dX2_clear_17 : decode cX2_clear 17 = .ok (.iastore, 1) := by decide +kernel
theorem dX2_clear_18 : decode cX2_clear 18 = .ok (.iinc 1 1, 3) := by decide +kernel
theorem dX2_clear_21 : decode cX2_clear 21 = .ok (.goto (-19), 3) := by decide +kernel
theorem dX2_clear_24 : decode cX2_clear 24 = .ok (.return_, 1) := by decide +kernel
theorem dX2_at_0 : decode cX2_at 0 = .ok (.iload_n 1, 1) := by decide +kernel
theorem dX2_at_1 : decode cX2_at 1 = .ok (.ifCond .lt 21, 3) := by decide +kernel
theorem dX2_at_4 : decode cX2_at 4 = .ok (.iload_n 1, 1) := by decide +kernel
theorem dX2_at_5 : decode cX2_at 5 = .ok (.aload_n 0, 1) := by decide +kernel
theorem dX2_at_6 : decode cX2_at 6 = .ok (.getfield 9, 3) := by decide +kernel
theorem dX2_at_9 : decode cX2_at 9 = .ok (.arraylength, 1) := by decide +kernel
theorem dX2_at_10 : decode cX2_at 10 = .ok (.if_icmp .ge 12, 3) := by decide +kernel
theorem dX2_at_13 : decode cX2_at 13 = .ok (.aload_n 0, 1) := by decide +kernel
theorem dX2_at_14 : decode cX2_at 14 = .ok (.getfield 9, 3) := by decide +kernel
theorem dX2_at_17 : decode cX2_at 17 = .ok (.iload_n 1, 1) := by decide +kernel
theorem dX2_at_18 : decode cX2_at 18 = .ok (.iaload, 1) := by decide +kernel
theorem dX2_at_19 : decode cX2_at 19 = .ok (.goto 4, 3) := by decide +kernel
theorem dX2_at_22 : decode cX2_at 22 = .ok (.iconst 0, 1) := by decide +kernel
theorem dX2_at_23 : decode cX2_at 23 = .ok (.ireturn, 1) := by decide +kernel
theorem dX2_addTo_0 : decode cX2_addTo 0 = .ok (.iload_n 2, 1) := by decide +kernel
theorem dX2_addTo_1 : decode cX2_addTo 1 = .ok (.ifCond .lt 36, 3) := by decide +kernel
theorem dX2_addTo_4 : decode cX2_addTo 4 = .ok (.iload_n 2, 1) := by decide +kernel
theorem dX2_addTo_5 : decode cX2_addTo 5 = .ok (.aload_n 0, 1) := by decide +kernel
theorem dX2_addTo_6 : decode cX2_addTo 6 = .ok (.getfield 9, 3) := by decide +kernel
theorem dX2_addTo_9 : decode cX2_addTo 9 = .ok (.arraylength, 1) := by decide +kernel
theorem dX2_addTo_10 : decode cX2_addTo 10 = .ok (.if_icmp .ge 27, 3) := by decide +kernel
theorem dX2_addTo_13 : decode cX2_addTo 13 = .ok (.aload_n 0, 1) := by decide +kernel
theorem dX2_addTo_14 : decode cX2_addTo 14 = .ok (.getfield 9, 3) := by decide +kernel
theorem dX2_addTo_17 : decode cX2_addTo 17 = .ok (.iload_n 2, 1) := by decide +kernel
theorem dX2_addTo_18 : decode cX2_addTo 18 = .ok (.aload_n 1, 1) := by decide +kernel
theorem dX2_addTo_19 : decode cX2_addTo 19 = .ok (.aload_n 0, 1) := by decide +kernel
theorem dX2_addTo_20 : decode cX2_addTo 20 = .ok (.getfield 9, 3) := by decide +kernel
theorem dX2_addTo_23 : decode cX2_addTo 23 = .ok (.iload_n 2, 1) := by decide +kernel
theorem dX2_addTo_24 : decode cX2_addTo 24 = .ok (.iaload, 1) := by decide +kernel
theorem dX2_addTo_25 : decode cX2_addTo 25 = .ok (.i2l, 1) := by decide +kernel
theorem dX2_addTo_26 : decode cX2_addTo 26 = .ok (.iload_n 3, 1) := by decide +kernel
theorem dX2_addTo_27 : decode cX2_addTo 27 = .ok (.i2l, 1) := by decide +kernel
theorem dX2_addTo_28 : decode cX2_addTo 28 = .ok (.iload 4, 2) := by decide +kernel
theorem dX2_addTo_30 : decode cX2_addTo 30 = .ok (.i2l, 1) := by decide +kernel
theorem dX2_addTo_31 : decode cX2_addTo 31 = .ok (.lmul, 1) := by decide +kernel
theorem dX2_addTo_32 : decode cX2_addTo 32 = .ok (.ladd, 1) := by decide +kernel
theorem dX2_addTo_33 : decode cX2_addTo 33 = .ok (.invokevirtual 18, 3) := by decide +kernel
theorem dX2_addTo_36 : decode cX2_addTo 36 = .ok (.iastore, 1) := by decide +kernel
theorem dX2_addTo_37 : decode cX2_addTo 37 = .ok (.return_, 1) := by decide +kernel
theorem dX2_become_0 : decode cX2_become 0 = .ok (.aload_n 0, 1) := by decide +kernel
theorem dX2_become_1 : decode cX2_become 1 = .ok (.invokevirtual 24, 3) := by decide +kernel
theorem dX2_become_4 : decode cX2_become 4 = .ok (.aload_n 0, 1) := by decide +kernel
theorem dX2_become_5 : decode cX2_become 5 = .ok (.aload_n 1, 1) := by decide +kernel
theorem dX2_become_6 : decode cX2_become 6 = .ok (.iconst 0, 1) := by decide +kernel
theorem dX2_become_7 : decode cX2_become 7 = .ok (.iconst 1, 1) := by decide +kernel
theorem dX2_become_8 : decode cX2_become 8 = .ok (.iload_n 3, 1) := by decide +kernel
theorem dX2_become_9 : decode cX2_become 9 = .ok (.invokevirtual 27, 3) := by decide +kernel
theorem dX2_become_12 : decode cX2_become 12 = .ok (.iload_n 2, 1) := by decide +kernel
theorem dX2_become_13 : decode cX2_become 13 = .ok (.iconst 1, 1) := by decide +kernel
theorem dX2_become_14 : decode cX2_become 14 = .ok (.if_icmp .lt 12, 3) := by decide +kernel
theorem dX2_become_17 : decode cX2_become 17 = .ok (.aload_n 0, 1) := by decide +kernel
theorem dX2_become_18 : decode cX2_become 18 = .ok (.aload_n 1, 1) := by decide +kernel
theorem dX2_become_19 : decode cX2_become 19 = .ok (.iconst 1, 1) := by decide +kernel
theorem dX2_become_20 : decode cX2_become 20 = .ok (.iconst 1, 1) := by decide +kernel
theorem dX2_become_21 : decode cX2_become 21 = .ok (.iload 4, 2) := by decide +kernel
theorem dX2_become_23 : decode cX2_become 23 = .ok (.invokevirtual 27, 3) := by decide +kernel
theorem dX2_become_26 : decode cX2_become 26 = .ok (.iload_n 2, 1) := by decide +kernel
theorem dX2_become_27 : decode cX2_become 27 = .ok (.iconst 2, 1) := by decide +kernel
theorem dX2_become_28 : decode cX2_become 28 = .ok (.if_icmp .lt 12, 3) := by decide +kernel
theorem dX2_become_31 : decode cX2_become 31 = .ok (.aload_n 0, 1) := by decide +kernel
theorem dX2_become_32 : decode cX2_become 32 = .ok (.aload_n 1, 1) := by decide +kernel
theorem dX2_become_33 : decode cX2_become 33 = .ok (.iconst 2, 1) := by decide +kernel
theorem dX2_become_34 : decode cX2_become 34 = .ok (.iconst 1, 1) := by decide +kernel
theorem dX2_become_35 : decode cX2_become 35 = .ok (.iload 5, 2) := by decide +kernel
theorem dX2_become_37 : decode cX2_become 37 = .ok (.invokevirtual 27, 3) := by decide +kernel
theorem dX2_become_40 : decode cX2_become 40 = .ok (.iload_n 2, 1) := by decide +kernel
theorem dX2_become_41 : decode cX2_become 41 = .ok (.iconst 3, 1) := by decide +kernel
theorem dX2_become_42 : decode cX2_become 42 = .ok (.if_icmp .lt 12, 3) := by decide +kernel
theorem dX2_become_45 : decode cX2_become 45 = .ok (.aload_n 0, 1) := by decide +kernel
theorem dX2_become_46 : decode cX2_become 46 = .ok (.aload_n 1, 1) := by decide +kernel
theorem dX2_become_47 : decode cX2_become 47 = .ok (.iconst 3, 1) := by decide +kernel
theorem dX2_become_48 : decode cX2_become 48 = .ok (.iconst 1, 1) := by decide +kernel
theorem dX2_become_49 : decode cX2_become 49 = .ok (.iload 6, 2) := by decide +kernel
theorem dX2_become_51 : decode cX2_become 51 = .ok (.invokevirtual 27, 3) := by decide +kernel
theorem dX2_become_54 : decode cX2_become 54 = .ok (.return_, 1) := by decide +kernel
theorem dX2_valueAt_0 : decode cX2_valueAt 0 = .ok (.iconst 0, 1) := by decide +kernel
theorem dX2_valueAt_1 : decode cX2_valueAt 1 = .ok (.istore_n 3, 1) := by decide +kernel
theorem dX2_valueAt_2 : decode cX2_valueAt 2 = .ok (.aload_n 0, 1) := by decide +kernel
theorem dX2_valueAt_3 : decode cX2_valueAt 3 = .ok (.getfield 9, 3) := by decide +kernel
theorem dX2_valueAt_6 : decode cX2_valueAt 6 = .ok (.arraylength, 1) := by decide +kernel
theorem dX2_valueAt_7 : decode cX2_valueAt 7 = .ok (.iconst 1, 1) := by decide +kernel
theorem dX2_valueAt_8 : decode cX2_valueAt 8 = .ok (.isub, 1) := by decide +kernel
theorem dX2_valueAt_9 : decode cX2_valueAt 9 = .ok (.istore 4, 2) := by decide +kernel
theorem dX2_valueAt_11 : decode cX2_valueAt 11 = .ok (.iload 4, 2) := by decide +kernel
theorem dX2_valueAt_13 : decode cX2_valueAt 13 = .ok (.ifCond .lt 28, 3) := by decide +kernel
theorem dX2_valueAt_16 : decode cX2_valueAt 16 = .ok (.aload_n 1, 1) := by decide +kernel
theorem dX2_valueAt_17 : decode cX2_valueAt 17 = .ok (.iload_n 3, 1) := by decide +kernel
theorem dX2_valueAt_18 : decode cX2_valueAt 18 = .ok (.i2l, 1) := by decide +kernel
theorem dX2_valueAt_19 : decode cX2_valueAt 19 = .ok (.iload_n 2, 1) := by decide +kernel
theorem dX2_valueAt_20 : decode cX2_valueAt 20 = .ok (.i2l, 1) := by decide +kernel
theorem dX2_valueAt_21 : decode cX2_valueAt 21 = .ok (.lmul, 1) := by decide +kernel
theorem dX2_valueAt_22 : decode cX2_valueAt 22 = .ok (.aload_n 0, 1) := by decide +kernel
theorem dX2_valueAt_23 : decode cX2_valueAt 23 = .ok (.getfield 9, 3) := by decide +kernel
theorem dX2_valueAt_26 : decode cX2_valueAt 26 = .ok (.iload 4, 2) := by decide +kernel
theorem dX2_valueAt_28 : decode cX2_valueAt 28 = .ok (.iaload, 1) := by decide +kernel
theorem dX2_valueAt_29 : decode cX2_valueAt 29 = .ok (.i2l, 1) := by decide +kernel
theorem dX2_valueAt_30 : decode cX2_valueAt 30 = .ok (.ladd, 1) := by decide +kernel
theorem dX2_valueAt_31 : decode cX2_valueAt 31 = .ok (.invokevirtual 18, 3) := by decide +kernel
theorem dX2_valueAt_34 : decode cX2_valueAt 34 = .ok (.istore_n 3, 1) := by decide +kernel
theorem dX2_valueAt_35 : decode cX2_valueAt 35 = .ok (.iinc 4 (-1), 3) := by decide +kernel
theorem dX2_valueAt_38 : decode cX2_valueAt 38 = .ok (.goto (-27), 3) := by decide +kernel
theorem dX2_valueAt_41 : decode cX2_valueAt 41 = .ok (.iload_n 3, 1) := by decide +kernel
theorem dX2_valueAt_42 : decode cX2_valueAt 42 = .ok (.ireturn, 1) := by decide +kernel
theorem dX2_highest_0 : decode cX2_highest 0 = .ok (.aload_n 0, 1) := by decide +kernel
theorem dX2_highest_1 : decode cX2_highest 1 = .ok (.getfield 9, 3) := by decide +kernel
theorem dX2_highest_4 : decode cX2_highest 4 = .ok (.arraylength, 1) := by decide +kernel
theorem dX2_highest_5 : decode cX2_highest 5 = .ok (.iconst 1, 1) := by decide +kernel
theorem dX2_highest_6 : decode cX2_highest 6 = .ok (.isub, 1) := by decide +kernel
theorem dX2_highest_7 : decode cX2_highest 7 = .ok (.istore_n 1, 1) := by decide +kernel
theorem dX2_highest_8 : decode cX2_highest 8 = .ok (.iload_n 1, 1) := by decide +kernel
theorem dX2_highest_9 : decode cX2_highest 9 = .ok (.ifCond .lt 20, 3) := by decide +kernel
theorem dX2_highest_12 : decode cX2_highest 12 = .ok (.aload_n 0, 1) := by decide +kernel
theorem dX2_highest_13 : decode cX2_highest 13 = .ok (.getfield 9, 3) := by decide +kernel
theorem dX2_highest_16 : decode cX2_highest 16 = .ok (.iload_n 1, 1) := by decide +kernel
theorem dX2_highest_17 : decode cX2_highest 17 = .ok (.iaload, 1) := by decide +kernel
theorem dX2_highest_18 : decode cX2_highest 18 = .ok (.ifCond .eq 5, 3) := by decide +kernel
theorem dX2_highest_21 : decode cX2_highest 21 = .ok (.iload_n 1, 1) := by decide +kernel
theorem dX2_highest_22 : decode cX2_highest 22 = .ok (.ireturn, 1) := by decide +kernel
theorem dX2_highest_23 : decode cX2_highest 23 = .ok (.iinc 1 (-1), 3) := by decide +kernel
theorem dX2_highest_26 : decode cX2_highest 26 = .ok (.goto (-18), 3) := by decide +kernel
theorem dX2_highest_29 : decode cX2_highest 29 = .ok (.iconst (-1), 1) := by decide +kernel
theorem dX2_highest_30 : decode cX2_highest 30 = .ok (.ireturn, 1) := by decide +kernel
theorem dX2_goThrough_0 : decode cX2_goThrough 0 = .ok (.aload_n 0, 1) := by decide +kernel
theorem dX2_goThrough_1 : decode cX2_goThrough 1 = .ok (.invokevirtual 24, 3) := by decide +kernel
theorem dX2_goThrough_4 : decode cX2_goThrough 4 = .ok (.iconst 1, 1) := by decide +kernel
theorem dX2_goThrough_5 : decode cX2_goThrough 5 = .ok (.istore 4, 2) := by decide +kernel
theorem dX2_goThrough_7 : decode cX2_goThrough 7 = .ok (.iload 4, 2) := by decide +kernel
theorem dX2_goThrough_9 : decode cX2_goThrough 9 = .ok (.aload_n 1, 1) := by decide +kernel
theorem dX2_goThrough_10 : decode cX2_goThrough 10 = .ok (.getfield 31, 3) := by decide +kernel
theorem dX2_goThrough_13 : decode cX2_goThrough 13 = .ok (.if_icmp .gt 56, 3) := by decide +kernel
theorem dX2_goThrough_16 : decode cX2_goThrough 16 = .ok (.iload_n 3, 1) := by decide +kernel
theorem dX2_goThrough_17 : decode cX2_goThrough 17 = .ok (.iload 4, 2) := by decide +kernel
theorem dX2_goThrough_19 : decode cX2_goThrough 19 = .ok (.invokestatic 35, 3) := by decide +kernel
theorem dX2_goThrough_22 : decode cX2_goThrough 22 = .ok (.ifCond .eq 41, 3) := by decide +kernel
theorem dX2_goThrough_25 : decode cX2_goThrough 25 = .ok (.aload_n 0, 1) := by decide +kernel
theorem dX2_goThrough_26 : decode cX2_goThrough 26 = .ok (.aload_n 1, 1) := by decide +kernel
theorem dX2_goThrough_27 : decode cX2_goThrough 27 = .ok (.iload_n 3, 1) := by decide +kernel
theorem dX2_goThrough_28 : decode cX2_goThrough 28 = .ok (.iload 4, 2) := by decide +kernel
theorem dX2_goThrough_30 : decode cX2_goThrough 30 = .ok (.invokevirtual 39, 3) := by decide +kernel
theorem dX2_goThrough_33 : decode cX2_goThrough 33 = .ok (.istore 5, 2) := by decide +kernel
theorem dX2_goThrough_35 : decode cX2_goThrough 35 = .ok (.aload_n 1, 1) := by decide +kernel
theorem dX2_goThrough_36 : decode cX2_goThrough 36 = .ok (.aload_n 2, 1) := by decide +kernel
theorem dX2_goThrough_37 : decode cX2_goThrough 37 = .ok (.iload 4, 2) := by decide +kernel
theorem dX2_goThrough_39 : decode cX2_goThrough 39 = .ok (.invokevirtual 43, 3) := by decide +kernel
theorem dX2_goThrough_42 : decode cX2_goThrough 42 = .ok (.i2l, 1) := by decide +kernel
theorem dX2_goThrough_43 : decode cX2_goThrough 43 = .ok (.aload_n 1, 1) := by decide +kernel
theorem dX2_goThrough_44 : decode cX2_goThrough 44 = .ok (.iload 5, 2) := by decide +kernel
theorem dX2_goThrough_46 : decode cX2_goThrough 46 = .ok (.invokevirtual 49, 3) := by decide +kernel
theorem dX2_goThrough_49 : decode cX2_goThrough 49 = .ok (.i2l, 1) := by decide +kernel
theorem dX2_goThrough_50 : decode cX2_goThrough 50 = .ok (.lmul, 1) := by decide +kernel
theorem dX2_goThrough_51 : decode cX2_goThrough 51 = .ok (.invokevirtual 18, 3) := by decide +kernel
theorem dX2_goThrough_54 : decode cX2_goThrough 54 = .ok (.istore 6, 2) := by decide +kernel
theorem dX2_goThrough_56 : decode cX2_goThrough 56 = .ok (.aload_n 0, 1) := by decide +kernel
theorem dX2_goThrough_57 : decode cX2_goThrough 57 = .ok (.aload_n 1, 1) := by decide +kernel
theorem dX2_goThrough_58 : decode cX2_goThrough 58 = .ok (.iload 6, 2) := by decide +kernel
theorem dX2_goThrough_60 : decode cX2_goThrough 60 = .ok (.invokevirtual 52, 3) := by decide +kernel
theorem dX2_goThrough_63 : decode cX2_goThrough 63 = .ok (.iinc 4 1, 3) := by decide +kernel
theorem dX2_goThrough_66 : decode cX2_goThrough 66 = .ok (.goto (-59), 3) := by decide +kernel
theorem dX2_goThrough_69 : decode cX2_goThrough 69 = .ok (.return_, 1) := by decide +kernel
theorem dX2_makeTerm_0 : decode cX2_makeTerm 0 = .ok (.iconst 1, 1) := by decide +kernel
theorem dX2_makeTerm_1 : decode cX2_makeTerm 1 = .ok (.istore 4, 2) := by decide +kernel
theorem dX2_makeTerm_3 : decode cX2_makeTerm 3 = .ok (.iconst 0, 1) := by decide +kernel
theorem dX2_makeTerm_4 : decode cX2_makeTerm 4 = .ok (.istore 5, 2) := by decide +kernel
theorem dX2_makeTerm_6 : decode cX2_makeTerm 6 = .ok (.iload 5, 2) := by decide +kernel
theorem dX2_makeTerm_8 : decode cX2_makeTerm 8 = .ok (.aload_n 0, 1) := by decide +kernel
theorem dX2_makeTerm_9 : decode cX2_makeTerm 9 = .ok (.getfield 15, 3) := by decide +kernel
theorem dX2_makeTerm_12 : decode cX2_makeTerm 12 = .ok (.arraylength, 1) := by decide +kernel
theorem dX2_makeTerm_13 : decode cX2_makeTerm 13 = .ok (.if_icmp .ge 26, 3) := by decide +kernel
theorem dX2_makeTerm_16 : decode cX2_makeTerm 16 = .ok (.aload_n 0, 1) := by decide +kernel
theorem dX2_makeTerm_17 : decode cX2_makeTerm 17 = .ok (.getfield 15, 3) := by decide +kernel
theorem dX2_makeTerm_20 : decode cX2_makeTerm 20 = .ok (.iload 5, 2) := by decide +kernel
theorem dX2_makeTerm_22 : decode cX2_makeTerm 22 = .ok (.iload 5, 2) := by decide +kernel
theorem dX2_makeTerm_24 : decode cX2_makeTerm 24 = .ok (.ifCond .ne 7, 3) := by decide +kernel
theorem dX2_makeTerm_27 : decode cX2_makeTerm 27 = .ok (.iconst 1, 1) := by decide +kernel
theorem dX2_makeTerm_28 : decode cX2_makeTerm 28 = .ok (.goto 4, 3) := by decide +kernel
theorem dX2_makeTerm_31 : decode cX2_makeTerm 31 = .ok (.iconst 0, 1) := by decide +kernel
theorem dX2_makeTerm_32 : decode cX2_makeTerm 32 = .ok (.iastore, 1) := by decide +kernel
theorem dX2_makeTerm_33 : decode cX2_makeTerm 33 = .ok (.iinc 5 1, 3) := by decide +kernel
theorem dX2_makeTerm_36 : decode cX2_makeTerm 36 = .ok (.goto (-30), 3) := by decide +kernel
theorem dX2_makeTerm_39 : decode cX2_makeTerm 39 = .ok (.iconst 1, 1) := by decide +kernel
theorem dX2_makeTerm_40 : decode cX2_makeTerm 40 = .ok (.istore 5, 2) := by decide +kernel
theorem dX2_makeTerm_42 : decode cX2_makeTerm 42 = .ok (.iload 5, 2) := by decide +kernel
theorem dX2_makeTerm_44 : decode cX2_makeTerm 44 = .ok (.aload_n 1, 1) := by decide +kernel
theorem dX2_makeTerm_45 : decode cX2_makeTerm 45 = .ok (.getfield 31, 3) := by decide +kernel
theorem dX2_makeTerm_48 : decode cX2_makeTerm 48 = .ok (.if_icmp .gt 106, 3) := by decide +kernel
theorem dX2_makeTerm_51 : decode cX2_makeTerm 51 = .ok (.iload 5, 2) := by decide +kernel
theorem dX2_makeTerm_53 : decode cX2_makeTerm 53 = .ok (.iload_n 3, 1) := by decide +kernel
theorem dX2_makeTerm_54 : decode cX2_makeTerm 54 = .ok (.if_icmp .eq 94, 3) := by decide +kernel
theorem dX2_makeTerm_57 : decode cX2_makeTerm 57 = .ok (.iload_n 2, 1) := by decide +kernel
theorem dX2_makeTerm_58 : decode cX2_makeTerm 58 = .ok (.iload 5, 2) := by decide +kernel
theorem dX2_makeTerm_60 : decode cX2_makeTerm 60 = .ok (.invokestatic 35, 3) := by decide +kernel
theorem dX2_makeTerm_63 : decode cX2_makeTerm 63 = .ok (.ifCond .eq 85, 3) := by decide +kernel
theorem dX2_makeTerm_66 : decode cX2_makeTerm 66 = .ok (.aload_n 0, 1) := by decide +kernel
theorem dX2_makeTerm_67 : decode cX2_makeTerm 67 = .ok (.getfield 15, 3) := by decide +kernel
theorem dX2_makeTerm_70 : decode cX2_makeTerm 70 = .ok (.arraylength, 1) := by decide +kernel
theorem dX2_makeTerm_71 : decode cX2_makeTerm 71 = .ok (.iconst 1, 1) := by decide +kernel
theorem dX2_makeTerm_72 : decode cX2_makeTerm 72 = .ok (.isub, 1) := by decide +kernel
theorem dX2_makeTerm_73 : decode cX2_makeTerm 73 = .ok (.istore 6, 2) := by decide +kernel
theorem dX2_makeTerm_75 : decode cX2_makeTerm 75 = .ok (.iload 6, 2) := by decide +kernel
theorem dX2_makeTerm_77 : decode cX2_makeTerm 77 = .ok (.ifCond .lt 56, 3) := by decide +kernel
theorem dX2_makeTerm_80 : decode cX2_makeTerm 80 = .ok (.iload 6, 2) := by decide +kernel
theorem dX2_makeTerm_82 : decode cX2_makeTerm 82 = .ok (.ifCond .le 15, 3) := by decide +kernel
theorem dX2_makeTerm_85 : decode cX2_makeTerm 85 = .ok (.aload_n 0, 1) := by decide +kernel
theorem dX2_makeTerm_86 : decode cX2_makeTerm 86 = .ok (.getfield 15, 3) := by decide +kernel
theorem dX2_makeTerm_89 : decode cX2_makeTerm 89 = .ok (.iload 6, 2) := by decide +kernel
theorem dX2_makeTerm_91 : decode cX2_makeTerm 91 = .ok (.iconst 1, 1) := by decide +kernel
theorem dX2_makeTerm_92 : decode cX2_makeTerm 92 = .ok (.isub, 1) := by decide +kernel
theorem dX2_makeTerm_93 : decode cX2_makeTerm 93 = .ok (.iaload, 1) := by decide +kernel
theorem dX2_makeTerm_94 : decode cX2_makeTerm 94 = .ok (.goto 4, 3) := by decide +kernel
theorem dX2_makeTerm_97 : decode cX2_makeTerm 97 = .ok (.iconst 0, 1) := by decide +kernel
theorem dX2_makeTerm_98 : decode cX2_makeTerm 98 = .ok (.istore 7, 2) := by decide +kernel
theorem dX2_makeTerm_100 : decode cX2_makeTerm 100 = .ok (.aload_n 0, 1) := by decide +kernel
theorem dX2_makeTerm_101 : decode cX2_makeTerm 101 = .ok (.getfield 15, 3) := by decide +kernel
theorem dX2_makeTerm_104 : decode cX2_makeTerm 104 = .ok (.iload 6, 2) := by decide +kernel
theorem dX2_makeTerm_106 : decode cX2_makeTerm 106 = .ok (.aload_n 1, 1) := by decide +kernel
theorem dX2_makeTerm_107 : decode cX2_makeTerm 107 = .ok (.iload 7, 2) := by decide +kernel
theorem dX2_makeTerm_109 : decode cX2_makeTerm 109 = .ok (.i2l, 1) := by decide +kernel
theorem dX2_makeTerm_110 : decode cX2_makeTerm 110 = .ok (.iload 5, 2) := by decide +kernel
theorem dX2_makeTerm_112 : decode cX2_makeTerm 112 = .ok (.i2l, 1) := by decide +kernel
theorem dX2_makeTerm_113 : decode cX2_makeTerm 113 = .ok (.aload_n 0, 1) := by decide +kernel
theorem dX2_makeTerm_114 : decode cX2_makeTerm 114 = .ok (.getfield 15, 3) := by decide +kernel
theorem dX2_makeTerm_117 : decode cX2_makeTerm 117 = .ok (.iload 6, 2) := by decide +kernel
theorem dX2_makeTerm_119 : decode cX2_makeTerm 119 = .ok (.iaload, 1) := by decide +kernel
theorem dX2_makeTerm_120 : decode cX2_makeTerm 120 = .ok (.i2l, 1) := by decide +kernel
theorem dX2_makeTerm_121 : decode cX2_makeTerm 121 = .ok (.lmul, 1) := by decide +kernel
theorem dX2_makeTerm_122 : decode cX2_makeTerm 122 = .ok (.lsub, 1) := by decide +kernel
theorem dX2_makeTerm_123 : decode cX2_makeTerm 123 = .ok (.invokevirtual 18, 3) := by decide +kernel
theorem dX2_makeTerm_126 : decode cX2_makeTerm 126 = .ok (.iastore, 1) := by decide +kernel
theorem dX2_makeTerm_127 : decode cX2_makeTerm 127 = .ok (.iinc 6 (-1), 3) := by decide +kernel
theorem dX2_makeTerm_130 : decode cX2_makeTerm 130 = .ok (.goto (-55), 3) := by decide +kernel
theorem dX2_makeTerm_133 : decode cX2_makeTerm 133 = .ok (.aload_n 1, 1) := by decide +kernel
theorem dX2_makeTerm_134 : decode cX2_makeTerm 134 = .ok (.iload 4, 2) := by decide +kernel
theorem dX2_makeTerm_136 : decode cX2_makeTerm 136 = .ok (.i2l, 1) := by decide +kernel
theorem dX2_makeTerm_137 : decode cX2_makeTerm 137 = .ok (.iload_n 3, 1) := by decide +kernel
theorem dX2_makeTerm_138 : decode cX2_makeTerm 138 = .ok (.iload 5, 2) := by decide +kernel
theorem dX2_makeTerm_140 : decode cX2_makeTerm 140 = .ok (.isub, 1) := by decide +kernel
theorem dX2_makeTerm_141 : decode cX2_makeTerm 141 = .ok (.i2l, 1) := by decide +kernel
theorem dX2_makeTerm_142 : decode cX2_makeTerm 142 = .ok (.lmul, 1) := by decide +kernel
theorem dX2_makeTerm_143 : decode cX2_makeTerm 143 = .ok (.invokevirtual 18, 3) := by decide +kernel
theorem dX2_makeTerm_146 : decode cX2_makeTerm 146 = .ok (.istore 4, 2) := by decide +kernel
theorem dX2_makeTerm_148 : decode cX2_makeTerm 148 = .ok (.iinc 5 1, 3) := by decide +kernel
theorem dX2_makeTerm_151 : decode cX2_makeTerm 151 = .ok (.goto (-109), 3) := by decide +kernel
theorem dX2_makeTerm_154 : decode cX2_makeTerm 154 = .ok (.iload 4, 2) := by decide +kernel
theorem dX2_makeTerm_156 : decode cX2_makeTerm 156 = .ok (.ireturn, 1) := by decide +kernel
theorem dX2_addTerm_0 : decode cX2_addTerm 0 = .ok (.iconst 0, 1) := by decide +kernel
theorem dX2_addTerm_1 : decode cX2_addTerm 1 = .ok (.istore_n 3, 1) := by decide +kernel
theorem dX2_addTerm_2 : decode cX2_addTerm 2 = .ok (.iload_n 3, 1) := by decide +kernel
theorem dX2_addTerm_3 : decode cX2_addTerm 3 = .ok (.aload_n 0, 1) := by decide +kernel
theorem dX2_addTerm_4 : decode cX2_addTerm 4 = .ok (.getfield 9, 3) := by decide +kernel
theorem dX2_addTerm_7 : decode cX2_addTerm 7 = .ok (.arraylength, 1) := by decide +kernel
theorem dX2_addTerm_8 : decode cX2_addTerm 8 = .ok (.if_icmp .ge 46, 3) := by decide +kernel
theorem dX2_addTerm_11 : decode cX2_addTerm 11 = .ok (.iload_n 3, 1) := by decide +kernel
theorem dX2_addTerm_12 : decode cX2_addTerm 12 = .ok (.aload_n 0, 1) := by decide +kernel
theorem dX2_addTerm_13 : decode cX2_addTerm 13 = .ok (.getfield 15, 3) := by decide +kernel
theorem dX2_addTerm_16 : decode cX2_addTerm 16 = .ok (.arraylength, 1) := by decide +kernel
theorem dX2_addTerm_17 : decode cX2_addTerm 17 = .ok (.if_icmp .ge 37, 3) := by decide +kernel
theorem dX2_addTerm_20 : decode cX2_addTerm 20 = .ok (.aload_n 0, 1) := by decide +kernel
theorem dX2_addTerm_21 : decode cX2_addTerm 21 = .ok (.getfield 9, 3) := by decide +kernel
theorem dX2_addTerm_24 : decode cX2_addTerm 24 = .ok (.iload_n 3, 1) := by decide +kernel
theorem dX2_addTerm_25 : decode cX2_addTerm 25 = .ok (.aload_n 1, 1) := by decide +kernel
theorem dX2_addTerm_26 : decode cX2_addTerm 26 = .ok (.aload_n 0, 1) := by decide +kernel
theorem dX2_addTerm_27 : decode cX2_addTerm 27 = .ok (.getfield 9, 3) := by decide +kernel
theorem dX2_addTerm_30 : decode cX2_addTerm 30 = .ok (.iload_n 3, 1) := by decide +kernel
theorem dX2_addTerm_31 : decode cX2_addTerm 31 = .ok (.iaload, 1) := by decide +kernel
theorem dX2_addTerm_32 : decode cX2_addTerm 32 = .ok (.i2l, 1) := by decide +kernel
theorem dX2_addTerm_33 : decode cX2_addTerm 33 = .ok (.iload_n 2, 1) := by decide +kernel
theorem dX2_addTerm_34 : decode cX2_addTerm 34 = .ok (.i2l, 1) := by decide +kernel
theorem dX2_addTerm_35 : decode cX2_addTerm 35 = .ok (.aload_n 0, 1) := by decide +kernel
theorem dX2_addTerm_36 : decode cX2_addTerm 36 = .ok (.getfield 15, 3) := by decide +kernel
theorem dX2_addTerm_39 : decode cX2_addTerm 39 = .ok (.iload_n 3, 1) := by decide +kernel
theorem dX2_addTerm_40 : decode cX2_addTerm 40 = .ok (.iaload, 1) := by decide +kernel
theorem dX2_addTerm_41 : decode cX2_addTerm 41 = .ok (.i2l, 1) := by decide +kernel
theorem dX2_addTerm_42 : decode cX2_addTerm 42 = .ok (.lmul, 1) := by decide +kernel
theorem dX2_addTerm_43 : decode cX2_addTerm 43 = .ok (.ladd, 1) := by decide +kernel
theorem dX2_addTerm_44 : decode cX2_addTerm 44 = .ok (.invokevirtual 18, 3) := by decide +kernel
theorem dX2_addTerm_47 : decode cX2_addTerm 47 = .ok (.iastore, 1) := by decide +kernel
theorem dX2_addTerm_48 : decode cX2_addTerm 48 = .ok (.iinc 3 1, 3) := by decide +kernel
theorem dX2_addTerm_51 : decode cX2_addTerm 51 = .ok (.goto (-49), 3) := by decide +kernel
theorem dX2_addTerm_54 : decode cX2_addTerm 54 = .ok (.return_, 1) := by decide +kernel
theorem dX3_init_0 : decode cX3_init 0 = .ok (.aload_n 0, 1) := by decide +kernel
theorem dX3_init_1 : decode cX3_init 1 = .ok (.invokespecial 1, 3) := by decide +kernel
theorem dX3_init_4 : decode cX3_init 4 = .ok (.aload_n 0, 1) := by decide +kernel
theorem dX3_init_5 : decode cX3_init 5 = .ok (.new 7, 3) := by decide +kernel
theorem dX3_init_8 : decode cX3_init 8 = .ok (.dup, 1) := by decide +kernel
theorem dX3_init_9 : decode cX3_init 9 = .ok (.invokespecial 9, 3) := by decide +kernel
theorem dX3_init_12 : decode cX3_init 12 = .ok (.putfield 10, 3) := by decide +kernel
theorem dX3_init_15 : decode cX3_init 15 = .ok (.aload_n 0, 1) := by decide +kernel
theorem dX3_init_16 : decode cX3_init 16 = .ok (.new 16, 3) := by decide +kernel
theorem dX3_init_19 : decode cX3_init 19 = .ok (.dup, 1) := by decide +kernel
theorem dX3_init_20 : decode cX3_init 20 = .ok (.invokespecial 18, 3) := by decide +kernel
theorem dX3_init_23 : decode cX3_init 23 = .ok (.putfield 19, 3) := by decide +kernel
theorem dX3_init_26 : decode cX3_init 26 = .ok (.aload_n 0, 1) := by decide +kernel
theorem dX3_init_27 : decode cX3_init 27 = .ok (.bipush 6, 2) := by decide +kernel
theorem dX3_init_29 : decode cX3_init 29 = .ok (.anewarray 23, 3) := by decide +kernel
theorem dX3_init_32 : decode cX3_init 32 = .ok (.putfield 25, 3) := by decide +kernel
theorem dX3_init_35 : decode cX3_init 35 = .ok (.iconst 0, 1) := by decide +kernel
theorem dX3_init_36 : decode cX3_init 36 = .ok (.istore_n 1, 1) := by decide +kernel
theorem dX3_init_37 : decode cX3_init 37 = .ok (.iload_n 1, 1) := by decide +kernel
theorem dX3_init_38 : decode cX3_init 38 = .ok (.aload_n 0, 1) := by decide +kernel
theorem dX3_init_39 : decode cX3_init 39 = .ok (.getfield 25, 3) := by decide +kernel
theorem dX3_init_42 : decode cX3_init 42 = .ok (.arraylength, 1) := by decide +kernel
theorem dX3_init_43 : decode cX3_init 43 = .ok (.if_icmp .ge 22, 3) := by decide +kernel
theorem dX3_init_46 : decode cX3_init 46 = .ok (.aload_n 0, 1) := by decide +kernel
theorem dX3_init_47 : decode cX3_init 47 = .ok (.getfield 25, 3) := by decide +kernel
theorem dX3_init_50 : decode cX3_init 50 = .ok (.iload_n 1, 1) := by decide +kernel
theorem dX3_init_51 : decode cX3_init 51 = .ok (.new 23, 3) := by decide +kernel
theorem dX3_init_54 : decode cX3_init 54 = .ok (.dup, 1) := by decide +kernel
theorem dX3_init_55 : decode cX3_init 55 = .ok (.invokespecial 29, 3) := by decide +kernel
theorem dX3_init_58 : decode cX3_init 58 = .ok (.aastore, 1) := by decide +kernel
theorem dX3_init_59 : decode cX3_init 59 = .ok (.iinc 1 1, 3) := by decide +kernel
theorem dX3_init_62 : decode cX3_init 62 = .ok (.goto (-25), 3) := by decide +kernel
theorem dX3_init_65 : decode cX3_init 65 = .ok (.aload_n 0, 1) := by decide +kernel
theorem dX3_init_66 : decode cX3_init 66 = .ok (.new 23, 3) := by decide +kernel
theorem dX3_init_69 : decode cX3_init 69 = .ok (.dup, 1) := by decide +kernel
theorem dX3_init_70 : decode cX3_init 70 = .ok (.invokespecial 29, 3) := by decide +kernel
theorem dX3_init_73 : decode cX3_init 73 = .ok (.putfield 30, 3) := by decide +kernel
theorem dX3_init_76 : decode cX3_init 76 = .ok (.aload_n 0, 1) := by decide +kernel
theorem dX3_init_77 : decode cX3_init 77 = .ok (.iconst 0, 1) := by decide +kernel
theorem dX3_init_78 : decode cX3_init 78 = .ok (.putfield 34, 3) := by decide +kernel
theorem dX3_init_81 : decode cX3_init 81 = .ok (.return_, 1) := by decide +kernel
theorem dX3_prime_0 : decode cX3_prime 0 = .ok (.iload_n 1, 1) := by decide +kernel
theorem dX3_prime_1 : decode cX3_prime 1 = .ok (.ifCond .lt 11, 3) := by decide +kernel
theorem dX3_prime_4 : decode cX3_prime 4 = .ok (.iload_n 1, 1) := by decide +kernel
theorem dX3_prime_5 : decode cX3_prime 5 = .ok (.getstatic 38, 3) := by decide +kernel
theorem dX3_prime_8 : decode cX3_prime 8 = .ok (.arraylength, 1) := by decide +kernel
theorem dX3_prime_9 : decode cX3_prime 9 = .ok (.if_icmp .lt 13, 3) := by decide +kernel
theorem dX3_prime_12 : decode cX3_prime 12 = .ok (.new 42, 3) := by decide +kernel
theorem dX3_prime_15 : decode cX3_prime 15 = .ok (.dup, 1) := by decide +kernel
theorem dX3_prime_16 : decode cX3_prime 16 = .ok (.ldc 44, 2) := by decide +kernel
theorem dX3_prime_18 : decode cX3_prime 18 = .ok (.invokespecial 46, 3) := by decide +kernel
theorem dX3_prime_21 : decode cX3_prime 21 = .ok (.athrow, 1) := by decide +kernel
theorem dX3_prime_22 : decode cX3_prime 22 = .ok (.aload_n 0, 1) := by decide +kernel
theorem dX3_prime_23 : decode cX3_prime 23 = .ok (.getfield 10, 3) := by decide +kernel
theorem dX3_prime_26 : decode cX3_prime 26 = .ok (.getfield 49, 3) := by decide +kernel
theorem dX3_prime_29 : decode cX3_prime 29 = .ok (.istore_n 2, 1) := by decide +kernel
theorem dX3_prime_30 : decode cX3_prime 30 = .ok (.aload_n 0, 1) := by decide +kernel
theorem dX3_prime_31 : decode cX3_prime 31 = .ok (.getfield 10, 3) := by decide +kernel
theorem dX3_prime_34 : decode cX3_prime 34 = .ok (.iload_n 1, 1) := by decide +kernel
theorem dX3_prime_35 : decode cX3_prime 35 = .ok (.invokevirtual 52, 3) := by decide +kernel
theorem dX3_prime_38 : decode cX3_prime 38 = .ok (.iconst 0, 1) := by decide +kernel
theorem dX3_prime_39 : decode cX3_prime 39 = .ok (.istore_n 3, 1) := by decide +kernel
theorem dX3_prime_40 : decode cX3_prime 40 = .ok (.iload_n 3, 1) := by decide +kernel
theorem dX3_prime_41 : decode cX3_prime 41 = .ok (.aload_n 0, 1) := by decide +kernel
theorem dX3_prime_42 : decode cX3_prime 42 = .ok (.getfield 25, 3) := by decide +kernel
theorem dX3_prime_45 : decode cX3_prime 45 = .ok (.arraylength, 1) := by decide +kernel
theorem dX3_prime_46 : decode cX3_prime 46 = .ok (.if_icmp .ge 18, 3) := by decide +kernel
theorem dX3_prime_49 : decode cX3_prime 49 = .ok (.aload_n 0, 1) := by decide +kernel
theorem dX3_prime_50 : decode cX3_prime 50 = .ok (.getfield 25, 3) := by decide +kernel
theorem dX3_prime_53 : decode cX3_prime 53 = .ok (.iload_n 3, 1) := by decide +kernel
theorem dX3_prime_54 : decode cX3_prime 54 = .ok (.aaload, 1) := by decide +kernel
theorem dX3_prime_55 : decode cX3_prime 55 = .ok (.invokevirtual 56, 3) := by decide +kernel
theorem dX3_prime_58 : decode cX3_prime 58 = .ok (.iinc 3 1, 3) := by decide +kernel
theorem dX3_prime_61 : decode cX3_prime 61 = .ok (.goto (-21), 3) := by decide +kernel
theorem dX3_prime_64 : decode cX3_prime 64 = .ok (.iload_n 2, 1) := by decide +kernel
theorem dX3_prime_65 : decode cX3_prime 65 = .ok (.ireturn, 1) := by decide +kernel
theorem dX3_rest_0 : decode cX3_rest 0 = .ok (.aload_n 0, 1) := by decide +kernel
theorem dX3_rest_1 : decode cX3_rest 1 = .ok (.getfield 10, 3) := by decide +kernel
theorem dX3_rest_4 : decode cX3_rest 4 = .ok (.iload_n 1, 1) := by decide +kernel
theorem dX3_rest_5 : decode cX3_rest 5 = .ok (.i2l, 1) := by decide +kernel
theorem dX3_rest_6 : decode cX3_rest 6 = .ok (.invokevirtual 59, 3) := by decide +kernel
theorem dX3_rest_9 : decode cX3_rest 9 = .ok (.ireturn, 1) := by decide +kernel
theorem dX3_reckon_0 : decode cX3_reckon 0 = .ok (.iload_n 3, 1) := by decide +kernel
theorem dX3_reckon_1 : decode cX3_reckon 1 = .ok (.tableswitch 93 0 3 #[31, 44, 57, 70], 31) := by decide +kernel
theorem dX3_reckon_32 : decode cX3_reckon 32 = .ok (.aload_n 0, 1) := by decide +kernel
theorem dX3_reckon_33 : decode cX3_reckon 33 = .ok (.getfield 10, 3) := by decide +kernel
theorem dX3_reckon_36 : decode cX3_reckon 36 = .ok (.iload_n 1, 1) := by decide +kernel
theorem dX3_reckon_37 : decode cX3_reckon 37 = .ok (.i2l, 1) := by decide +kernel
theorem dX3_reckon_38 : decode cX3_reckon 38 = .ok (.iload_n 2, 1) := by decide +kernel
theorem dX3_reckon_39 : decode cX3_reckon 39 = .ok (.i2l, 1) := by decide +kernel
theorem dX3_reckon_40 : decode cX3_reckon 40 = .ok (.ladd, 1) := by decide +kernel
theorem dX3_reckon_41 : decode cX3_reckon 41 = .ok (.invokevirtual 59, 3) := by decide +kernel
theorem dX3_reckon_44 : decode cX3_reckon 44 = .ok (.ireturn, 1) := by decide +kernel
theorem dX3_reckon_45 : decode cX3_reckon 45 = .ok (.aload_n 0, 1) := by decide +kernel
theorem dX3_reckon_46 : decode cX3_reckon 46 = .ok (.getfield 10, 3) := by decide +kernel
theorem dX3_reckon_49 : decode cX3_reckon 49 = .ok (.iload_n 1, 1) := by decide +kernel
theorem dX3_reckon_50 : decode cX3_reckon 50 = .ok (.i2l, 1) := by decide +kernel
theorem dX3_reckon_51 : decode cX3_reckon 51 = .ok (.iload_n 2, 1) := by decide +kernel
theorem dX3_reckon_52 : decode cX3_reckon 52 = .ok (.i2l, 1) := by decide +kernel
theorem dX3_reckon_53 : decode cX3_reckon 53 = .ok (.lsub, 1) := by decide +kernel
theorem dX3_reckon_54 : decode cX3_reckon 54 = .ok (.invokevirtual 59, 3) := by decide +kernel
theorem dX3_reckon_57 : decode cX3_reckon 57 = .ok (.ireturn, 1) := by decide +kernel
theorem dX3_reckon_58 : decode cX3_reckon 58 = .ok (.aload_n 0, 1) := by decide +kernel
theorem dX3_reckon_59 : decode cX3_reckon 59 = .ok (.getfield 10, 3) := by decide +kernel
theorem dX3_reckon_62 : decode cX3_reckon 62 = .ok (.iload_n 1, 1) := by decide +kernel
theorem dX3_reckon_63 : decode cX3_reckon 63 = .ok (.i2l, 1) := by decide +kernel
theorem dX3_reckon_64 : decode cX3_reckon 64 = .ok (.iload_n 2, 1) := by decide +kernel
theorem dX3_reckon_65 : decode cX3_reckon 65 = .ok (.i2l, 1) := by decide +kernel
theorem dX3_reckon_66 : decode cX3_reckon 66 = .ok (.lmul, 1) := by decide +kernel
theorem dX3_reckon_67 : decode cX3_reckon 67 = .ok (.invokevirtual 59, 3) := by decide +kernel
theorem dX3_reckon_70 : decode cX3_reckon 70 = .ok (.ireturn, 1) := by decide +kernel
theorem dX3_reckon_71 : decode cX3_reckon 71 = .ok (.aload_n 0, 1) := by decide +kernel
theorem dX3_reckon_72 : decode cX3_reckon 72 = .ok (.aload_n 0, 1) := by decide +kernel
theorem dX3_reckon_73 : decode cX3_reckon 73 = .ok (.getfield 10, 3) := by decide +kernel
theorem dX3_reckon_76 : decode cX3_reckon 76 = .ok (.iload_n 1, 1) := by decide +kernel
theorem dX3_reckon_77 : decode cX3_reckon 77 = .ok (.i2l, 1) := by decide +kernel
theorem dX3_reckon_78 : decode cX3_reckon 78 = .ok (.invokevirtual 59, 3) := by decide +kernel
theorem dX3_reckon_81 : decode cX3_reckon 81 = .ok (.aload_n 0, 1) := by decide +kernel
theorem dX3_reckon_82 : decode cX3_reckon 82 = .ok (.getfield 10, 3) := by decide +kernel
theorem dX3_reckon_85 : decode cX3_reckon 85 = .ok (.iload_n 2, 1) := by decide +kernel
theorem dX3_reckon_86 : decode cX3_reckon 86 = .ok (.i2l, 1) := by decide +kernel
theorem dX3_reckon_87 : decode cX3_reckon 87 = .ok (.invokevirtual 59, 3) := by decide +kernel
theorem dX3_reckon_90 : decode cX3_reckon 90 = .ok (.invokevirtual 63, 3) := by decide +kernel
theorem dX3_reckon_93 : decode cX3_reckon 93 = .ok (.ireturn, 1) := by decide +kernel
theorem dX3_reckon_94 : decode cX3_reckon 94 = .ok (.new 42, 3) := by decide +kernel
theorem dX3_reckon_97 : decode cX3_reckon 97 = .ok (.dup, 1) := by decide +kernel
theorem dX3_reckon_98 : decode cX3_reckon 98 = .ok (.ldc 67, 2) := by decide +kernel
theorem dX3_reckon_100 : decode cX3_reckon 100 = .ok (.invokespecial 46, 3) := by decide +kernel
theorem dX3_reckon_103 : decode cX3_reckon 103 = .ok (.athrow, 1) := by decide +kernel
theorem dX3_reciprocal_0 : decode cX3_reciprocal 0 = .ok (.aload_n 0, 1) := by decide +kernel
theorem dX3_reciprocal_1 : decode cX3_reciprocal 1 = .ok (.iconst 1, 1) := by decide +kernel
theorem dX3_reciprocal_2 : decode cX3_reciprocal 2 = .ok (.aload_n 0, 1) := by decide +kernel
theorem dX3_reciprocal_3 : decode cX3_reciprocal 3 = .ok (.getfield 10, 3) := by decide +kernel
theorem dX3_reciprocal_6 : decode cX3_reciprocal 6 = .ok (.iload_n 1, 1) := by decide +kernel
theorem dX3_reciprocal_7 : decode cX3_reciprocal 7 = .ok (.i2l, 1) := by decide +kernel
theorem dX3_reciprocal_8 : decode cX3_reciprocal 8 = .ok (.invokevirtual 59, 3) := by decide +kernel
theorem dX3_reciprocal_11 : decode cX3_reciprocal 11 = .ok (.invokevirtual 63, 3) := by decide +kernel
theorem dX3_reciprocal_14 : decode cX3_reciprocal 14 = .ok (.ireturn, 1) := by decide +kernel
theorem dX3_power_0 : decode cX3_power 0 = .ok (.aload_n 0, 1) := by decide +kernel
theorem dX3_power_1 : decode cX3_power 1 = .ok (.getfield 10, 3) := by decide +kernel
theorem dX3_power_4 : decode cX3_power 4 = .ok (.iload_n 1, 1) := by decide +kernel
theorem dX3_power_5 : decode cX3_power 5 = .ok (.i2l, 1) := by decide +kernel
theorem dX3_power_6 : decode cX3_power 6 = .ok (.invokevirtual 59, 3) := by decide +kernel
theorem dX3_power_9 : decode cX3_power 9 = .ok (.istore_n 3, 1) := by decide +kernel
theorem dX3_power_10 : decode cX3_power 10 = .ok (.iload_n 2, 1) := by decide +kernel
theorem dX3_power_11 : decode cX3_power 11 = .ok (.ifCond .lt 17, 3) := by decide +kernel
theorem dX3_power_14 : decode cX3_power 14 = .ok (.iload_n 3, 1) := by decide +kernel
theorem dX3_power_15 : decode cX3_power 15 = .ok (.iload_n 2, 1) := by decide +kernel
theorem dX3_power_16 : decode cX3_power 16 = .ok (.i2l, 1) := by decide +kernel
theorem dX3_power_17 : decode cX3_power 17 = .ok (.aload_n 0, 1) := by decide +kernel
theorem dX3_power_18 : decode cX3_power 18 = .ok (.getfield 10, 3) := by decide +kernel
theorem dX3_power_21 : decode cX3_power 21 = .ok (.getfield 49, 3) := by decide +kernel
theorem dX3_power_24 : decode cX3_power 24 = .ok (.invokestatic 69, 3) := by decide +kernel
theorem dX3_power_27 : decode cX3_power 27 = .ok (.ireturn, 1) := by decide +kernel
theorem dX3_power_28 : decode cX3_power 28 = .ok (.aload_n 0, 1) := by decide +kernel
theorem dX3_power_29 : decode cX3_power 29 = .ok (.iconst 1, 1) := by decide +kernel
theorem dX3_power_30 : decode cX3_power 30 = .ok (.iload_n 3, 1) := by decide +kernel
theorem dX3_power_31 : decode cX3_power 31 = .ok (.invokevirtual 63, 3) := by decide +kernel
theorem dX3_power_34 : decode cX3_power 34 = .ok (.istore 4, 2) := by decide +kernel
theorem dX3_power_36 : decode cX3_power 36 = .ok (.iload 4, 2) := by decide +kernel
theorem dX3_power_38 : decode cX3_power 38 = .ok (.bipush (-9), 2) := by decide +kernel
theorem dX3_power_40 : decode cX3_power 40 = .ok (.if_icmp .ne 8, 3) := by decide +kernel
theorem dX3_power_43 : decode cX3_power 43 = .ok (.bipush (-9), 2) := by decide +kernel
theorem dX3_power_45 : decode cX3_power 45 = .ok (.goto 18, 3) := by decide +kernel
theorem dX3_power_48 : decode cX3_power 48 = .ok (.iload 4, 2) := by decide +kernel
theorem dX3_power_50 : decode cX3_power 50 = .ok (.iload_n 2, 1) := by decide +kernel
theorem dX3_power_51 : decode cX3_power 51 = .ok (.i2l, 1) := by decide +kernel
theorem dX3_power_52 : decode cX3_power 52 = .ok (.lneg, 1) := by decide +kernel
theorem dX3_power_53 : decode cX3_power 53 = .ok (.aload_n 0, 1) := by decide +kernel
theorem dX3_power_54 : decode cX3_power 54 = .ok (.getfield 10, 3) := by decide +kernel
theorem dX3_power_57 : decode cX3_power 57 = .ok (.getfield 49, 3) := by decide +kernel
theorem dX3_power_60 : decode cX3_power 60 = .ok (.invokestatic 69, 3) := by decide +kernel
theorem dX3_power_63 : decode cX3_power 63 = .ok (.ireturn, 1) := by decide +kernel
theorem dX3_sealOf_0 : decode cX3_sealOf 0 = .ok (.aload_n 0, 1) := by decide +kernel
theorem dX3_sealOf_1 : decode cX3_sealOf 1 = .ok (.getfield 10, 3) := by decide +kernel
theorem dX3_sealOf_4 : decode cX3_sealOf 4 = .ok (.iload_n 1, 1) := by decide +kernel
theorem dX3_sealOf_5 : decode cX3_sealOf 5 = .ok (.invokevirtual 73, 3) := by decide +kernel
theorem dX3_sealOf_8 : decode cX3_sealOf 8 = .ok (.ireturn, 1) := by decide +kernel
theorem dX3_weights_0 : decode cX3_weights 0 = .ok (.aload_n 0, 1) := by decide +kernel
theorem dX3_weights_1 : decode cX3_weights 1 = .ok (.iload_n 1, 1) := by decide +kernel
theorem dX3_weights_2 : decode cX3_weights 2 = .ok (.invokevirtual 80, 3) := by decide +kernel
theorem dX3_weights_5 : decode cX3_weights 5 = .ok (.aload_n 0, 1) := by decide +kernel
theorem dX3_weights_6 : decode cX3_weights 6 = .ok (.iload_n 1, 1) := by decide +kernel
theorem dX3_weights_7 : decode cX3_weights 7 = .ok (.iload_n 2, 1) := by decide +kernel
theorem dX3_weights_8 : decode cX3_weights 8 = .ok (.invokevirtual 91, 3) := by decide +kernel
theorem dX3_weights_11 : decode cX3_weights 11 = .ok (.ireturn, 1) := by decide +kernel
theorem dX3_hide_0 : decode cX3_hide 0 = .ok (.aload_n 0, 1) := by decide +kernel
theorem dX3_hide_1 : decode cX3_hide 1 = .ok (.iload_n 1, 1) := by decide +kernel
theorem dX3_hide_2 : decode cX3_hide 2 = .ok (.invokevirtual 94, 3) := by decide +kernel
theorem dX3_hide_5 : decode cX3_hide 5 = .ok (.astore 7, 2) := by decide +kernel
theorem dX3_hide_7 : decode cX3_hide 7 = .ok (.iload_n 2, 1) := by decide +kernel
theorem dX3_hide_8 : decode cX3_hide 8 = .ok (.invokestatic 98, 3) := by decide +kernel
theorem dX3_hide_11 : decode cX3_hide 11 = .ok (.aload_n 0, 1) := by decide +kernel
theorem dX3_hide_12 : decode cX3_hide 12 = .ok (.getfield 19, 3) := by decide +kernel
theorem dX3_hide_15 : decode cX3_hide 15 = .ok (.aload_n 0, 1) := by decide +kernel
theorem dX3_hide_16 : decode cX3_hide 16 = .ok (.getfield 10, 3) := by decide +kernel
theorem dX3_hide_19 : decode cX3_hide 19 = .ok (.iload_n 2, 1) := by decide +kernel
theorem dX3_hide_20 : decode cX3_hide 20 = .ok (.iload_n 3, 1) := by decide +kernel
theorem dX3_hide_21 : decode cX3_hide 21 = .ok (.iload 4, 2) := by decide +kernel
theorem dX3_hide_23 : decode cX3_hide 23 = .ok (.iload 5, 2) := by decide +kernel
theorem dX3_hide_25 : decode cX3_hide 25 = .ok (.iload 6, 2) := by decide +kernel
theorem dX3_hide_27 : decode cX3_hide 27 = .ok (.invokevirtual 101, 3) := by decide +kernel
theorem dX3_hide_30 : decode cX3_hide 30 = .ok (.aload_n 0, 1) := by decide +kernel
theorem dX3_hide_31 : decode cX3_hide 31 = .ok (.aload 7, 2) := by decide +kernel
theorem dX3_hide_33 : decode cX3_hide 33 = .ok (.iload_n 2, 1) := by decide +kernel
theorem dX3_hide_34 : decode cX3_hide 34 = .ok (.invokevirtual 105, 3) := by decide +kernel
theorem dX3_hide_37 : decode cX3_hide 37 = .ok (.ireturn, 1) := by decide +kernel
theorem dX3_pour_0 : decode cX3_pour 0 = .ok (.aload_n 0, 1) := by decide +kernel
theorem dX3_pour_1 : decode cX3_pour 1 = .ok (.iload_n 1, 1) := by decide +kernel
theorem dX3_pour_2 : decode cX3_pour 2 = .ok (.invokevirtual 94, 3) := by decide +kernel
theorem dX3_pour_5 : decode cX3_pour 5 = .ok (.astore 6, 2) := by decide +kernel
theorem dX3_pour_7 : decode cX3_pour 7 = .ok (.aload 6, 2) := by decide +kernel
theorem dX3_pour_9 : decode cX3_pour 9 = .ok (.invokevirtual 109, 3) := by decide +kernel
theorem dX3_pour_12 : decode cX3_pour 12 = .ok (.ifCond .eq 6, 3) := by decide +kernel
theorem dX3_pour_15 : decode cX3_pour 15 = .ok (.bipush (-9), 2) := by decide +kernel
theorem dX3_pour_17 : decode cX3_pour 17 = .ok (.ireturn, 1) := by decide +kernel
theorem dX3_pour_18 : decode cX3_pour 18 = .ok (.aload_n 0, 1) := by decide +kernel
theorem dX3_pour_19 : decode cX3_pour 19 = .ok (.getfield 19, 3) := by decide +kernel
theorem dX3_pour_22 : decode cX3_pour 22 = .ok (.aload_n 0, 1) := by decide +kernel
theorem dX3_pour_23 : decode cX3_pour 23 = .ok (.getfield 10, 3) := by decide +kernel
theorem dX3_pour_26 : decode cX3_pour 26 = .ok (.aload 6, 2) := by decide +kernel
theorem dX3_pour_28 : decode cX3_pour 28 = .ok (.getfield 113, 3) := by decide +kernel
theorem dX3_pour_31 : decode cX3_pour 31 = .ok (.iload_n 2, 1) := by decide +kernel
theorem dX3_pour_32 : decode cX3_pour 32 = .ok (.iload_n 3, 1) := by decide +kernel
theorem dX3_pour_33 : decode cX3_pour 33 = .ok (.iload 4, 2) := by decide +kernel
theorem dX3_pour_35 : decode cX3_pour 35 = .ok (.iload 5, 2) := by decide +kernel
theorem dX3_pour_37 : decode cX3_pour 37 = .ok (.invokevirtual 101, 3) := by decide +kernel
theorem dX3_pour_40 : decode cX3_pour 40 = .ok (.iconst 1, 1) := by decide +kernel
theorem dX3_pour_41 : decode cX3_pour 41 = .ok (.istore 7, 2) := by decide +kernel
theorem dX3_pour_43 : decode cX3_pour 43 = .ok (.iload 7, 2) := by decide +kernel
theorem dX3_pour_45 : decode cX3_pour 45 = .ok (.aload_n 0, 1) := by decide +kernel
theorem dX3_pour_46 : decode cX3_pour 46 = .ok (.getfield 10, 3) := by decide +kernel
theorem dX3_pour_49 : decode cX3_pour 49 = .ok (.getfield 116, 3) := by decide +kernel
theorem dX3_pour_52 : decode cX3_pour 52 = .ok (.if_icmp .gt 60, 3) := by decide +kernel
theorem dX3_pour_55 : decode cX3_pour 55 = .ok (.aload 6, 2) := by decide +kernel
theorem dX3_pour_57 : decode cX3_pour 57 = .ok (.iload 7, 2) := by decide +kernel
theorem dX3_pour_59 : decode cX3_pour 59 = .ok (.invokevirtual 119, 3) := by decide +kernel
theorem dX3_pour_62 : decode cX3_pour 62 = .ok (.ifCond .eq 44, 3) := by decide +kernel
theorem dX3_pour_65 : decode cX3_pour 65 = .ok (.aload 6, 2) := by decide +kernel
theorem dX3_pour_67 : decode cX3_pour 67 = .ok (.iload 7, 2) := by decide +kernel
theorem dX3_pour_69 : decode cX3_pour 69 = .ok (.invokevirtual 123, 3) := by decide +kernel
theorem dX3_pour_72 : decode cX3_pour 72 = .ok (.i2l, 1) := by decide +kernel
theorem dX3_pour_73 : decode cX3_pour 73 = .ok (.aload_n 0, 1) := by decide +kernel
theorem dX3_pour_74 : decode cX3_pour 74 = .ok (.getfield 19, 3) := by decide +kernel
theorem dX3_pour_77 : decode cX3_pour 77 = .ok (.aload_n 0, 1) := by decide +kernel
theorem dX3_pour_78 : decode cX3_pour 78 = .ok (.getfield 10, 3) := by decide +kernel
theorem dX3_pour_81 : decode cX3_pour 81 = .ok (.iload 7, 2) := by decide +kernel
theorem dX3_pour_83 : decode cX3_pour 83 = .ok (.invokevirtual 126, 3) := by decide +kernel
theorem dX3_pour_86 : decode cX3_pour 86 = .ok (.i2l, 1) := by decide +kernel
theorem dX3_pour_87 : decode cX3_pour 87 = .ok (.ladd, 1) := by decide +kernel
theorem dX3_pour_88 : decode cX3_pour 88 = .ok (.lstore 8, 2) := by decide +kernel
theorem dX3_pour_90 : decode cX3_pour 90 = .ok (.aload 6, 2) := by decide +kernel
theorem dX3_pour_92 : decode cX3_pour 92 = .ok (.iload 7, 2) := by decide +kernel
theorem dX3_pour_94 : decode cX3_pour 94 = .ok (.aload_n 0, 1) := by decide +kernel
theorem dX3_pour_95 : decode cX3_pour 95 = .ok (.getfield 10, 3) := by decide +kernel
theorem dX3_pour_98 : decode cX3_pour 98 = .ok (.lload 8, 2) := by decide +kernel
theorem dX3_pour_100 : decode cX3_pour 100 = .ok (.invokevirtual 59, 3) := by decide +kernel
theorem dX3_pour_103 : decode cX3_pour 103 = .ok (.invokevirtual 130, 3) := by decide +kernel
theorem dX3_pour_106 : decode cX3_pour 106 = .ok (.iinc 7 1, 3) := by decide +kernel
theorem dX3_pour_109 : decode cX3_pour 109 = .ok (.goto (-66), 3) := by decide +kernel
theorem dX3_pour_112 : decode cX3_pour 112 = .ok (.iconst 0, 1) := by decide +kernel
theorem dX3_pour_113 : decode cX3_pour 113 = .ok (.istore 7, 2) := by decide +kernel
theorem dX3_pour_115 : decode cX3_pour 115 = .ok (.iload 7, 2) := by decide +kernel
theorem dX3_pour_117 : decode cX3_pour 117 = .ok (.aload 6, 2) := by decide +kernel
theorem dX3_pour_119 : decode cX3_pour 119 = .ok (.getfield 134, 3) := by decide +kernel
theorem dX3_pour_122 : decode cX3_pour 122 = .ok (.if_icmp .ge 46, 3) := by decide +kernel
theorem dX3_pour_125 : decode cX3_pour 125 = .ok (.aload 6, 2) := by decide +kernel
theorem dX3_pour_127 : decode cX3_pour 127 = .ok (.iload 7, 2) := by decide +kernel
theorem dX3_pour_129 : decode cX3_pour 129 = .ok (.aload_n 0, 1) := by decide +kernel
theorem dX3_pour_130 : decode cX3_pour 130 = .ok (.getfield 10, 3) := by decide +kernel
theorem dX3_pour_133 : decode cX3_pour 133 = .ok (.aload 6, 2) := by decide +kernel
theorem dX3_pour_135 : decode cX3_pour 135 = .ok (.iload 7, 2) := by decide +kernel
theorem dX3_pour_137 : decode cX3_pour 137 = .ok (.invokevirtual 137, 3) := by decide +kernel
theorem dX3_pour_140 : decode cX3_pour 140 = .ok (.aload_n 0, 1) := by decide +kernel
theorem dX3_pour_141 : decode cX3_pour 141 = .ok (.getfield 10, 3) := by decide +kernel
theorem dX3_pour_144 : decode cX3_pour 144 = .ok (.aload_n 0, 1) := by decide +kernel
theorem dX3_pour_145 : decode cX3_pour 145 = .ok (.getfield 19, 3) := by decide +kernel
theorem dX3_pour_148 : decode cX3_pour 148 = .ok (.iload 7, 2) := by decide +kernel
theorem dX3_pour_150 : decode cX3_pour 150 = .ok (.invokevirtual 140, 3) := by decide +kernel
theorem dX3_pour_153 : decode cX3_pour 153 = .ok (.invokevirtual 73, 3) := by decide +kernel
theorem dX3_pour_156 : decode cX3_pour 156 = .ok (.invokevirtual 143, 3) := by decide +kernel
theorem dX3_pour_159 : decode cX3_pour 159 = .ok (.invokevirtual 146, 3) := by decide +kernel
theorem dX3_pour_162 : decode cX3_pour 162 = .ok (.iinc 7 1, 3) := by decide +kernel
theorem dX3_pour_165 : decode cX3_pour 165 = .ok (.goto (-50), 3) := by decide +kernel
theorem dX3_pour_168 : decode cX3_pour 168 = .ok (.aload 6, 2) := by decide +kernel
theorem dX3_pour_170 : decode cX3_pour 170 = .ok (.invokevirtual 149, 3) := by decide +kernel
theorem dX3_pour_173 : decode cX3_pour 173 = .ok (.ireturn, 1) := by decide +kernel
theorem dX3_plus_0 : decode cX3_plus 0 = .ok (.aload_n 0, 1) := by decide +kernel
theorem dX3_plus_1 : decode cX3_plus 1 = .ok (.aload_n 0, 1) := by decide +kernel
theorem dX3_plus_2 : decode cX3_plus 2 = .ok (.iload_n 1, 1) := by decide +kernel
theorem dX3_plus_3 : decode cX3_plus 3 = .ok (.invokevirtual 94, 3) := by decide +kernel
theorem dX3_plus_6 : decode cX3_plus 6 = .ok (.aload_n 0, 1) := by decide +kernel
theorem dX3_plus_7 : decode cX3_plus 7 = .ok (.iload_n 2, 1) := by decide +kernel
theorem dX3_plus_8 : decode cX3_plus 8 = .ok (.invokevirtual 94, 3) := by decide +kernel
theorem dX3_plus_11 : decode cX3_plus 11 = .ok (.aload_n 0, 1) := by decide +kernel
theorem dX3_plus_12 : decode cX3_plus 12 = .ok (.iload_n 3, 1) := by decide +kernel
theorem dX3_plus_13 : decode cX3_plus 13 = .ok (.invokevirtual 94, 3) := by decide +kernel
theorem dX3_plus_16 : decode cX3_plus 16 = .ok (.iconst 0, 1) := by decide +kernel
theorem dX3_plus_17 : decode cX3_plus 17 = .ok (.invokevirtual 153, 3) := by decide +kernel
theorem dX3_plus_20 : decode cX3_plus 20 = .ok (.ireturn, 1) := by decide +kernel
theorem dX3_less_0 : decode cX3_less 0 = .ok (.aload_n 0, 1) := by decide +kernel
theorem dX3_less_1 : decode cX3_less 1 = .ok (.aload_n 0, 1) := by decide +kernel
theorem dX3_less_2 : decode cX3_less 2 = .ok (.iload_n 1, 1) := by decide +kernel
theorem dX3_less_3 : decode cX3_less 3 = .ok (.invokevirtual 94, 3) := by decide +kernel
theorem dX3_less_6 : decode cX3_less 6 = .ok (.aload_n 0, 1) := by decide +kernel
theorem dX3_less_7 : decode cX3_less 7 = .ok (.iload_n 2, 1) := by decide +kernel
theorem dX3_less_8 : decode cX3_less 8 = .ok (.invokevirtual 94, 3) := by decide +kernel
theorem dX3_less_11 : decode cX3_less 11 = .ok (.aload_n 0, 1) := by decide +kernel
theorem dX3_less_12 : decode cX3_less 12 = .ok (.iload_n 3, 1) := by decide +kernel
theorem dX3_less_13 : decode cX3_less 13 = .ok (.invokevirtual 94, 3) := by decide +kernel
theorem dX3_less_16 : decode cX3_less 16 = .ok (.iconst 1, 1) := by decide +kernel
theorem dX3_less_17 : decode cX3_less 17 = .ok (.invokevirtual 153, 3) := by decide +kernel
theorem dX3_less_20 : decode cX3_less 20 = .ok (.ireturn, 1) := by decide +kernel
theorem dX3_times_0 : decode cX3_times 0 = .ok (.aload_n 0, 1) := by decide +kernel
theorem dX3_times_1 : decode cX3_times 1 = .ok (.iload_n 1, 1) := by decide +kernel
theorem dX3_times_2 : decode cX3_times 2 = .ok (.invokevirtual 94, 3) := by decide +kernel
theorem dX3_times_5 : decode cX3_times 5 = .ok (.astore 4, 2) := by decide +kernel
theorem dX3_times_7 : decode cX3_times 7 = .ok (.aload_n 0, 1) := by decide +kernel
theorem dX3_times_8 : decode cX3_times 8 = .ok (.iload_n 2, 1) := by decide +kernel
theorem dX3_times_9 : decode cX3_times 9 = .ok (.invokevirtual 94, 3) := by decide +kernel
theorem dX3_times_12 : decode cX3_times 12 = .ok (.astore 5, 2) := by decide +kernel
theorem dX3_times_14 : decode cX3_times 14 = .ok (.aload_n 0, 1) := by decide +kernel
theorem dX3_times_15 : decode cX3_times 15 = .ok (.iload_n 3, 1) := by decide +kernel
theorem dX3_times_16 : decode cX3_times 16 = .ok (.invokevirtual 94, 3) := by decide +kernel
theorem dX3_times_19 : decode cX3_times 19 = .ok (.astore 6, 2) := by decide +kernel
theorem dX3_times_21 : decode cX3_times 21 = .ok (.aload 4, 2) := by decide +kernel
theorem dX3_times_23 : decode cX3_times 23 = .ok (.invokevirtual 109, 3) := by decide +kernel
theorem dX3_times_26 : decode cX3_times 26 = .ok (.ifCond .ne 27, 3) := by decide +kernel
theorem dX3_times_29 : decode cX3_times 29 = .ok (.aload 5, 2) := by decide +kernel
theorem dX3_times_31 : decode cX3_times 31 = .ok (.invokevirtual 109, 3) := by decide +kernel
theorem dX3_times_34 : decode cX3_times 34 = .ok (.ifCond .ne 19, 3) := by decide +kernel
theorem dX3_times_37 : decode cX3_times 37 = .ok (.aload 4, 2) := by decide +kernel
theorem dX3_times_39 : decode cX3_times 39 = .ok (.getfield 113, 3) := by decide +kernel
theorem dX3_times_42 : decode cX3_times 42 = .ok (.aload 5, 2) := by decide +kernel
theorem dX3_times_44 : decode cX3_times 44 = .ok (.getfield 113, 3) := by decide +kernel
theorem dX3_times_47 : decode cX3_times 47 = .ok (.iadd, 1) := by decide +kernel
theorem dX3_times_48 : decode cX3_times 48 = .ok (.bipush 6, 2) := by decide +kernel
theorem dX3_times_50 : decode cX3_times 50 = .ok (.if_icmp .le 6, 3) := by decide +kernel
theorem dX3_times_53 : decode cX3_times 53 = .ok (.bipush (-9), 2) := by decide +kernel
theorem dX3_times_55 : decode cX3_times 55 = .ok (.ireturn, 1) := by decide +kernel
theorem dX3_times_56 : decode cX3_times 56 = .ok (.aload_n 0, 1) := by decide +kernel
theorem dX3_times_57 : decode cX3_times 57 = .ok (.getfield 30, 3) := by decide +kernel
theorem dX3_times_60 : decode cX3_times 60 = .ok (.aload 4, 2) := by decide +kernel
theorem dX3_times_62 : decode cX3_times 62 = .ok (.getfield 113, 3) := by decide +kernel
theorem dX3_times_65 : decode cX3_times 65 = .ok (.aload 5, 2) := by decide +kernel
theorem dX3_times_67 : decode cX3_times 67 = .ok (.getfield 113, 3) := by decide +kernel
theorem dX3_times_70 : decode cX3_times 70 = .ok (.iadd, 1) := by decide +kernel
theorem dX3_times_71 : decode cX3_times 71 = .ok (.invokevirtual 157, 3) := by decide +kernel
theorem dX3_times_74 : decode cX3_times 74 = .ok (.iconst 1, 1) := by decide +kernel
theorem dX3_times_75 : decode cX3_times 75 = .ok (.istore 7, 2) := by decide +kernel
theorem dX3_times_77 : decode cX3_times 77 = .ok (.iload 7, 2) := by decide +kernel
theorem dX3_times_79 : decode cX3_times 79 = .ok (.aload_n 0, 1) := by decide +kernel
theorem dX3_times_80 : decode cX3_times 80 = .ok (.getfield 10, 3) := by decide +kernel
theorem dX3_times_83 : decode cX3_times 83 = .ok (.getfield 116, 3) := by decide +kernel
theorem dX3_times_86 : decode cX3_times 86 = .ok (.if_icmp .gt 66, 3) := by decide +kernel
theorem dX3_times_89 : decode cX3_times 89 = .ok (.aload 4, 2) := by decide +kernel
theorem dX3_times_91 : decode cX3_times 91 = .ok (.iload 7, 2) := by decide +kernel
theorem dX3_times_93 : decode cX3_times 93 = .ok (.invokevirtual 119, 3) := by decide +kernel
theorem dX3_times_96 : decode cX3_times 96 = .ok (.ifCond .eq 50, 3) := by decide +kernel
theorem dX3_times_99 : decode cX3_times 99 = .ok (.aload 5, 2) := by decide +kernel
theorem dX3_times_101 : decode cX3_times 101 = .ok (.iload 7, 2) := by decide +kernel
theorem dX3_times_103 : decode cX3_times 103 = .ok (.invokevirtual 119, 3) := by decide +kernel
theorem dX3_times_106 : decode cX3_times 106 = .ok (.ifCond .eq 40, 3) := by decide +kernel
theorem dX3_times_109 : decode cX3_times 109 = .ok (.aload 4, 2) := by decide +kernel
theorem dX3_times_111 : decode cX3_times 111 = .ok (.iload 7, 2) := by decide +kernel
theorem dX3_times_113 : decode cX3_times 113 = .ok (.invokevirtual 123, 3) := by decide +kernel
theorem dX3_times_116 : decode cX3_times 116 = .ok (.i2l, 1) := by decide +kernel
theorem dX3_times_117 : decode cX3_times 117 = .ok (.aload 5, 2) := by decide +kernel
theorem dX3_times_119 : decode cX3_times 119 = .ok (.iload 7, 2) := by decide +kernel
theorem dX3_times_121 : decode cX3_times 121 = .ok (.invokevirtual 123, 3) := by decide +kernel
theorem dX3_times_124 : decode cX3_times 124 = .ok (.i2l, 1) := by decide +kernel
theorem dX3_times_125 : decode cX3_times 125 = .ok (.lmul, 1) := by decide +kernel
theorem dX3_times_126 : decode cX3_times 126 = .ok (.lstore 8, 2) := by decide +kernel
theorem dX3_times_128 : decode cX3_times 128 = .ok (.aload_n 0, 1) := by decide +kernel
theorem dX3_times_129 : decode cX3_times 129 = .ok (.getfield 30, 3) := by decide +kernel
theorem dX3_times_132 : decode cX3_times 132 = .ok (.iload 7, 2) := by decide +kernel
theorem dX3_times_134 : decode cX3_times 134 = .ok (.aload_n 0, 1) := by decide +kernel
theorem dX3_times_135 : decode cX3_times 135 = .ok (.getfield 10, 3) := by decide +kernel
theorem dX3_times_138 : decode cX3_times 138 = .ok (.lload 8, 2) := by decide +kernel
theorem dX3_times_140 : decode cX3_times 140 = .ok (.invokevirtual 59, 3) := by decide +kernel
theorem dX3_times_143 : decode cX3_times 143 = .ok (.invokevirtual 130, 3) := by decide +kernel
theorem dX3_times_146 : decode cX3_times 146 = .ok (.iinc 7 1, 3) := by decide +kernel
theorem dX3_times_149 : decode cX3_times 149 = .ok (.goto (-72), 3) := by decide +kernel
theorem dX3_times_152 : decode cX3_times 152 = .ok (.aload_n 0, 1) := by decide +kernel
theorem dX3_times_153 : decode cX3_times 153 = .ok (.aload 6, 2) := by decide +kernel
theorem dX3_times_155 : decode cX3_times 155 = .ok (.invokevirtual 160, 3) := by decide +kernel
theorem dX3_times_158 : decode cX3_times 158 = .ok (.ireturn, 1) := by decide +kernel
theorem dX3_scale_0 : decode cX3_scale 0 = .ok (.aload_n 0, 1) := by decide +kernel
theorem dX3_scale_1 : decode cX3_scale 1 = .ok (.iload_n 1, 1) := by decide +kernel
theorem dX3_scale_2 : decode cX3_scale 2 = .ok (.invokevirtual 94, 3) := by decide +kernel
theorem dX3_scale_5 : decode cX3_scale 5 = .ok (.astore 4, 2) := by decide +kernel
theorem dX3_scale_7 : decode cX3_scale 7 = .ok (.aload_n 0, 1) := by decide +kernel
theorem dX3_scale_8 : decode cX3_scale 8 = .ok (.iload_n 3, 1) := by decide +kernel
theorem dX3_scale_9 : decode cX3_scale 9 = .ok (.invokevirtual 94, 3) := by decide +kernel
theorem dX3_scale_12 : decode cX3_scale 12 = .ok (.astore 5, 2) := by decide +kernel
theorem dX3_scale_14 : decode cX3_scale 14 = .ok (.aload 4, 2) := by decide +kernel
theorem dX3_scale_16 : decode cX3_scale 16 = .ok (.invokevirtual 109, 3) := by decide +kernel
theorem dX3_scale_19 : decode cX3_scale 19 = .ok (.ifCond .eq 6, 3) := by decide +kernel
theorem dX3_scale_22 : decode cX3_scale 22 = .ok (.bipush (-9), 2) := by decide +kernel
theorem dX3_scale_24 : decode cX3_scale 24 = .ok (.ireturn, 1) := by decide +kernel
theorem dX3_scale_25 : decode cX3_scale 25 = .ok (.aload_n 0, 1) := by decide +kernel
theorem dX3_scale_26 : decode cX3_scale 26 = .ok (.getfield 10, 3) := by decide +kernel
theorem dX3_scale_29 : decode cX3_scale 29 = .ok (.iload_n 2, 1) := by decide +kernel
theorem dX3_scale_30 : decode cX3_scale 30 = .ok (.i2l, 1) := by decide +kernel
theorem dX3_scale_31 : decode cX3_scale 31 = .ok (.invokevirtual 59, 3) := by decide +kernel
theorem dX3_scale_34 : decode cX3_scale 34 = .ok (.istore 6, 2) := by decide +kernel
theorem dX3_scale_36 : decode cX3_scale 36 = .ok (.aload_n 0, 1) := by decide +kernel
theorem dX3_scale_37 : decode cX3_scale 37 = .ok (.getfield 30, 3) := by decide +kernel
theorem dX3_scale_40 : decode cX3_scale 40 = .ok (.aload 4, 2) := by decide +kernel
theorem dX3_scale_42 : decode cX3_scale 42 = .ok (.getfield 113, 3) := by decide +kernel
theorem dX3_scale_45 : decode cX3_scale 45 = .ok (.invokevirtual 157, 3) := by decide +kernel
theorem dX3_scale_48 : decode cX3_scale 48 = .ok (.iconst 1, 1) := by decide +kernel
theorem dX3_scale_49 : decode cX3_scale 49 = .ok (.istore 7, 2) := by decide +kernel
theorem dX3_scale_51 : decode cX3_scale 51 = .ok (.iload 7, 2) := by decide +kernel
theorem dX3_scale_53 : decode cX3_scale 53 = .ok (.aload_n 0, 1) := by decide +kernel
theorem dX3_scale_54 : decode cX3_scale 54 = .ok (.getfield 10, 3) := by decide +kernel
theorem dX3_scale_57 : decode cX3_scale 57 = .ok (.getfield 116, 3) := by decide +kernel
theorem dX3_scale_60 : decode cX3_scale 60 = .ok (.if_icmp .gt 47, 3) := by decide +kernel
theorem dX3_scale_63 : decode cX3_scale 63 = .ok (.aload 4, 2) := by decide +kernel
theorem dX3_scale_65 : decode cX3_scale 65 = .ok (.iload 7, 2) := by decide +kernel
theorem dX3_scale_67 : decode cX3_scale 67 = .ok (.invokevirtual 119, 3) := by decide +kernel
theorem dX3_scale_70 : decode cX3_scale 70 = .ok (.ifCond .eq 31, 3) := by decide +kernel
theorem dX3_scale_73 : decode cX3_scale 73 = .ok (.aload_n 0, 1) := by decide +kernel
theorem dX3_scale_74 : decode cX3_scale 74 = .ok (.getfield 30, 3) := by decide +kernel
theorem dX3_scale_77 : decode cX3_scale 77 = .ok (.iload 7, 2) := by decide +kernel
theorem dX3_scale_79 : decode cX3_scale 79 = .ok (.aload_n 0, 1) := by decide +kernel
theorem dX3_scale_80 : decode cX3_scale 80 = .ok (.getfield 10, 3) := by decide +kernel
theorem dX3_scale_83 : decode cX3_scale 83 = .ok (.aload 4, 2) := by decide +kernel
theorem dX3_scale_85 : decode cX3_scale 85 = .ok (.iload 7, 2) := by decide +kernel
theorem dX3_scale_87 : decode cX3_scale 87 = .ok (.invokevirtual 123, 3) := by decide +kernel
theorem dX3_scale_90 : decode cX3_scale 90 = .ok (.i2l, 1) := by decide +kernel
theorem dX3_scale_91 : decode cX3_scale 91 = .ok (.iload 6, 2) := by decide +kernel
theorem dX3_scale_93 : decode cX3_scale 93 = .ok (.i2l, 1) := by decide +kernel
theorem dX3_scale_94 : decode cX3_scale 94 = .ok (.lmul, 1) := by decide +kernel
theorem dX3_scale_95 : decode cX3_scale 95 = .ok (.invokevirtual 59, 3) := by decide +kernel
theorem dX3_scale_98 : decode cX3_scale 98 = .ok (.invokevirtual 130, 3) := by decide +kernel
theorem dX3_scale_101 : decode cX3_scale 101 = .ok (.iinc 7 1, 3) := by decide +kernel
theorem dX3_scale_104 : decode cX3_scale 104 = .ok (.goto (-53), 3) := by decide +kernel
theorem dX3_scale_107 : decode cX3_scale 107 = .ok (.iconst 0, 1) := by decide +kernel
theorem dX3_scale_108 : decode cX3_scale 108 = .ok (.istore 7, 2) := by decide +kernel
theorem dX3_scale_110 : decode cX3_scale 110 = .ok (.iload 7, 2) := by decide +kernel
theorem dX3_scale_112 : decode cX3_scale 112 = .ok (.aload 4, 2) := by decide +kernel
theorem dX3_scale_114 : decode cX3_scale 114 = .ok (.getfield 134, 3) := by decide +kernel
theorem dX3_scale_117 : decode cX3_scale 117 = .ok (.if_icmp .ge 36, 3) := by decide +kernel
theorem dX3_scale_120 : decode cX3_scale 120 = .ok (.aload_n 0, 1) := by decide +kernel
theorem dX3_scale_121 : decode cX3_scale 121 = .ok (.getfield 30, 3) := by decide +kernel
theorem dX3_scale_124 : decode cX3_scale 124 = .ok (.aload 4, 2) := by decide +kernel
theorem dX3_scale_126 : decode cX3_scale 126 = .ok (.iload 7, 2) := by decide +kernel
theorem dX3_scale_128 : decode cX3_scale 128 = .ok (.invokevirtual 137, 3) := by decide +kernel
theorem dX3_scale_131 : decode cX3_scale 131 = .ok (.iload 6, 2) := by decide +kernel
theorem dX3_scale_133 : decode cX3_scale 133 = .ok (.i2l, 1) := by decide +kernel
theorem dX3_scale_134 : decode cX3_scale 134 = .ok (.aload_n 0, 1) := by decide +kernel
theorem dX3_scale_135 : decode cX3_scale 135 = .ok (.getfield 10, 3) := by decide +kernel
theorem dX3_scale_138 : decode cX3_scale 138 = .ok (.getfield 164, 3) := by decide +kernel
theorem dX3_scale_141 : decode cX3_scale 141 = .ok (.invokestatic 69, 3) := by decide +kernel
theorem dX3_scale_144 : decode cX3_scale 144 = .ok (.invokevirtual 167, 3) := by decide +kernel
theorem dX3_scale_147 : decode cX3_scale 147 = .ok (.iinc 7 1, 3) := by decide +kernel
theorem dX3_scale_150 : decode cX3_scale 150 = .ok (.goto (-40), 3) := by decide +kernel
theorem dX3_scale_153 : decode cX3_scale 153 = .ok (.aload_n 0, 1) := by decide +kernel
theorem dX3_scale_154 : decode cX3_scale 154 = .ok (.aload 5, 2) := by decide +kernel
theorem dX3_scale_156 : decode cX3_scale 156 = .ok (.invokevirtual 160, 3) := by decide +kernel
theorem dX3_scale_159 : decode cX3_scale 159 = .ok (.ireturn, 1) := by decide +kernel
theorem dX3_handOn_0 : decode cX3_handOn 0 = .ok (.aload_n 0, 1) := by decide +kernel
theorem dX3_handOn_1 : decode cX3_handOn 1 = .ok (.iload_n 1, 1) := by decide +kernel
theorem dX3_handOn_2 : decode cX3_handOn 2 = .ok (.invokevirtual 94, 3) := by decide +kernel
theorem dX3_handOn_5 : decode cX3_handOn 5 = .ok (.astore 7, 2) := by decide +kernel
theorem dX3_handOn_7 : decode cX3_handOn 7 = .ok (.aload_n 0, 1) := by decide +kernel
theorem dX3_handOn_8 : decode cX3_handOn 8 = .ok (.iload_n 3, 1) := by decide +kernel
theorem dX3_handOn_9 : decode cX3_handOn 9 = .ok (.invokevirtual 94, 3) := by decide +kernel
theorem dX3_handOn_12 : decode cX3_handOn 12 = .ok (.astore 8, 2) := by decide +kernel
theorem dX3_handOn_14 : decode cX3_handOn 14 = .ok (.aload_n 0, 1) := by decide +kernel
theorem dX3_handOn_15 : decode cX3_handOn 15 = .ok (.iload_n 2, 1) := by decide +kernel
theorem dX3_handOn_16 : decode cX3_handOn 16 = .ok (.invokevirtual 80, 3) := by decide +kernel
theorem dX3_handOn_19 : decode cX3_handOn 19 = .ok (.iload 4, 2) := by decide +kernel
theorem dX3_handOn_21 : decode cX3_handOn 21 = .ok (.invokestatic 98, 3) := by decide +kernel
theorem dX3_handOn_24 : decode cX3_handOn 24 = .ok (.aload 7, 2) := by decide +kernel
theorem dX3_handOn_26 : decode cX3_handOn 26 = .ok (.iload_n 2, 1) := by decide +kernel
theorem dX3_handOn_27 : decode cX3_handOn 27 = .ok (.invokevirtual 170, 3) := by decide +kernel
theorem dX3_handOn_30 : decode cX3_handOn 30 = .ok (.ifCond .ne 6, 3) := by decide +kernel
theorem dX3_handOn_33 : decode cX3_handOn 33 = .ok (.bipush (-9), 2) := by decide +kernel
theorem dX3_handOn_35 : decode cX3_handOn 35 = .ok (.ireturn, 1) := by decide +kernel
theorem dX3_handOn_36 : decode cX3_handOn 36 = .ok (.aload_n 0, 1) := by decide +kernel
theorem dX3_handOn_37 : decode cX3_handOn 37 = .ok (.getfield 19, 3) := by decide +kernel
theorem dX3_handOn_40 : decode cX3_handOn 40 = .ok (.invokevirtual 173, 3) := by decide +kernel
theorem dX3_handOn_43 : decode cX3_handOn 43 = .ok (.iconst 1, 1) := by decide +kernel
theorem dX3_handOn_44 : decode cX3_handOn 44 = .ok (.istore 9, 2) := by decide +kernel
theorem dX3_handOn_46 : decode cX3_handOn 46 = .ok (.iload 9, 2) := by decide +kernel
theorem dX3_handOn_48 : decode cX3_handOn 48 = .ok (.aload_n 0, 1) := by decide +kernel
theorem dX3_handOn_49 : decode cX3_handOn 49 = .ok (.getfield 10, 3) := by decide +kernel
theorem dX3_handOn_52 : decode cX3_handOn 52 = .ok (.getfield 116, 3) := by decide +kernel
theorem dX3_handOn_55 : decode cX3_handOn 55 = .ok (.if_icmp .gt 105, 3) := by decide +kernel
theorem dX3_handOn_58 : decode cX3_handOn 58 = .ok (.iload_n 2, 1) := by decide +kernel
theorem dX3_handOn_59 : decode cX3_handOn 59 = .ok (.iload 9, 2) := by decide +kernel
theorem dX3_handOn_61 : decode cX3_handOn 61 = .ok (.invokestatic 83, 3) := by decide +kernel
theorem dX3_handOn_64 : decode cX3_handOn 64 = .ok (.ifCond .eq 90, 3) := by decide +kernel
theorem dX3_handOn_67 : decode cX3_handOn 67 = .ok (.aload_n 0, 1) := by decide +kernel
theorem dX3_handOn_68 : decode cX3_handOn 68 = .ok (.getfield 10, 3) := by decide +kernel
theorem dX3_handOn_71 : decode cX3_handOn 71 = .ok (.iload_n 2, 1) := by decide +kernel
theorem dX3_handOn_72 : decode cX3_handOn 72 = .ok (.iload 9, 2) := by decide +kernel
theorem dX3_handOn_74 : decode cX3_handOn 74 = .ok (.iconst 0, 1) := by decide +kernel
theorem dX3_handOn_75 : decode cX3_handOn 75 = .ok (.invokevirtual 87, 3) := by decide +kernel
theorem dX3_handOn_78 : decode cX3_handOn 78 = .ok (.istore 10, 2) := by decide +kernel
theorem dX3_handOn_80 : decode cX3_handOn 80 = .ok (.aload_n 0, 1) := by decide +kernel
theorem dX3_handOn_81 : decode cX3_handOn 81 = .ok (.getfield 19, 3) := by decide +kernel
theorem dX3_handOn_84 : decode cX3_handOn 84 = .ok (.aload_n 0, 1) := by decide +kernel
theorem dX3_handOn_85 : decode cX3_handOn 85 = .ok (.getfield 10, 3) := by decide +kernel
theorem dX3_handOn_88 : decode cX3_handOn 88 = .ok (.iconst 0, 1) := by decide +kernel
theorem dX3_handOn_89 : decode cX3_handOn 89 = .ok (.iload 10, 2) := by decide +kernel
theorem dX3_handOn_91 : decode cX3_handOn 91 = .ok (.aload 7, 2) := by decide +kernel
theorem dX3_handOn_93 : decode cX3_handOn 93 = .ok (.iload 9, 2) := by decide +kernel
theorem dX3_handOn_95 : decode cX3_handOn 95 = .ok (.invokevirtual 123, 3) := by decide +kernel
theorem dX3_handOn_98 : decode cX3_handOn 98 = .ok (.invokevirtual 174, 3) := by decide +kernel
theorem dX3_handOn_101 : decode cX3_handOn 101 = .ok (.iconst 1, 1) := by decide +kernel
theorem dX3_handOn_102 : decode cX3_handOn 102 = .ok (.istore 11, 2) := by decide +kernel
theorem dX3_handOn_104 : decode cX3_handOn 104 = .ok (.iload 11, 2) := by decide +kernel
theorem dX3_handOn_106 : decode cX3_handOn 106 = .ok (.iload 4, 2) := by decide +kernel
theorem dX3_handOn_108 : decode cX3_handOn 108 = .ok (.if_icmp .gt 46, 3) := by decide +kernel
theorem dX3_handOn_111 : decode cX3_handOn 111 = .ok (.aload_n 0, 1) := by decide +kernel
theorem dX3_handOn_112 : decode cX3_handOn 112 = .ok (.getfield 19, 3) := by decide +kernel
theorem dX3_handOn_115 : decode cX3_handOn 115 = .ok (.aload_n 0, 1) := by decide +kernel
theorem dX3_handOn_116 : decode cX3_handOn 116 = .ok (.getfield 10, 3) := by decide +kernel
theorem dX3_handOn_119 : decode cX3_handOn 119 = .ok (.iload 11, 2) := by decide +kernel
theorem dX3_handOn_121 : decode cX3_handOn 121 = .ok (.iload 10, 2) := by decide +kernel
theorem dX3_handOn_123 : decode cX3_handOn 123 = .ok (.aload_n 0, 1) := by decide +kernel
theorem dX3_handOn_124 : decode cX3_handOn 124 = .ok (.getfield 10, 3) := by decide +kernel
theorem dX3_handOn_127 : decode cX3_handOn 127 = .ok (.iload 5, 2) := by decide +kernel
theorem dX3_handOn_129 : decode cX3_handOn 129 = .ok (.i2l, 1) := by decide +kernel
theorem dX3_handOn_130 : decode cX3_handOn 130 = .ok (.iload 9, 2) := by decide +kernel
theorem dX3_handOn_132 : decode cX3_handOn 132 = .ok (.i2l, 1) := by decide +kernel
theorem dX3_handOn_133 : decode cX3_handOn 133 = .ok (.lmul, 1) := by decide +kernel
theorem dX3_handOn_134 : decode cX3_handOn 134 = .ok (.iload 6, 2) := by decide +kernel
theorem dX3_handOn_136 : decode cX3_handOn 136 = .ok (.i2l, 1) := by decide +kernel
theorem dX3_handOn_137 : decode cX3_handOn 137 = .ok (.iload 11, 2) := by decide +kernel
theorem dX3_handOn_139 : decode cX3_handOn 139 = .ok (.i2l, 1) := by decide +kernel
theorem dX3_handOn_140 : decode cX3_handOn 140 = .ok (.lmul, 1) := by decide +kernel
theorem dX3_handOn_141 : decode cX3_handOn 141 = .ok (.ladd, 1) := by decide +kernel
theorem dX3_handOn_142 : decode cX3_handOn 142 = .ok (.invokevirtual 59, 3) := by decide +kernel
theorem dX3_handOn_145 : decode cX3_handOn 145 = .ok (.invokevirtual 174, 3) := by decide +kernel
theorem dX3_handOn_148 : decode cX3_handOn 148 = .ok (.iinc 11 1, 3) := by decide +kernel
theorem dX3_handOn_151 : decode cX3_handOn 151 = .ok (.goto (-47), 3) := by decide +kernel
theorem dX3_handOn_154 : decode cX3_handOn 154 = .ok (.iinc 9 1, 3) := by decide +kernel
theorem dX3_handOn_157 : decode cX3_handOn 157 = .ok (.goto (-111), 3) := by decide +kernel
theorem dX3_handOn_160 : decode cX3_handOn 160 = .ok (.aload_n 0, 1) := by decide +kernel
theorem dX3_handOn_161 : decode cX3_handOn 161 = .ok (.aload 8, 2) := by decide +kernel
theorem dX3_handOn_163 : decode cX3_handOn 163 = .ok (.iload 4, 2) := by decide +kernel
theorem dX3_handOn_165 : decode cX3_handOn 165 = .ok (.invokevirtual 105, 3) := by decide +kernel
theorem dX3_handOn_168 : decode cX3_handOn 168 = .ok (.ireturn, 1) := by decide +kernel
theorem dX3_lose_0 : decode cX3_lose 0 = .ok (.aload_n 0, 1) := by decide +kernel
theorem dX3_lose_1 : decode cX3_lose 1 = .ok (.iload_n 1, 1) := by decide +kernel
theorem dX3_lose_2 : decode cX3_lose 2 = .ok (.invokevirtual 94, 3) := by decide +kernel
theorem dX3_lose_5 : decode cX3_lose 5 = .ok (.astore_n 3, 1) := by decide +kernel
theorem dX3_lose_6 : decode cX3_lose 6 = .ok (.aload_n 0, 1) := by decide +kernel
theorem dX3_lose_7 : decode cX3_lose 7 = .ok (.iload_n 2, 1) := by decide +kernel
theorem dX3_lose_8 : decode cX3_lose 8 = .ok (.invokevirtual 77, 3) := by decide +kernel
theorem dX3_lose_11 : decode cX3_lose 11 = .ok (.aload_n 3, 1) := by decide +kernel
theorem dX3_lose_12 : decode cX3_lose 12 = .ok (.iload_n 2, 1) := by decide +kernel
theorem dX3_lose_13 : decode cX3_lose 13 = .ok (.invokevirtual 119, 3) := by decide +kernel
theorem dX3_lose_16 : decode cX3_lose 16 = .ok (.ifCond .ne 6, 3) := by decide +kernel
theorem dX3_lose_19 : decode cX3_lose 19 = .ok (.bipush (-9), 2) := by decide +kernel
theorem dX3_lose_21 : decode cX3_lose 21 = .ok (.ireturn, 1) := by decide +kernel
theorem dX3_lose_22 : decode cX3_lose 22 = .ok (.aload_n 3, 1) := by decide +kernel
theorem dX3_lose_23 : decode cX3_lose 23 = .ok (.iload_n 2, 1) := by decide +kernel
theorem dX3_lose_24 : decode cX3_lose 24 = .ok (.invokevirtual 123, 3) := by decide +kernel
theorem dX3_lose_27 : decode cX3_lose 27 = .ok (.istore 4, 2) := by decide +kernel
theorem dX3_lose_29 : decode cX3_lose 29 = .ok (.aload_n 3, 1) := by decide +kernel
theorem dX3_lose_30 : decode cX3_lose 30 = .ok (.iload_n 2, 1) := by decide +kernel
theorem dX3_lose_31 : decode cX3_lose 31 = .ok (.iconst (-1), 1) := by decide +kernel
theorem dX3_lose_32 : decode cX3_lose 32 = .ok (.invokevirtual 130, 3) := by decide +kernel
theorem dX3_lose_35 : decode cX3_lose 35 = .ok (.iload 4, 2) := by decide +kernel
theorem dX3_lose_37 : decode cX3_lose 37 = .ok (.ireturn, 1) := by decide +kernel
theorem dX3_give_0 : decode cX3_give 0 = .ok (.aload_n 0, 1) := by decide +kernel
theorem dX3_give_1 : decode cX3_give 1 = .ok (.iload_n 1, 1) := by decide +kernel
theorem dX3_give_2 : decode cX3_give 2 = .ok (.invokevirtual 94, 3) := by decide +kernel
theorem dX3_give_5 : decode cX3_give 5 = .ok (.astore 4, 2) := by decide +kernel
theorem dX3_give_7 : decode cX3_give 7 = .ok (.aload_n 0, 1) := by decide +kernel
theorem dX3_give_8 : decode cX3_give 8 = .ok (.iload_n 2, 1) := by decide +kernel
theorem dX3_give_9 : decode cX3_give 9 = .ok (.invokevirtual 77, 3) := by decide +kernel
theorem dX3_give_12 : decode cX3_give 12 = .ok (.aload 4, 2) := by decide +kernel
theorem dX3_give_14 : decode cX3_give 14 = .ok (.invokevirtual 109, 3) := by decide +kernel
theorem dX3_give_17 : decode cX3_give 17 = .ok (.ifCond .eq 6, 3) := by decide +kernel
theorem dX3_give_20 : decode cX3_give 20 = .ok (.bipush (-9), 2) := by decide +kernel
theorem dX3_give_22 : decode cX3_give 22 = .ok (.ireturn, 1) := by decide +kernel
theorem dX3_give_23 : decode cX3_give 23 = .ok (.aload 4, 2) := by decide +kernel
theorem dX3_give_25 : decode cX3_give 25 = .ok (.iload_n 2, 1) := by decide +kernel
theorem dX3_give_26 : decode cX3_give 26 = .ok (.invokevirtual 123, 3) := by decide +kernel
theorem dX3_give_29 : decode cX3_give 29 = .ok (.istore 5, 2) := by decide +kernel
theorem dX3_give_31 : decode cX3_give 31 = .ok (.aload 4, 2) := by decide +kernel
theorem dX3_give_33 : decode cX3_give 33 = .ok (.iload_n 2, 1) := by decide +kernel
theorem dX3_give_34 : decode cX3_give 34 = .ok (.aload_n 0, 1) := by decide +kernel
theorem dX3_give_35 : decode cX3_give 35 = .ok (.getfield 10, 3) := by decide +kernel
theorem dX3_give_38 : decode cX3_give 38 = .ok (.iload_n 3, 1) := by decide +kernel
theorem dX3_give_39 : decode cX3_give 39 = .ok (.i2l, 1) := by decide +kernel
theorem dX3_give_40 : decode cX3_give 40 = .ok (.invokevirtual 59, 3) := by decide +kernel
theorem dX3_give_43 : decode cX3_give 43 = .ok (.invokevirtual 130, 3) := by decide +kernel
theorem dX3_give_46 : decode cX3_give 46 = .ok (.iload 5, 2) := by decide +kernel
theorem dX3_give_48 : decode cX3_give 48 = .ok (.ireturn, 1) := by decide +kernel
theorem dX3_regain_0 : decode cX3_regain 0 = .ok (.aload_n 0, 1) := by decide +kernel
theorem dX3_regain_1 : decode cX3_regain 1 = .ok (.iload_n 1, 1) := by decide +kernel
theorem dX3_regain_2 : decode cX3_regain 2 = .ok (.invokevirtual 94, 3) := by decide +kernel
theorem dX3_regain_5 : decode cX3_regain 5 = .ok (.astore 4, 2) := by decide +kernel
theorem dX3_regain_7 : decode cX3_regain 7 = .ok (.aload_n 0, 1) := by decide +kernel
theorem dX3_regain_8 : decode cX3_regain 8 = .ok (.iload_n 2, 1) := by decide +kernel
theorem dX3_regain_9 : decode cX3_regain 9 = .ok (.invokevirtual 77, 3) := by decide +kernel
theorem dX3_regain_12 : decode cX3_regain 12 = .ok (.aload_n 0, 1) := by decide +kernel
theorem dX3_regain_13 : decode cX3_regain 13 = .ok (.iload_n 3, 1) := by decide +kernel
theorem dX3_regain_14 : decode cX3_regain 14 = .ok (.invokevirtual 80, 3) := by decide +kernel
theorem dX3_regain_17 : decode cX3_regain 17 = .ok (.aload 4, 2) := by decide +kernel
theorem dX3_regain_19 : decode cX3_regain 19 = .ok (.iload_n 3, 1) := by decide +kernel
theorem dX3_regain_20 : decode cX3_regain 20 = .ok (.invokevirtual 170, 3) := by decide +kernel
theorem dX3_regain_23 : decode cX3_regain 23 = .ok (.ifCond .ne 6, 3) := by decide +kernel
theorem dX3_regain_26 : decode cX3_regain 26 = .ok (.bipush (-9), 2) := by decide +kernel
theorem dX3_regain_28 : decode cX3_regain 28 = .ok (.ireturn, 1) := by decide +kernel
theorem dX3_regain_29 : decode cX3_regain 29 = .ok (.aload_n 0, 1) := by decide +kernel
theorem dX3_regain_30 : decode cX3_regain 30 = .ok (.aload 4, 2) := by decide +kernel
theorem dX3_regain_32 : decode cX3_regain 32 = .ok (.iload_n 3, 1) := by decide +kernel
theorem dX3_regain_33 : decode cX3_regain 33 = .ok (.iload_n 2, 1) := by decide +kernel
theorem dX3_regain_34 : decode cX3_regain 34 = .ok (.invokevirtual 178, 3) := by decide +kernel
theorem dX3_regain_37 : decode cX3_regain 37 = .ok (.istore 5, 2) := by decide +kernel
theorem dX3_regain_39 : decode cX3_regain 39 = .ok (.aload 4, 2) := by decide +kernel
theorem dX3_regain_41 : decode cX3_regain 41 = .ok (.iload_n 2, 1) := by decide +kernel
theorem dX3_regain_42 : decode cX3_regain 42 = .ok (.iload 5, 2) := by decide +kernel
theorem dX3_regain_44 : decode cX3_regain 44 = .ok (.invokevirtual 130, 3) := by decide +kernel
theorem dX3_regain_47 : decode cX3_regain 47 = .ok (.iload 5, 2) := by decide +kernel
theorem dX3_regain_49 : decode cX3_regain 49 = .ok (.ireturn, 1) := by decide +kernel
theorem dX3_mend_0 : decode cX3_mend 0 = .ok (.aload_n 0, 1) := by decide +kernel
theorem dX3_mend_1 : decode cX3_mend 1 = .ok (.iload_n 1, 1) := by decide +kernel
theorem dX3_mend_2 : decode cX3_mend 2 = .ok (.invokevirtual 94, 3) := by decide +kernel
theorem dX3_mend_5 : decode cX3_mend 5 = .ok (.astore_n 2, 1) := by decide +kernel
theorem dX3_mend_6 : decode cX3_mend 6 = .ok (.aload_n 0, 1) := by decide +kernel
theorem dX3_mend_7 : decode cX3_mend 7 = .ok (.aload_n 2, 1) := by decide +kernel
theorem dX3_mend_8 : decode cX3_mend 8 = .ok (.invokevirtual 182, 3) := by decide +kernel
theorem dX3_mend_11 : decode cX3_mend 11 = .ok (.istore_n 3, 1) := by decide +kernel
theorem dX3_mend_12 : decode cX3_mend 12 = .ok (.iload_n 3, 1) := by decide +kernel
theorem dX3_mend_13 : decode cX3_mend 13 = .ok (.ifCond .le 29, 3) := by decide +kernel
theorem dX3_mend_16 : decode cX3_mend 16 = .ok (.aload_n 2, 1) := by decide +kernel
theorem dX3_mend_17 : decode cX3_mend 17 = .ok (.invokevirtual 185, 3) := by decide +kernel
theorem dX3_mend_20 : decode cX3_mend 20 = .ok (.iload_n 3, 1) := by decide +kernel
theorem dX3_mend_21 : decode cX3_mend 21 = .ok (.invokestatic 188, 3) := by decide +kernel
theorem dX3_mend_24 : decode cX3_mend 24 = .ok (.iconst (-1), 1) := by decide +kernel
theorem dX3_mend_25 : decode cX3_mend 25 = .ok (.ixor, 1) := by decide +kernel
theorem dX3_mend_26 : decode cX3_mend 26 = .ok (.iand, 1) := by decide +kernel
theorem dX3_mend_27 : decode cX3_mend 27 = .ok (.istore 4, 2) := by decide +kernel
theorem dX3_mend_29 : decode cX3_mend 29 = .ok (.aload_n 2, 1) := by decide +kernel
theorem dX3_mend_30 : decode cX3_mend 30 = .ok (.iload_n 3, 1) := by decide +kernel
theorem dX3_mend_31 : decode cX3_mend 31 = .ok (.aload_n 0, 1) := by decide +kernel
theorem dX3_mend_32 : decode cX3_mend 32 = .ok (.aload_n 2, 1) := by decide +kernel
theorem dX3_mend_33 : decode cX3_mend 33 = .ok (.iload 4, 2) := by decide +kernel
theorem dX3_mend_35 : decode cX3_mend 35 = .ok (.iload_n 3, 1) := by decide +kernel
theorem dX3_mend_36 : decode cX3_mend 36 = .ok (.invokevirtual 178, 3) := by decide +kernel
theorem dX3_mend_39 : decode cX3_mend 39 = .ok (.invokevirtual 130, 3) := by decide +kernel
theorem dX3_mend_42 : decode cX3_mend 42 = .ok (.iload_n 3, 1) := by decide +kernel
theorem dX3_mend_43 : decode cX3_mend 43 = .ok (.ireturn, 1) := by decide +kernel
theorem dX3_copy_0 : decode cX3_copy 0 = .ok (.aload_n 0, 1) := by decide +kernel
theorem dX3_copy_1 : decode cX3_copy 1 = .ok (.iload_n 1, 1) := by decide +kernel
theorem dX3_copy_2 : decode cX3_copy 2 = .ok (.invokevirtual 94, 3) := by decide +kernel
theorem dX3_copy_5 : decode cX3_copy 5 = .ok (.astore_n 3, 1) := by decide +kernel
theorem dX3_copy_6 : decode cX3_copy 6 = .ok (.aload_n 0, 1) := by decide +kernel
theorem dX3_copy_7 : decode cX3_copy 7 = .ok (.iload_n 2, 1) := by decide +kernel
theorem dX3_copy_8 : decode cX3_copy 8 = .ok (.invokevirtual 94, 3) := by decide +kernel
theorem dX3_copy_11 : decode cX3_copy 11 = .ok (.astore 4, 2) := by decide +kernel
theorem dX3_copy_13 : decode cX3_copy 13 = .ok (.aload 4, 2) := by decide +kernel
theorem dX3_copy_15 : decode cX3_copy 15 = .ok (.aload_n 3, 1) := by decide +kernel
theorem dX3_copy_16 : decode cX3_copy 16 = .ok (.invokevirtual 191, 3) := by decide +kernel
theorem dX3_copy_19 : decode cX3_copy 19 = .ok (.aload 4, 2) := by decide +kernel
theorem dX3_copy_21 : decode cX3_copy 21 = .ok (.invokevirtual 149, 3) := by decide +kernel
theorem dX3_copy_24 : decode cX3_copy 24 = .ok (.ireturn, 1) := by decide +kernel
theorem dX3_drop_0 : decode cX3_drop 0 = .ok (.aload_n 0, 1) := by decide +kernel
theorem dX3_drop_1 : decode cX3_drop 1 = .ok (.iload_n 1, 1) := by decide +kernel
theorem dX3_drop_2 : decode cX3_drop 2 = .ok (.invokevirtual 94, 3) := by decide +kernel
theorem dX3_drop_5 : decode cX3_drop 5 = .ok (.astore_n 2, 1) := by decide +kernel
theorem dX3_drop_6 : decode cX3_drop 6 = .ok (.aload_n 2, 1) := by decide +kernel
theorem dX3_drop_7 : decode cX3_drop 7 = .ok (.invokevirtual 149, 3) := by decide +kernel
theorem dX3_drop_10 : decode cX3_drop 10 = .ok (.istore_n 3, 1) := by decide +kernel
theorem dX3_drop_11 : decode cX3_drop 11 = .ok (.aload_n 2, 1) := by decide +kernel
theorem dX3_drop_12 : decode cX3_drop 12 = .ok (.invokevirtual 56, 3) := by decide +kernel
theorem dX3_drop_15 : decode cX3_drop 15 = .ok (.iload_n 3, 1) := by decide +kernel
theorem dX3_drop_16 : decode cX3_drop 16 = .ok (.ireturn, 1) := by decide +kernel
theorem dX3_share_0 : decode cX3_share 0 = .ok (.aload_n 0, 1) := by decide +kernel
theorem dX3_share_1 : decode cX3_share 1 = .ok (.iload_n 1, 1) := by decide +kernel
theorem dX3_share_2 : decode cX3_share 2 = .ok (.invokevirtual 94, 3) := by decide +kernel
theorem dX3_share_5 : decode cX3_share 5 = .ok (.astore_n 3, 1) := by decide +kernel
theorem dX3_share_6 : decode cX3_share 6 = .ok (.aload_n 0, 1) := by decide +kernel
theorem dX3_share_7 : decode cX3_share 7 = .ok (.iload_n 2, 1) := by decide +kernel
theorem dX3_share_8 : decode cX3_share 8 = .ok (.invokevirtual 77, 3) := by decide +kernel
theorem dX3_share_11 : decode cX3_share 11 = .ok (.aload_n 3, 1) := by decide +kernel
theorem dX3_share_12 : decode cX3_share 12 = .ok (.iload_n 2, 1) := by decide +kernel
theorem dX3_share_13 : decode cX3_share 13 = .ok (.invokevirtual 123, 3) := by decide +kernel
theorem dX3_share_16 : decode cX3_share 16 = .ok (.ireturn, 1) := by decide +kernel
theorem dX3_ofDeal_0 : decode cX3_ofDeal 0 = .ok (.aload_n 0, 1) := by decide +kernel
theorem dX3_ofDeal_1 : decode cX3_ofDeal 1 = .ok (.iload_n 1, 1) := by decide +kernel
theorem dX3_ofDeal_2 : decode cX3_ofDeal 2 = .ok (.invokevirtual 94, 3) := by decide +kernel
theorem dX3_ofDeal_5 : decode cX3_ofDeal 5 = .ok (.astore_n 3, 1) := by decide +kernel
theorem dX3_ofDeal_6 : decode cX3_ofDeal 6 = .ok (.iload_n 2, 1) := by decide +kernel
theorem dX3_ofDeal_7 : decode cX3_ofDeal 7 = .ok (.tableswitch 118 0 5 #[37, 53, 58, 63, 76, 94], 37) := by decide +kernel
theorem dX3_ofDeal_44 : decode cX3_ofDeal 44 = .ok (.aload_n 3, 1) := by decide +kernel
theorem dX3_ofDeal_45 : decode cX3_ofDeal 45 = .ok (.invokevirtual 109, 3) := by decide +kernel
theorem dX3_ofDeal_48 : decode cX3_ofDeal 48 = .ok (.ifCond .eq 7, 3) := by decide +kernel
theorem dX3_ofDeal_51 : decode cX3_ofDeal 51 = .ok (.iconst (-1), 1) := by decide +kernel
theorem dX3_ofDeal_52 : decode cX3_ofDeal 52 = .ok (.goto 7, 3) := by decide +kernel
theorem dX3_ofDeal_55 : decode cX3_ofDeal 55 = .ok (.aload_n 3, 1) := by decide +kernel
theorem dX3_ofDeal_56 : decode cX3_ofDeal 56 = .ok (.getfield 113, 3) := by decide +kernel
theorem dX3_ofDeal_59 : decode cX3_ofDeal 59 = .ok (.ireturn, 1) := by decide +kernel
theorem dX3_ofDeal_60 : decode cX3_ofDeal 60 = .ok (.aload_n 3, 1) := by decide +kernel
theorem dX3_ofDeal_61 : decode cX3_ofDeal 61 = .ok (.invokevirtual 149, 3) := by decide +kernel
theorem dX3_ofDeal_64 : decode cX3_ofDeal 64 = .ok (.ireturn, 1) := by decide +kernel
theorem dX3_ofDeal_65 : decode cX3_ofDeal 65 = .ok (.aload_n 3, 1) := by decide +kernel
theorem dX3_ofDeal_66 : decode cX3_ofDeal 66 = .ok (.invokevirtual 185, 3) := by decide +kernel
theorem dX3_ofDeal_69 : decode cX3_ofDeal 69 = .ok (.ireturn, 1) := by decide +kernel
theorem dX3_ofDeal_70 : decode cX3_ofDeal 70 = .ok (.aload_n 3, 1) := by decide +kernel
theorem dX3_ofDeal_71 : decode cX3_ofDeal 71 = .ok (.invokevirtual 195, 3) := by decide +kernel
theorem dX3_ofDeal_74 : decode cX3_ofDeal 74 = .ok (.ifCond .eq 7, 3) := by decide +kernel
theorem dX3_ofDeal_77 : decode cX3_ofDeal 77 = .ok (.iconst 1, 1) := by decide +kernel
theorem dX3_ofDeal_78 : decode cX3_ofDeal 78 = .ok (.goto 4, 3) := by decide +kernel
theorem dX3_ofDeal_81 : decode cX3_ofDeal 81 = .ok (.iconst 0, 1) := by decide +kernel
theorem dX3_ofDeal_82 : decode cX3_ofDeal 82 = .ok (.ireturn, 1) := by decide +kernel
theorem dX3_ofDeal_83 : decode cX3_ofDeal 83 = .ok (.aload_n 0, 1) := by decide +kernel
theorem dX3_ofDeal_84 : decode cX3_ofDeal 84 = .ok (.aload_n 3, 1) := by decide +kernel
theorem dX3_ofDeal_85 : decode cX3_ofDeal 85 = .ok (.aload_n 3, 1) := by decide +kernel
theorem dX3_ofDeal_86 : decode cX3_ofDeal 86 = .ok (.invokevirtual 185, 3) := by decide +kernel
theorem dX3_ofDeal_89 : decode cX3_ofDeal 89 = .ok (.invokevirtual 198, 3) := by decide +kernel
theorem dX3_ofDeal_92 : decode cX3_ofDeal 92 = .ok (.ifCond .eq 7, 3) := by decide +kernel
theorem dX3_ofDeal_95 : decode cX3_ofDeal 95 = .ok (.iconst 1, 1) := by decide +kernel
theorem dX3_ofDeal_96 : decode cX3_ofDeal 96 = .ok (.goto 4, 3) := by decide +kernel
theorem dX3_ofDeal_99 : decode cX3_ofDeal 99 = .ok (.iconst 0, 1) := by decide +kernel
theorem dX3_ofDeal_100 : decode cX3_ofDeal 100 = .ok (.ireturn, 1) := by decide +kernel
theorem dX3_ofDeal_101 : decode cX3_ofDeal 101 = .ok (.aload_n 3, 1) := by decide +kernel
theorem dX3_ofDeal_102 : decode cX3_ofDeal 102 = .ok (.invokevirtual 202, 3) := by decide +kernel
theorem dX3_ofDeal_105 : decode cX3_ofDeal 105 = .ok (.istore 4, 2) := by decide +kernel
theorem dX3_ofDeal_107 : decode cX3_ofDeal 107 = .ok (.iload 4, 2) := by decide +kernel
theorem dX3_ofDeal_109 : decode cX3_ofDeal 109 = .ok (.ifCond .ne 7, 3) := by decide +kernel
theorem dX3_ofDeal_112 : decode cX3_ofDeal 112 = .ok (.iconst (-1), 1) := by decide +kernel
theorem dX3_ofDeal_113 : decode cX3_ofDeal 113 = .ok (.goto 11, 3) := by decide +kernel
theorem dX3_ofDeal_116 : decode cX3_ofDeal 116 = .ok (.aload_n 0, 1) := by decide +kernel
theorem dX3_ofDeal_117 : decode cX3_ofDeal 117 = .ok (.aload_n 3, 1) := by decide +kernel
theorem dX3_ofDeal_118 : decode cX3_ofDeal 118 = .ok (.iload 4, 2) := by decide +kernel
theorem dX3_ofDeal_120 : decode cX3_ofDeal 120 = .ok (.iconst 0, 1) := by decide +kernel
theorem dX3_ofDeal_121 : decode cX3_ofDeal 121 = .ok (.invokevirtual 178, 3) := by decide +kernel
theorem dX3_ofDeal_124 : decode cX3_ofDeal 124 = .ok (.ireturn, 1) := by decide +kernel
theorem dX3_ofDeal_125 : decode cX3_ofDeal 125 = .ok (.new 42, 3) := by decide +kernel
theorem dX3_ofDeal_128 : decode cX3_ofDeal 128 = .ok (.dup, 1) := by decide +kernel
theorem dX3_ofDeal_129 : decode cX3_ofDeal 129 = .ok (.ldc 205, 2) := by decide +kernel
theorem dX3_ofDeal_131 : decode cX3_ofDeal 131 = .ok (.invokespecial 46, 3) := by decide +kernel
theorem dX3_ofDeal_134 : decode cX3_ofDeal 134 = .ok (.athrow, 1) := by decide +kernel
theorem dX3_told_0 : decode cX3_told 0 = .ok (.aload_n 0, 1) := by decide +kernel
theorem dX3_told_1 : decode cX3_told 1 = .ok (.iload_n 1, 1) := by decide +kernel
theorem dX3_told_2 : decode cX3_told 2 = .ok (.invokevirtual 94, 3) := by decide +kernel
theorem dX3_told_5 : decode cX3_told 5 = .ok (.astore 4, 2) := by decide +kernel
theorem dX3_told_7 : decode cX3_told 7 = .ok (.aload_n 0, 1) := by decide +kernel
theorem dX3_told_8 : decode cX3_told 8 = .ok (.iload_n 2, 1) := by decide +kernel
theorem dX3_told_9 : decode cX3_told 9 = .ok (.invokevirtual 80, 3) := by decide +kernel
theorem dX3_told_12 : decode cX3_told 12 = .ok (.aload 4, 2) := by decide +kernel
theorem dX3_told_14 : decode cX3_told 14 = .ok (.iload_n 2, 1) := by decide +kernel
theorem dX3_told_15 : decode cX3_told 15 = .ok (.invokevirtual 207, 3) := by decide +kernel
theorem dX3_told_18 : decode cX3_told 18 = .ok (.ifCond .eq 14, 3) := by decide +kernel
theorem dX3_told_21 : decode cX3_told 21 = .ok (.aload_n 0, 1) := by decide +kernel
theorem dX3_told_22 : decode cX3_told 22 = .ok (.aload 4, 2) := by decide +kernel
theorem dX3_told_24 : decode cX3_told 24 = .ok (.iload_n 2, 1) := by decide +kernel
theorem dX3_told_25 : decode cX3_told 25 = .ok (.iload_n 3, 1) := by decide +kernel
theorem dX3_told_26 : decode cX3_told 26 = .ok (.invokevirtual 178, 3) := by decide +kernel
theorem dX3_told_29 : decode cX3_told 29 = .ok (.goto 5, 3) := by decide +kernel
theorem dX3_told_32 : decode cX3_told 32 = .ok (.bipush (-9), 2) := by decide +kernel
theorem dX3_told_34 : decode cX3_told 34 = .ok (.ireturn, 1) := by decide +kernel
theorem dX3_open_0 : decode cX3_open 0 = .ok (.aload_n 0, 1) := by decide +kernel
theorem dX3_open_1 : decode cX3_open 1 = .ok (.iload_n 1, 1) := by decide +kernel
theorem dX3_open_2 : decode cX3_open 2 = .ok (.invokevirtual 94, 3) := by decide +kernel
theorem dX3_open_5 : decode cX3_open 5 = .ok (.astore_n 3, 1) := by decide +kernel
theorem dX3_open_6 : decode cX3_open 6 = .ok (.aload_n 0, 1) := by decide +kernel
theorem dX3_open_7 : decode cX3_open 7 = .ok (.iload_n 2, 1) := by decide +kernel
theorem dX3_open_8 : decode cX3_open 8 = .ok (.invokevirtual 80, 3) := by decide +kernel
theorem dX3_open_11 : decode cX3_open 11 = .ok (.aload_n 3, 1) := by decide +kernel
theorem dX3_open_12 : decode cX3_open 12 = .ok (.iload_n 2, 1) := by decide +kernel
theorem dX3_open_13 : decode cX3_open 13 = .ok (.invokevirtual 170, 3) := by decide +kernel
theorem dX3_open_16 : decode cX3_open 16 = .ok (.ifCond .eq 13, 3) := by decide +kernel
theorem dX3_open_19 : decode cX3_open 19 = .ok (.aload_n 0, 1) := by decide +kernel
theorem dX3_open_20 : decode cX3_open 20 = .ok (.aload_n 3, 1) := by decide +kernel
theorem dX3_open_21 : decode cX3_open 21 = .ok (.iload_n 2, 1) := by decide +kernel
theorem dX3_open_22 : decode cX3_open 22 = .ok (.iconst 0, 1) := by decide +kernel
theorem dX3_open_23 : decode cX3_open 23 = .ok (.invokevirtual 178, 3) := by decide +kernel
theorem dX3_open_26 : decode cX3_open 26 = .ok (.goto 5, 3) := by decide +kernel
theorem dX3_open_29 : decode cX3_open 29 = .ok (.bipush (-9), 2) := by decide +kernel
theorem dX3_open_31 : decode cX3_open 31 = .ok (.ireturn, 1) := by decide +kernel
theorem dX3_degreeBy_0 : decode cX3_degreeBy 0 = .ok (.aload_n 0, 1) := by decide +kernel
theorem dX3_degreeBy_1 : decode cX3_degreeBy 1 = .ok (.iload_n 1, 1) := by decide +kernel
theorem dX3_degreeBy_2 : decode cX3_degreeBy 2 = .ok (.invokevirtual 94, 3) := by decide +kernel
theorem dX3_degreeBy_5 : decode cX3_degreeBy 5 = .ok (.astore_n 3, 1) := by decide +kernel
theorem dX3_degreeBy_6 : decode cX3_degreeBy 6 = .ok (.aload_n 0, 1) := by decide +kernel
theorem dX3_degreeBy_7 : decode cX3_degreeBy 7 = .ok (.iload_n 2, 1) := by decide +kernel
theorem dX3_degreeBy_8 : decode cX3_degreeBy 8 = .ok (.invokevirtual 80, 3) := by decide +kernel
theorem dX3_degreeBy_11 : decode cX3_degreeBy 11 = .ok (.aload_n 3, 1) := by decide +kernel
theorem dX3_degreeBy_12 : decode cX3_degreeBy 12 = .ok (.iload_n 2, 1) := by decide +kernel
theorem dX3_degreeBy_13 : decode cX3_degreeBy 13 = .ok (.invokevirtual 207, 3) := by decide +kernel
theorem dX3_degreeBy_16 : decode cX3_degreeBy 16 = .ok (.ifCond .ne 6, 3) := by decide +kernel
theorem dX3_degreeBy_19 : decode cX3_degreeBy 19 = .ok (.bipush (-9), 2) := by decide +kernel
theorem dX3_degreeBy_21 : decode cX3_degreeBy 21 = .ok (.ireturn, 1) := by decide +kernel
theorem dX3_degreeBy_22 : decode cX3_degreeBy 22 = .ok (.aload_n 0, 1) := by decide +kernel
theorem dX3_degreeBy_23 : decode cX3_degreeBy 23 = .ok (.getfield 19, 3) := by decide +kernel
theorem dX3_degreeBy_26 : decode cX3_degreeBy 26 = .ok (.aload_n 0, 1) := by decide +kernel
theorem dX3_degreeBy_27 : decode cX3_degreeBy 27 = .ok (.getfield 10, 3) := by decide +kernel
theorem dX3_degreeBy_30 : decode cX3_degreeBy 30 = .ok (.aload_n 3, 1) := by decide +kernel
theorem dX3_degreeBy_31 : decode cX3_degreeBy 31 = .ok (.iload_n 2, 1) := by decide +kernel
theorem dX3_degreeBy_32 : decode cX3_degreeBy 32 = .ok (.invokevirtual 213, 3) := by decide +kernel
theorem dX3_degreeBy_35 : decode cX3_degreeBy 35 = .ok (.aload_n 0, 1) := by decide +kernel
theorem dX3_degreeBy_36 : decode cX3_degreeBy 36 = .ok (.getfield 19, 3) := by decide +kernel
theorem dX3_degreeBy_39 : decode cX3_degreeBy 39 = .ok (.invokevirtual 217, 3) := by decide +kernel
theorem dX3_degreeBy_42 : decode cX3_degreeBy 42 = .ok (.ireturn, 1) := by decide +kernel
theorem dX3_suspects_0 : decode cX3_suspects 0 = .ok (.aload_n 0, 1) := by decide +kernel
theorem dX3_suspects_1 : decode cX3_suspects 1 = .ok (.iload_n 1, 1) := by decide +kernel
theorem dX3_suspects_2 : decode cX3_suspects 2 = .ok (.invokevirtual 94, 3) := by decide +kernel
theorem dX3_suspects_5 : decode cX3_suspects 5 = .ok (.astore_n 2, 1) := by decide +kernel
theorem dX3_suspects_6 : decode cX3_suspects 6 = .ok (.aload_n 2, 1) := by decide +kernel
theorem dX3_suspects_7 : decode cX3_suspects 7 = .ok (.invokevirtual 109, 3) := by decide +kernel
theorem dX3_suspects_10 : decode cX3_suspects 10 = .ok (.ifCond .eq 8, 3) := by decide +kernel
theorem dX3_suspects_13 : decode cX3_suspects 13 = .ok (.bipush (-9), 2) := by decide +kernel
theorem dX3_suspects_15 : decode cX3_suspects 15 = .ok (.goto 8, 3) := by decide +kernel
theorem dX3_suspects_18 : decode cX3_suspects 18 = .ok (.aload_n 0, 1) := by decide +kernel
theorem dX3_suspects_19 : decode cX3_suspects 19 = .ok (.aload_n 2, 1) := by decide +kernel
theorem dX3_suspects_20 : decode cX3_suspects 20 = .ok (.invokevirtual 220, 3) := by decide +kernel
theorem dX3_suspects_23 : decode cX3_suspects 23 = .ok (.ireturn, 1) := by decide +kernel
theorem dX3_wrong_0 : decode cX3_wrong 0 = .ok (.aload_n 0, 1) := by decide +kernel
theorem dX3_wrong_1 : decode cX3_wrong 1 = .ok (.aload_n 0, 1) := by decide +kernel
theorem dX3_wrong_2 : decode cX3_wrong 2 = .ok (.iload_n 1, 1) := by decide +kernel
theorem dX3_wrong_3 : decode cX3_wrong 3 = .ok (.invokevirtual 94, 3) := by decide +kernel
theorem dX3_wrong_6 : decode cX3_wrong 6 = .ok (.invokevirtual 182, 3) := by decide +kernel
theorem dX3_wrong_9 : decode cX3_wrong 9 = .ok (.ireturn, 1) := by decide +kernel
theorem dX3_ways_0 : decode cX3_ways 0 = .ok (.aload_n 0, 1) := by decide +kernel
theorem dX3_ways_1 : decode cX3_ways 1 = .ok (.iload_n 1, 1) := by decide +kernel
theorem dX3_ways_2 : decode cX3_ways 2 = .ok (.invokevirtual 94, 3) := by decide +kernel
theorem dX3_ways_5 : decode cX3_ways 5 = .ok (.astore 4, 2) := by decide +kernel
theorem dX3_ways_7 : decode cX3_ways 7 = .ok (.aload_n 0, 1) := by decide +kernel
theorem dX3_ways_8 : decode cX3_ways 8 = .ok (.iload_n 2, 1) := by decide +kernel
theorem dX3_ways_9 : decode cX3_ways 9 = .ok (.invokevirtual 80, 3) := by decide +kernel
theorem dX3_ways_12 : decode cX3_ways 12 = .ok (.aload 4, 2) := by decide +kernel
theorem dX3_ways_14 : decode cX3_ways 14 = .ok (.iload_n 2, 1) := by decide +kernel
theorem dX3_ways_15 : decode cX3_ways 15 = .ok (.invokevirtual 207, 3) := by decide +kernel
theorem dX3_ways_18 : decode cX3_ways 18 = .ok (.ifCond .eq 17, 3) := by decide +kernel
theorem dX3_ways_21 : decode cX3_ways 21 = .ok (.aload_n 0, 1) := by decide +kernel
theorem dX3_ways_22 : decode cX3_ways 22 = .ok (.aload 4, 2) := by decide +kernel
theorem dX3_ways_24 : decode cX3_ways 24 = .ok (.getfield 113, 3) := by decide +kernel
theorem dX3_ways_27 : decode cX3_ways 27 = .ok (.invokevirtual 223, 3) := by decide +kernel
theorem dX3_ways_30 : decode cX3_ways 30 = .ok (.bipush 125, 2) := by decide +kernel
theorem dX3_ways_32 : decode cX3_ways 32 = .ok (.if_icmp .le 6, 3) := by decide +kernel
theorem dX3_ways_35 : decode cX3_ways 35 = .ok (.bipush (-9), 2) := by decide +kernel
theorem dX3_ways_37 : decode cX3_ways 37 = .ok (.ireturn, 1) := by decide +kernel
theorem dX3_ways_38 : decode cX3_ways 38 = .ok (.aload 4, 2) := by decide +kernel
theorem dX3_ways_40 : decode cX3_ways 40 = .ok (.getfield 113, 3) := by decide +kernel
theorem dX3_ways_43 : decode cX3_ways 43 = .ok (.iload_n 2, 1) := by decide +kernel
theorem dX3_ways_44 : decode cX3_ways 44 = .ok (.invokestatic 226, 3) := by decide +kernel
theorem dX3_ways_47 : decode cX3_ways 47 = .ok (.isub, 1) := by decide +kernel
theorem dX3_ways_48 : decode cX3_ways 48 = .ok (.istore 5, 2) := by decide +kernel
theorem dX3_ways_50 : decode cX3_ways 50 = .ok (.iload 5, 2) := by decide +kernel
theorem dX3_ways_52 : decode cX3_ways 52 = .ok (.ifCond .lt 10, 3) := by decide +kernel
theorem dX3_ways_55 : decode cX3_ways 55 = .ok (.aload_n 0, 1) := by decide +kernel
theorem dX3_ways_56 : decode cX3_ways 56 = .ok (.iload 5, 2) := by decide +kernel
theorem dX3_ways_58 : decode cX3_ways 58 = .ok (.invokevirtual 223, 3) := by decide +kernel
theorem dX3_ways_61 : decode cX3_ways 61 = .ok (.ireturn, 1) := by decide +kernel
theorem dX3_ways_62 : decode cX3_ways 62 = .ok (.aload_n 0, 1) := by decide +kernel
theorem dX3_ways_63 : decode cX3_ways 63 = .ok (.aload 4, 2) := by decide +kernel
theorem dX3_ways_65 : decode cX3_ways 65 = .ok (.iload_n 2, 1) := by decide +kernel
theorem dX3_ways_66 : decode cX3_ways 66 = .ok (.invokevirtual 198, 3) := by decide +kernel
theorem dX3_ways_69 : decode cX3_ways 69 = .ok (.ifCond .eq 27, 3) := by decide +kernel
theorem dX3_ways_72 : decode cX3_ways 72 = .ok (.aload_n 0, 1) := by decide +kernel
theorem dX3_ways_73 : decode cX3_ways 73 = .ok (.aload 4, 2) := by decide +kernel
theorem dX3_ways_75 : decode cX3_ways 75 = .ok (.iload_n 2, 1) := by decide +kernel
theorem dX3_ways_76 : decode cX3_ways 76 = .ok (.iconst 0, 1) := by decide +kernel
theorem dX3_ways_77 : decode cX3_ways 77 = .ok (.invokevirtual 178, 3) := by decide +kernel
theorem dX3_ways_80 : decode cX3_ways 80 = .ok (.aload_n 0, 1) := by decide +kernel
theorem dX3_ways_81 : decode cX3_ways 81 = .ok (.getfield 10, 3) := by decide +kernel
theorem dX3_ways_84 : decode cX3_ways 84 = .ok (.iload_n 3, 1) := by decide +kernel
theorem dX3_ways_85 : decode cX3_ways 85 = .ok (.i2l, 1) := by decide +kernel
theorem dX3_ways_86 : decode cX3_ways 86 = .ok (.invokevirtual 59, 3) := by decide +kernel
theorem dX3_ways_89 : decode cX3_ways 89 = .ok (.if_icmp .ne 7, 3) := by decide +kernel
theorem dX3_ways_92 : decode cX3_ways 92 = .ok (.iconst 1, 1) := by decide +kernel
theorem dX3_ways_93 : decode cX3_ways 93 = .ok (.goto 4, 3) := by decide +kernel
theorem dX3_ways_96 : decode cX3_ways 96 = .ok (.iconst 0, 1) := by decide +kernel
theorem dX3_ways_97 : decode cX3_ways 97 = .ok (.ireturn, 1) := by decide +kernel
theorem dX3_seal_0 : decode cX3_seal 0 = .ok (.aload_n 0, 1) := by decide +kernel
theorem dX3_seal_1 : decode cX3_seal 1 = .ok (.iload_n 1, 1) := by decide +kernel
theorem dX3_seal_2 : decode cX3_seal 2 = .ok (.invokevirtual 94, 3) := by decide +kernel
theorem dX3_seal_5 : decode cX3_seal 5 = .ok (.astore_n 3, 1) := by decide +kernel
theorem dX3_seal_6 : decode cX3_seal 6 = .ok (.iload_n 2, 1) := by decide +kernel
theorem dX3_seal_7 : decode cX3_seal 7 = .ok (.invokestatic 210, 3) := by decide +kernel
theorem dX3_seal_10 : decode cX3_seal 10 = .ok (.aload_n 3, 1) := by decide +kernel
theorem dX3_seal_11 : decode cX3_seal 11 = .ok (.iload_n 2, 1) := by decide +kernel
theorem dX3_seal_12 : decode cX3_seal 12 = .ok (.invokevirtual 137, 3) := by decide +kernel
theorem dX3_seal_15 : decode cX3_seal 15 = .ok (.ireturn, 1) := by decide +kernel
theorem dX3_fits_0 : decode cX3_fits 0 = .ok (.aload_n 0, 1) := by decide +kernel
theorem dX3_fits_1 : decode cX3_fits 1 = .ok (.iload_n 1, 1) := by decide +kernel
theorem dX3_fits_2 : decode cX3_fits 2 = .ok (.invokevirtual 94, 3) := by decide +kernel
theorem dX3_fits_5 : decode cX3_fits 5 = .ok (.astore_n 3, 1) := by decide +kernel
theorem dX3_fits_6 : decode cX3_fits 6 = .ok (.aload_n 0, 1) := by decide +kernel
theorem dX3_fits_7 : decode cX3_fits 7 = .ok (.iload_n 2, 1) := by decide +kernel
theorem dX3_fits_8 : decode cX3_fits 8 = .ok (.invokevirtual 77, 3) := by decide +kernel
theorem dX3_fits_11 : decode cX3_fits 11 = .ok (.aload_n 3, 1) := by decide +kernel
theorem dX3_fits_12 : decode cX3_fits 12 = .ok (.invokevirtual 195, 3) := by decide +kernel
theorem dX3_fits_15 : decode cX3_fits 15 = .ok (.ifCond .eq 11, 3) := by decide +kernel
theorem dX3_fits_18 : decode cX3_fits 18 = .ok (.aload_n 3, 1) := by decide +kernel
theorem dX3_fits_19 : decode cX3_fits 19 = .ok (.iload_n 2, 1) := by decide +kernel
theorem dX3_fits_20 : decode cX3_fits 20 = .ok (.invokevirtual 119, 3) := by decide +kernel
theorem dX3_fits_23 : decode cX3_fits 23 = .ok (.ifCond .ne 6, 3) := by decide +kernel
theorem dX3_fits_26 : decode cX3_fits 26 = .ok (.bipush (-9), 2) := by decide +kernel
theorem dX3_fits_28 : decode cX3_fits 28 = .ok (.ireturn, 1) := by decide +kernel
theorem dX3_fits_29 : decode cX3_fits 29 = .ok (.aload_n 0, 1) := by decide +kernel
theorem dX3_fits_30 : decode cX3_fits 30 = .ok (.aload_n 3, 1) := by decide +kernel
theorem dX3_fits_31 : decode cX3_fits 31 = .ok (.iload_n 2, 1) := by decide +kernel
theorem dX3_fits_32 : decode cX3_fits 32 = .ok (.invokevirtual 231, 3) := by decide +kernel
theorem dX3_fits_35 : decode cX3_fits 35 = .ok (.ifCond .eq 7, 3) := by decide +kernel
theorem dX3_fits_38 : decode cX3_fits 38 = .ok (.iconst 1, 1) := by decide +kernel
theorem dX3_fits_39 : decode cX3_fits 39 = .ok (.goto 4, 3) := by decide +kernel
theorem dX3_fits_42 : decode cX3_fits 42 = .ok (.iconst 0, 1) := by decide +kernel
theorem dX3_fits_43 : decode cX3_fits 43 = .ok (.ireturn, 1) := by decide +kernel
theorem dX3_text_0 : decode cX3_text 0 = .ok (.aload_n 0, 1) := by decide +kernel
theorem dX3_text_1 : decode cX3_text 1 = .ok (.iload_n 1, 1) := by decide +kernel
theorem dX3_text_2 : decode cX3_text 2 = .ok (.invokevirtual 94, 3) := by decide +kernel
theorem dX3_text_5 : decode cX3_text 5 = .ok (.astore_n 2, 1) := by decide +kernel
theorem dX3_text_6 : decode cX3_text 6 = .ok (.new 234, 3) := by decide +kernel
theorem dX3_text_9 : decode cX3_text 9 = .ok (.dup, 1) := by decide +kernel
theorem dX3_text_10 : decode cX3_text 10 = .ok (.invokespecial 236, 3) := by decide +kernel
theorem dX3_text_13 : decode cX3_text 13 = .ok (.astore_n 3, 1) := by decide +kernel
theorem dX3_text_14 : decode cX3_text 14 = .ok (.aload_n 2, 1) := by decide +kernel
theorem dX3_text_15 : decode cX3_text 15 = .ok (.invokevirtual 109, 3) := by decide +kernel
theorem dX3_text_18 : decode cX3_text 18 = .ok (.ifCond .eq 8, 3) := by decide +kernel
theorem dX3_text_21 : decode cX3_text 21 = .ok (.aload_n 3, 1) := by decide +kernel
theorem dX3_text_22 : decode cX3_text 22 = .ok (.invokevirtual 237, 3) := by decide +kernel
theorem dX3_text_25 : decode cX3_text 25 = .ok (.areturn, 1) := by decide +kernel
theorem dX3_text_26 : decode cX3_text 26 = .ok (.iconst 1, 1) := by decide +kernel
theorem dX3_text_27 : decode cX3_text 27 = .ok (.istore 4, 2) := by decide +kernel
theorem dX3_text_29 : decode cX3_text 29 = .ok (.iload 4, 2) := by decide +kernel
theorem dX3_text_31 : decode cX3_text 31 = .ok (.aload_n 0, 1) := by decide +kernel
theorem dX3_text_32 : decode cX3_text 32 = .ok (.getfield 10, 3) := by decide +kernel
theorem dX3_text_35 : decode cX3_text 35 = .ok (.getfield 116, 3) := by decide +kernel
theorem dX3_text_38 : decode cX3_text 38 = .ok (.if_icmp .gt 52, 3) := by decide +kernel
theorem dX3_text_41 : decode cX3_text 41 = .ok (.iload 4, 2) := by decide +kernel
theorem dX3_text_43 : decode cX3_text 43 = .ok (.iconst 1, 1) := by decide +kernel
theorem dX3_text_44 : decode cX3_text 44 = .ok (.if_icmp .le 10, 3) := by decide +kernel
theorem dX3_text_47 : decode cX3_text 47 = .ok (.aload_n 3, 1) := by decide +kernel
theorem dX3_text_48 : decode cX3_text 48 = .ok (.bipush 32, 2) := by decide +kernel
theorem dX3_text_50 : decode cX3_text 50 = .ok (.invokevirtual 241, 3) := by decide +kernel
theorem dX3_text_53 : decode cX3_text 53 = .ok (.pop, 1) := by decide +kernel
theorem dX3_text_54 : decode cX3_text 54 = .ok (.aload_n 2, 1) := by decide +kernel
theorem dX3_text_55 : decode cX3_text 55 = .ok (.iload 4, 2) := by decide +kernel
theorem dX3_text_57 : decode cX3_text 57 = .ok (.invokevirtual 119, 3) := by decide +kernel
theorem dX3_text_60 : decode cX3_text 60 = .ok (.ifCond .eq 17, 3) := by decide +kernel
theorem dX3_text_63 : decode cX3_text 63 = .ok (.aload_n 3, 1) := by decide +kernel
theorem dX3_text_64 : decode cX3_text 64 = .ok (.aload_n 2, 1) := by decide +kernel
theorem dX3_text_65 : decode cX3_text 65 = .ok (.iload 4, 2) := by decide +kernel
theorem dX3_text_67 : decode cX3_text 67 = .ok (.invokevirtual 123, 3) := by decide +kernel
theorem dX3_text_70 : decode cX3_text 70 = .ok (.invokevirtual 245, 3) := by decide +kernel
theorem dX3_text_73 : decode cX3_text 73 = .ok (.pop, 1) := by decide +kernel
theorem dX3_text_74 : decode cX3_text 74 = .ok (.goto 10, 3) := by decide +kernel
theorem dX3_text_77 : decode cX3_text 77 = .ok (.aload_n 3, 1) := by decide +kernel
theorem dX3_text_78 : decode cX3_text 78 = .ok (.bipush 45, 2) := by decide +kernel
theorem dX3_text_80 : decode cX3_text 80 = .ok (.invokevirtual 241, 3) := by decide +kernel
theorem dX3_text_83 : decode cX3_text 83 = .ok (.pop, 1) := by decide +kernel
theorem dX3_text_84 : decode cX3_text 84 = .ok (.iinc 4 1, 3) := by decide +kernel
theorem dX3_text_87 : decode cX3_text 87 = .ok (.goto (-58), 3) := by decide +kernel
theorem dX3_text_90 : decode cX3_text 90 = .ok (.aload_n 3, 1) := by decide +kernel
theorem dX3_text_91 : decode cX3_text 91 = .ok (.invokevirtual 237, 3) := by decide +kernel
theorem dX3_text_94 : decode cX3_text 94 = .ok (.areturn, 1) := by decide +kernel
theorem dX3_isSame_0 : decode cX3_isSame 0 = .ok (.aload_n 0, 1) := by decide +kernel
theorem dX3_isSame_1 : decode cX3_isSame 1 = .ok (.iload_n 1, 1) := by decide +kernel
theorem dX3_isSame_2 : decode cX3_isSame 2 = .ok (.invokevirtual 94, 3) := by decide +kernel
theorem dX3_isSame_5 : decode cX3_isSame 5 = .ok (.astore_n 3, 1) := by decide +kernel
theorem dX3_isSame_6 : decode cX3_isSame 6 = .ok (.aload_n 0, 1) := by decide +kernel
theorem dX3_isSame_7 : decode cX3_isSame 7 = .ok (.iload_n 2, 1) := by decide +kernel
theorem dX3_isSame_8 : decode cX3_isSame 8 = .ok (.invokevirtual 94, 3) := by decide +kernel
theorem dX3_isSame_11 : decode cX3_isSame 11 = .ok (.astore 4, 2) := by decide +kernel
theorem dX3_isSame_13 : decode cX3_isSame 13 = .ok (.aload_n 3, 1) := by decide +kernel
theorem dX3_isSame_14 : decode cX3_isSame 14 = .ok (.invokevirtual 109, 3) := by decide +kernel
theorem dX3_isSame_17 : decode cX3_isSame 17 = .ok (.ifCond .ne 11, 3) := by decide +kernel
theorem dX3_isSame_20 : decode cX3_isSame 20 = .ok (.aload 4, 2) := by decide +kernel
theorem dX3_isSame_22 : decode cX3_isSame 22 = .ok (.invokevirtual 109, 3) := by decide +kernel
theorem dX3_isSame_25 : decode cX3_isSame 25 = .ok (.ifCond .eq 24, 3) := by decide +kernel
theorem dX3_isSame_28 : decode cX3_isSame 28 = .ok (.aload_n 3, 1) := by decide +kernel
theorem dX3_isSame_29 : decode cX3_isSame 29 = .ok (.invokevirtual 109, 3) := by decide +kernel
theorem dX3_isSame_32 : decode cX3_isSame 32 = .ok (.ifCond .eq 15, 3) := by decide +kernel
theorem dX3_isSame_35 : decode cX3_isSame 35 = .ok (.aload 4, 2) := by decide +kernel
theorem dX3_isSame_37 : decode cX3_isSame 37 = .ok (.invokevirtual 109, 3) := by decide +kernel
theorem dX3_isSame_40 : decode cX3_isSame 40 = .ok (.ifCond .eq 7, 3) := by decide +kernel
theorem dX3_isSame_43 : decode cX3_isSame 43 = .ok (.iconst 1, 1) := by decide +kernel
theorem dX3_isSame_44 : decode cX3_isSame 44 = .ok (.goto 4, 3) := by decide +kernel
theorem dX3_isSame_47 : decode cX3_isSame 47 = .ok (.iconst 0, 1) := by decide +kernel
theorem dX3_isSame_48 : decode cX3_isSame 48 = .ok (.ireturn, 1) := by decide +kernel
theorem dX3_isSame_49 : decode cX3_isSame 49 = .ok (.aload_n 3, 1) := by decide +kernel
theorem dX3_isSame_50 : decode cX3_isSame 50 = .ok (.getfield 113, 3) := by decide +kernel
theorem dX3_isSame_53 : decode cX3_isSame 53 = .ok (.aload 4, 2) := by decide +kernel
theorem dX3_isSame_55 : decode cX3_isSame 55 = .ok (.getfield 113, 3) := by decide +kernel
theorem dX3_isSame_58 : decode cX3_isSame 58 = .ok (.if_icmp .ne 7, 3) := by decide +kernel
theorem dX3_isSame_61 : decode cX3_isSame 61 = .ok (.iconst 1, 1) := by decide +kernel
theorem dX3_isSame_62 : decode cX3_isSame 62 = .ok (.goto 4, 3) := by decide +kernel
theorem dX3_isSame_65 : decode cX3_isSame 65 = .ok (.iconst 0, 1) := by decide +kernel
theorem dX3_isSame_66 : decode cX3_isSame 66 = .ok (.istore 5, 2) := by decide +kernel
theorem dX3_isSame_68 : decode cX3_isSame 68 = .ok (.iconst 1, 1) := by decide +kernel
theorem dX3_isSame_69 : decode cX3_isSame 69 = .ok (.istore 6, 2) := by decide +kernel
theorem dX3_isSame_71 : decode cX3_isSame 71 = .ok (.iload 6, 2) := by decide +kernel
theorem dX3_isSame_73 : decode cX3_isSame 73 = .ok (.aload_n 0, 1) := by decide +kernel
theorem dX3_isSame_74 : decode cX3_isSame 74 = .ok (.getfield 10, 3) := by decide +kernel
theorem dX3_isSame_77 : decode cX3_isSame 77 = .ok (.getfield 116, 3) := by decide +kernel
theorem dX3_isSame_80 : decode cX3_isSame 80 = .ok (.if_icmp .gt 37, 3) := by decide +kernel
theorem dX3_isSame_83 : decode cX3_isSame 83 = .ok (.iload 5, 2) := by decide +kernel
theorem dX3_isSame_85 : decode cX3_isSame 85 = .ok (.ifCond .eq 23, 3) := by decide +kernel
theorem dX3_isSame_88 : decode cX3_isSame 88 = .ok (.aload_n 3, 1) := by decide +kernel
theorem dX3_isSame_89 : decode cX3_isSame 89 = .ok (.iload 6, 2) := by decide +kernel
theorem dX3_isSame_91 : decode cX3_isSame 91 = .ok (.invokevirtual 123, 3) := by decide +kernel
theorem dX3_isSame_94 : decode cX3_isSame 94 = .ok (.aload 4, 2) := by decide +kernel
theorem dX3_isSame_96 : decode cX3_isSame 96 = .ok (.iload 6, 2) := by decide +kernel
theorem dX3_isSame_98 : decode cX3_isSame 98 = .ok (.invokevirtual 123, 3) := by decide +kernel
theorem dX3_isSame_101 : decode cX3_isSame 101 = .ok (.if_icmp .ne 7, 3) := by decide +kernel
theorem dX3_isSame_104 : decode cX3_isSame 104 = .ok (.iconst 1, 1) := by decide +kernel
theorem dX3_isSame_105 : decode cX3_isSame 105 = .ok (.goto 4, 3) := by decide +kernel
theorem dX3_isSame_108 : decode cX3_isSame 108 = .ok (.iconst 0, 1) := by decide +kernel
theorem dX3_isSame_109 : decode cX3_isSame 109 = .ok (.istore 5, 2) := by decide +kernel
theorem dX3_isSame_111 : decode cX3_isSame 111 = .ok (.iinc 6 1, 3) := by decide +kernel
theorem dX3_isSame_114 : decode cX3_isSame 114 = .ok (.goto (-43), 3) := by decide +kernel
theorem dX3_isSame_117 : decode cX3_isSame 117 = .ok (.iload 5, 2) := by decide +kernel
theorem dX3_isSame_119 : decode cX3_isSame 119 = .ok (.ireturn, 1) := by decide +kernel
theorem dX3_house_0 : decode cX3_house 0 = .ok (.iload_n 1, 1) := by decide +kernel
theorem dX3_house_1 : decode cX3_house 1 = .ok (.tableswitch 93 0 6 #[43, 51, 59, 67, 75, 83, 88], 43) := by decide +kernel
theorem dX3_house_44 : decode cX3_house 44 = .ok (.aload_n 0, 1) := by decide +kernel
theorem dX3_house_45 : decode cX3_house 45 = .ok (.getfield 10, 3) := by decide +kernel
theorem dX3_house_48 : decode cX3_house 48 = .ok (.getfield 248, 3) := by decide +kernel
theorem dX3_house_51 : decode cX3_house 51 = .ok (.ireturn, 1) := by decide +kernel
theorem dX3_house_52 : decode cX3_house 52 = .ok (.aload_n 0, 1) := by decide +kernel
theorem dX3_house_53 : decode cX3_house 53 = .ok (.getfield 10, 3) := by decide +kernel
theorem dX3_house_56 : decode cX3_house 56 = .ok (.getfield 49, 3) := by decide +kernel
theorem dX3_house_59 : decode cX3_house 59 = .ok (.ireturn, 1) := by decide +kernel
theorem dX3_house_60 : decode cX3_house 60 = .ok (.aload_n 0, 1) := by decide +kernel
theorem dX3_house_61 : decode cX3_house 61 = .ok (.getfield 10, 3) := by decide +kernel
theorem dX3_house_64 : decode cX3_house 64 = .ok (.getfield 164, 3) := by decide +kernel
theorem dX3_house_67 : decode cX3_house 67 = .ok (.ireturn, 1) := by decide +kernel
theorem dX3_house_68 : decode cX3_house 68 = .ok (.aload_n 0, 1) := by decide +kernel
theorem dX3_house_69 : decode cX3_house 69 = .ok (.getfield 10, 3) := by decide +kernel
theorem dX3_house_72 : decode cX3_house 72 = .ok (.getfield 251, 3) := by decide +kernel
theorem dX3_house_75 : decode cX3_house 75 = .ok (.ireturn, 1) := by decide +kernel
theorem dX3_house_76 : decode cX3_house 76 = .ok (.aload_n 0, 1) := by decide +kernel
theorem dX3_house_77 : decode cX3_house 77 = .ok (.getfield 10, 3) := by decide +kernel
theorem dX3_house_80 : decode cX3_house 80 = .ok (.getfield 116, 3) := by decide +kernel
theorem dX3_house_83 : decode cX3_house 83 = .ok (.ireturn, 1) := by decide +kernel
theorem dX3_house_84 : decode cX3_house 84 = .ok (.aload_n 0, 1) := by decide +kernel
theorem dX3_house_85 : decode cX3_house 85 = .ok (.invokevirtual 254, 3) := by decide +kernel
theorem dX3_house_88 : decode cX3_house 88 = .ok (.ireturn, 1) := by decide +kernel
theorem dX3_house_89 : decode cX3_house 89 = .ok (.aload_n 0, 1) := by decide +kernel
theorem dX3_house_90 : decode cX3_house 90 = .ok (.getfield 34, 3) := by decide +kernel
theorem dX3_house_93 : decode cX3_house 93 = .ok (.ireturn, 1) := by decide +kernel
theorem dX3_house_94 : decode cX3_house 94 = .ok (.new 42, 3) := by decide +kernel
theorem dX3_house_97 : decode cX3_house 97 = .ok (.dup, 1) := by decide +kernel
theorem dX3_house_98 : decode cX3_house 98 = .ok (.ldc_w 257, 3) := by decide +kernel
theorem dX3_house_101 : decode cX3_house 101 = .ok (.invokespecial 46, 3) := by decide +kernel
theorem dX3_house_104 : decode cX3_house 104 = .ok (.athrow, 1) := by decide +kernel
theorem dX3_isSound_0 : decode cX3_isSound 0 = .ok (.iconst 0, 1) := by decide +kernel
theorem dX3_isSound_1 : decode cX3_isSound 1 = .ok (.istore_n 1, 1) := by decide +kernel
theorem dX3_isSound_2 : decode cX3_isSound 2 = .ok (.iload_n 1, 1) := by decide +kernel
theorem dX3_isSound_3 : decode cX3_isSound 3 = .ok (.aload_n 0, 1) := by decide +kernel
theorem dX3_isSound_4 : decode cX3_isSound 4 = .ok (.getfield 25, 3) := by decide +kernel
theorem dX3_isSound_7 : decode cX3_isSound 7 = .ok (.arraylength, 1) := by decide +kernel
theorem dX3_isSound_8 : decode cX3_isSound 8 = .ok (.if_icmp .ge 37, 3) := by decide +kernel
theorem dX3_isSound_11 : decode cX3_isSound 11 = .ok (.aload_n 0, 1) := by decide +kernel
theorem dX3_isSound_12 : decode cX3_isSound 12 = .ok (.aload_n 0, 1) := by decide +kernel
theorem dX3_isSound_13 : decode cX3_isSound 13 = .ok (.getfield 25, 3) := by decide +kernel
theorem dX3_isSound_16 : decode cX3_isSound 16 = .ok (.iload_n 1, 1) := by decide +kernel
theorem dX3_isSound_17 : decode cX3_isSound 17 = .ok (.aaload, 1) := by decide +kernel
theorem dX3_isSound_18 : decode cX3_isSound 18 = .ok (.invokevirtual 259, 3) := by decide +kernel
theorem dX3_isSound_21 : decode cX3_isSound 21 = .ok (.ifCond .eq 16, 3) := by decide +kernel
theorem dX3_isSound_24 : decode cX3_isSound 24 = .ok (.aload_n 0, 1) := by decide +kernel
theorem dX3_isSound_25 : decode cX3_isSound 25 = .ok (.aload_n 0, 1) := by decide +kernel
theorem dX3_isSound_26 : decode cX3_isSound 26 = .ok (.getfield 25, 3) := by decide +kernel
theorem dX3_isSound_29 : decode cX3_isSound 29 = .ok (.iload_n 1, 1) := by decide +kernel
theorem dX3_isSound_30 : decode cX3_isSound 30 = .ok (.aaload, 1) := by decide +kernel
theorem dX3_isSound_31 : decode cX3_isSound 31 = .ok (.invokevirtual 263, 3) := by decide +kernel
theorem dX3_isSound_34 : decode cX3_isSound 34 = .ok (.ifCond .ne 5, 3) := by decide +kernel
theorem dX3_isSound_37 : decode cX3_isSound 37 = .ok (.iconst 0, 1) := by decide +kernel
theorem dX3_isSound_38 : decode cX3_isSound 38 = .ok (.ireturn, 1) := by decide +kernel
theorem dX3_isSound_39 : decode cX3_isSound 39 = .ok (.iinc 1 1, 3) := by decide +kernel
theorem dX3_isSound_42 : decode cX3_isSound 42 = .ok (.goto (-40), 3) := by decide +kernel
theorem dX3_isSound_45 : decode cX3_isSound 45 = .ok (.aload_n 0, 1) := by decide +kernel
theorem dX3_isSound_46 : decode cX3_isSound 46 = .ok (.aload_n 0, 1) := by decide +kernel
theorem dX3_isSound_47 : decode cX3_isSound 47 = .ok (.invokevirtual 266, 3) := by decide +kernel
theorem dX3_isSound_50 : decode cX3_isSound 50 = .ok (.iconst 0, 1) := by decide +kernel
theorem dX3_isSound_51 : decode cX3_isSound 51 = .ok (.invokevirtual 91, 3) := by decide +kernel
theorem dX3_isSound_54 : decode cX3_isSound 54 = .ok (.iconst 1, 1) := by decide +kernel
theorem dX3_isSound_55 : decode cX3_isSound 55 = .ok (.if_icmp .ne 14, 3) := by decide +kernel
theorem dX3_isSound_58 : decode cX3_isSound 58 = .ok (.aload_n 0, 1) := by decide +kernel
theorem dX3_isSound_59 : decode cX3_isSound 59 = .ok (.invokevirtual 269, 3) := by decide +kernel
theorem dX3_isSound_62 : decode cX3_isSound 62 = .ok (.ifCond .eq 7, 3) := by decide +kernel
theorem dX3_isSound_65 : decode cX3_isSound 65 = .ok (.iconst 1, 1) := by decide +kernel
theorem dX3_isSound_66 : decode cX3_isSound 66 = .ok (.goto 4, 3) := by decide +kernel
theorem dX3_isSound_69 : decode cX3_isSound 69 = .ok (.iconst 0, 1) := by decide +kernel
theorem dX3_isSound_70 : decode cX3_isSound 70 = .ok (.ireturn, 1) := by decide +kernel
theorem dX3_digest_0 : decode cX3_digest 0 = .ok (.ldc2_w 272, 3) := by decide +kernel
theorem dX3_digest_3 : decode cX3_digest 3 = .ok (.lstore_n 1, 1) := by decide +kernel
theorem dX3_digest_4 : decode cX3_digest 4 = .ok (.iconst 0, 1) := by decide +kernel
theorem dX3_digest_5 : decode cX3_digest 5 = .ok (.istore_n 3, 1) := by decide +kernel
theorem dX3_digest_6 : decode cX3_digest 6 = .ok (.iload_n 3, 1) := by decide +kernel
theorem dX3_digest_7 : decode cX3_digest 7 = .ok (.bipush 6, 2) := by decide +kernel
theorem dX3_digest_9 : decode cX3_digest 9 = .ok (.if_icmp .gt 22, 3) := by decide +kernel
theorem dX3_digest_12 : decode cX3_digest 12 = .ok (.lload_n 1, 1) := by decide +kernel
theorem dX3_digest_13 : decode cX3_digest 13 = .ok (.ldc2_w 274, 3) := by decide +kernel
theorem dX3_digest_16 : decode cX3_digest 16 = .ok (.lmul, 1) := by decide +kernel
theorem dX3_digest_17 : decode cX3_digest 17 = .ok (.aload_n 0, 1) := by decide +kernel
theorem dX3_digest_18 : decode cX3_digest 18 = .ok (.iload_n 3, 1) := by decide +kernel
theorem dX3_digest_19 : decode cX3_digest 19 = .ok (.invokevirtual 276, 3) := by decide +kernel
theorem dX3_digest_22 : decode cX3_digest 22 = .ok (.i2l, 1) := by decide +kernel
theorem dX3_digest_23 : decode cX3_digest 23 = .ok (.ladd, 1) := by decide +kernel
theorem dX3_digest_24 : decode cX3_digest 24 = .ok (.lstore_n 1, 1) := by decide +kernel
theorem dX3_digest_25 : decode cX3_digest 25 = .ok (.iinc 3 1, 3) := by decide +kernel
theorem dX3_digest_28 : decode cX3_digest 28 = .ok (.goto (-22), 3) := by decide +kernel
theorem dX3_digest_31 : decode cX3_digest 31 = .ok (.iconst 0, 1) := by decide +kernel
theorem dX3_digest_32 : decode cX3_digest 32 = .ok (.istore_n 3, 1) := by decide +kernel
theorem dX3_digest_33 : decode cX3_digest 33 = .ok (.iload_n 3, 1) := by decide +kernel
theorem dX3_digest_34 : decode cX3_digest 34 = .ok (.bipush 6, 2) := by decide +kernel
theorem dX3_digest_36 : decode cX3_digest 36 = .ok (.if_icmp .ge 105, 3) := by decide +kernel
theorem dX3_digest_39 : decode cX3_digest 39 = .ok (.iconst 0, 1) := by decide +kernel
theorem dX3_digest_40 : decode cX3_digest 40 = .ok (.istore 4, 2) := by decide +kernel
theorem dX3_digest_42 : decode cX3_digest 42 = .ok (.iload 4, 2) := by decide +kernel
theorem dX3_digest_44 : decode cX3_digest 44 = .ok (.iconst 3, 1) := by decide +kernel
theorem dX3_digest_45 : decode cX3_digest 45 = .ok (.if_icmp .gt 24, 3) := by decide +kernel
theorem dX3_digest_48 : decode cX3_digest 48 = .ok (.lload_n 1, 1) := by decide +kernel
theorem dX3_digest_49 : decode cX3_digest 49 = .ok (.ldc2_w 274, 3) := by decide +kernel
theorem dX3_digest_52 : decode cX3_digest 52 = .ok (.lmul, 1) := by decide +kernel
theorem dX3_digest_53 : decode cX3_digest 53 = .ok (.aload_n 0, 1) := by decide +kernel
theorem dX3_digest_54 : decode cX3_digest 54 = .ok (.iload_n 3, 1) := by decide +kernel
theorem dX3_digest_55 : decode cX3_digest 55 = .ok (.iload 4, 2) := by decide +kernel
theorem dX3_digest_57 : decode cX3_digest 57 = .ok (.invokevirtual 279, 3) := by decide +kernel
theorem dX3_digest_60 : decode cX3_digest 60 = .ok (.i2l, 1) := by decide +kernel
theorem dX3_digest_61 : decode cX3_digest 61 = .ok (.ladd, 1) := by decide +kernel
theorem dX3_digest_62 : decode cX3_digest 62 = .ok (.lstore_n 1, 1) := by decide +kernel
theorem dX3_digest_63 : decode cX3_digest 63 = .ok (.iinc 4 1, 3) := by decide +kernel
theorem dX3_digest_66 : decode cX3_digest 66 = .ok (.goto (-24), 3) := by decide +kernel
theorem dX3_digest_69 : decode cX3_digest 69 = .ok (.iconst 1, 1) := by decide +kernel
theorem dX3_digest_70 : decode cX3_digest 70 = .ok (.istore 4, 2) := by decide +kernel
theorem dX3_digest_72 : decode cX3_digest 72 = .ok (.iload 4, 2) := by decide +kernel
theorem dX3_digest_74 : decode cX3_digest 74 = .ok (.aload_n 0, 1) := by decide +kernel
theorem dX3_digest_75 : decode cX3_digest 75 = .ok (.getfield 10, 3) := by decide +kernel
theorem dX3_digest_78 : decode cX3_digest 78 = .ok (.getfield 116, 3) := by decide +kernel
theorem dX3_digest_81 : decode cX3_digest 81 = .ok (.if_icmp .gt 24, 3) := by decide +kernel
theorem dX3_digest_84 : decode cX3_digest 84 = .ok (.lload_n 1, 1) := by decide +kernel
theorem dX3_digest_85 : decode cX3_digest 85 = .ok (.ldc2_w 274, 3) := by decide +kernel
theorem dX3_digest_88 : decode cX3_digest 88 = .ok (.lmul, 1) := by decide +kernel
theorem dX3_digest_89 : decode cX3_digest 89 = .ok (.aload_n 0, 1) := by decide +kernel
theorem dX3_digest_90 : decode cX3_digest 90 = .ok (.iload_n 3, 1) := by decide +kernel
theorem dX3_digest_91 : decode cX3_digest 91 = .ok (.iload 4, 2) := by decide +kernel
theorem dX3_digest_93 : decode cX3_digest 93 = .ok (.invokevirtual 282, 3) := by decide +kernel
theorem dX3_digest_96 : decode cX3_digest 96 = .ok (.i2l, 1) := by decide +kernel
theorem dX3_digest_97 : decode cX3_digest 97 = .ok (.ladd, 1) := by decide +kernel
theorem dX3_digest_98 : decode cX3_digest 98 = .ok (.lstore_n 1, 1) := by decide +kernel
theorem dX3_digest_99 : decode cX3_digest 99 = .ok (.iinc 4 1, 3) := by decide +kernel
theorem dX3_digest_102 : decode cX3_digest 102 = .ok (.goto (-30), 3) := by decide +kernel
theorem dX3_digest_105 : decode cX3_digest 105 = .ok (.iconst 0, 1) := by decide +kernel
theorem dX3_digest_106 : decode cX3_digest 106 = .ok (.istore 4, 2) := by decide +kernel
theorem dX3_digest_108 : decode cX3_digest 108 = .ok (.iload 4, 2) := by decide +kernel
theorem dX3_digest_110 : decode cX3_digest 110 = .ok (.iconst 3, 1) := by decide +kernel
theorem dX3_digest_111 : decode cX3_digest 111 = .ok (.if_icmp .gt 24, 3) := by decide +kernel
theorem dX3_digest_114 : decode cX3_digest 114 = .ok (.lload_n 1, 1) := by decide +kernel
theorem dX3_digest_115 : decode cX3_digest 115 = .ok (.ldc2_w 274, 3) := by decide +kernel
theorem dX3_digest_118 : decode cX3_digest 118 = .ok (.lmul, 1) := by decide +kernel
theorem dX3_digest_119 : decode cX3_digest 119 = .ok (.aload_n 0, 1) := by decide +kernel
theorem dX3_digest_120 : decode cX3_digest 120 = .ok (.iload_n 3, 1) := by decide +kernel
theorem dX3_digest_121 : decode cX3_digest 121 = .ok (.iload 4, 2) := by decide +kernel
theorem dX3_digest_123 : decode cX3_digest 123 = .ok (.invokevirtual 285, 3) := by decide +kernel
theorem dX3_digest_126 : decode cX3_digest 126 = .ok (.i2l, 1) := by decide +kernel
theorem dX3_digest_127 : decode cX3_digest 127 = .ok (.ladd, 1) := by decide +kernel
theorem dX3_digest_128 : decode cX3_digest 128 = .ok (.lstore_n 1, 1) := by decide +kernel
theorem dX3_digest_129 : decode cX3_digest 129 = .ok (.iinc 4 1, 3) := by decide +kernel
theorem dX3_digest_132 : decode cX3_digest 132 = .ok (.goto (-24), 3) := by decide +kernel
theorem dX3_digest_135 : decode cX3_digest 135 = .ok (.iinc 3 1, 3) := by decide +kernel
theorem dX3_digest_138 : decode cX3_digest 138 = .ok (.goto (-105), 3) := by decide +kernel
theorem dX3_digest_141 : decode cX3_digest 141 = .ok (.lload_n 1, 1) := by decide +kernel
theorem dX3_digest_142 : decode cX3_digest 142 = .ok (.ldc2_w 274, 3) := by decide +kernel
theorem dX3_digest_145 : decode cX3_digest 145 = .ok (.lmul, 1) := by decide +kernel
theorem dX3_digest_146 : decode cX3_digest 146 = .ok (.aload_n 0, 1) := by decide +kernel
theorem dX3_digest_147 : decode cX3_digest 147 = .ok (.invokevirtual 288, 3) := by decide +kernel
theorem dX3_digest_150 : decode cX3_digest 150 = .ok (.ifCond .eq 7, 3) := by decide +kernel
theorem dX3_digest_153 : decode cX3_digest 153 = .ok (.iconst 1, 1) := by decide +kernel
theorem dX3_digest_154 : decode cX3_digest 154 = .ok (.goto 4, 3) := by decide +kernel
theorem dX3_digest_157 : decode cX3_digest 157 = .ok (.iconst 0, 1) := by decide +kernel
theorem dX3_digest_158 : decode cX3_digest 158 = .ok (.i2l, 1) := by decide +kernel
theorem dX3_digest_159 : decode cX3_digest 159 = .ok (.ladd, 1) := by decide +kernel
theorem dX3_digest_160 : decode cX3_digest 160 = .ok (.lreturn, 1) := by decide +kernel
theorem dX3_dealAt_0 : decode cX3_dealAt 0 = .ok (.iload_n 1, 1) := by decide +kernel
theorem dX3_dealAt_1 : decode cX3_dealAt 1 = .ok (.ifCond .lt 12, 3) := by decide +kernel
theorem dX3_dealAt_4 : decode cX3_dealAt 4 = .ok (.iload_n 1, 1) := by decide +kernel
theorem dX3_dealAt_5 : decode cX3_dealAt 5 = .ok (.aload_n 0, 1) := by decide +kernel
theorem dX3_dealAt_6 : decode cX3_dealAt 6 = .ok (.getfield 25, 3) := by decide +kernel
theorem dX3_dealAt_9 : decode cX3_dealAt 9 = .ok (.arraylength, 1) := by decide +kernel
theorem dX3_dealAt_10 : decode cX3_dealAt 10 = .ok (.if_icmp .lt 14, 3) := by decide +kernel
theorem dX3_dealAt_13 : decode cX3_dealAt 13 = .ok (.new 291, 3) := by decide +kernel
theorem dX3_dealAt_16 : decode cX3_dealAt 16 = .ok (.dup, 1) := by decide +kernel
theorem dX3_dealAt_17 : decode cX3_dealAt 17 = .ok (.ldc_w 293, 3) := by decide +kernel
theorem dX3_dealAt_20 : decode cX3_dealAt 20 = .ok (.invokespecial 295, 3) := by decide +kernel
theorem dX3_dealAt_23 : decode cX3_dealAt 23 = .ok (.athrow, 1) := by decide +kernel
theorem dX3_dealAt_24 : decode cX3_dealAt 24 = .ok (.aload_n 0, 1) := by decide +kernel
theorem dX3_dealAt_25 : decode cX3_dealAt 25 = .ok (.getfield 25, 3) := by decide +kernel
theorem dX3_dealAt_28 : decode cX3_dealAt 28 = .ok (.iload_n 1, 1) := by decide +kernel
theorem dX3_dealAt_29 : decode cX3_dealAt 29 = .ok (.aaload, 1) := by decide +kernel
theorem dX3_dealAt_30 : decode cX3_dealAt 30 = .ok (.areturn, 1) := by decide +kernel
theorem dX3_requireHolder_0 : decode cX3_requireHolder 0 = .ok (.iload_n 1, 1) := by decide +kernel
theorem dX3_requireHolder_1 : decode cX3_requireHolder 1 = .ok (.iconst 1, 1) := by decide +kernel
theorem dX3_requireHolder_2 : decode cX3_requireHolder 2 = .ok (.if_icmp .lt 14, 3) := by decide +kernel
theorem dX3_requireHolder_5 : decode cX3_requireHolder 5 = .ok (.iload_n 1, 1) := by decide +kernel
theorem dX3_requireHolder_6 : decode cX3_requireHolder 6 = .ok (.aload_n 0, 1) := by decide +kernel
theorem dX3_requireHolder_7 : decode cX3_requireHolder 7 = .ok (.getfield 10, 3) := by decide +kernel
theorem dX3_requireHolder_10 : decode cX3_requireHolder 10 = .ok (.getfield 116, 3) := by decide +kernel
theorem dX3_requireHolder_13 : decode cX3_requireHolder 13 = .ok (.if_icmp .le 14, 3) := by decide +kernel
theorem dX3_requireHolder_16 : decode cX3_requireHolder 16 = .ok (.new 291, 3) := by decide +kernel
theorem dX3_requireHolder_19 : decode cX3_requireHolder 19 = .ok (.dup, 1) := by decide +kernel
theorem dX3_requireHolder_20 : decode cX3_requireHolder 20 = .ok (.ldc_w 296, 3) := by decide +kernel
theorem dX3_requireHolder_23 : decode cX3_requireHolder 23 = .ok (.invokespecial 295, 3) := by decide +kernel
theorem dX3_requireHolder_26 : decode cX3_requireHolder 26 = .ok (.athrow, 1) := by decide +kernel
theorem dX3_requireHolder_27 : decode cX3_requireHolder 27 = .ok (.return_, 1) := by decide +kernel
theorem dX3_requireSet_0 : decode cX3_requireSet 0 = .ok (.iload_n 1, 1) := by decide +kernel
theorem dX3_requireSet_1 : decode cX3_requireSet 1 = .ok (.iconst 1, 1) := by decide +kernel
theorem dX3_requireSet_2 : decode cX3_requireSet 2 = .ok (.if_icmp .lt 11, 3) := by decide +kernel
theorem dX3_requireSet_5 : decode cX3_requireSet 5 = .ok (.iload_n 1, 1) := by decide +kernel
theorem dX3_requireSet_6 : decode cX3_requireSet 6 = .ok (.aload_n 0, 1) := by decide +kernel
theorem dX3_requireSet_7 : decode cX3_requireSet 7 = .ok (.invokevirtual 266, 3) := by decide +kernel
theorem dX3_requireSet_10 : decode cX3_requireSet 10 = .ok (.if_icmp .le 14, 3) := by decide +kernel
theorem dX3_requireSet_13 : decode cX3_requireSet 13 = .ok (.new 42, 3) := by decide +kernel
theorem dX3_requireSet_16 : decode cX3_requireSet 16 = .ok (.dup, 1) := by decide +kernel
theorem dX3_requireSet_17 : decode cX3_requireSet 17 = .ok (.ldc_w 298, 3) := by decide +kernel
theorem dX3_requireSet_20 : decode cX3_requireSet 20 = .ok (.invokespecial 46, 3) := by decide +kernel
theorem dX3_requireSet_23 : decode cX3_requireSet 23 = .ok (.athrow, 1) := by decide +kernel
theorem dX3_requireSet_24 : decode cX3_requireSet 24 = .ok (.return_, 1) := by decide +kernel
theorem dX3_requireToldDegree_0 : decode cX3_requireToldDegree 0 = .ok (.iload_n 0, 1) := by decide +kernel
theorem dX3_requireToldDegree_1 : decode cX3_requireToldDegree 1 = .ok (.ifCond .lt 8, 3) := by decide +kernel
theorem dX3_requireToldDegree_4 : decode cX3_requireToldDegree 4 = .ok (.iload_n 0, 1) := by decide +kernel
theorem dX3_requireToldDegree_5 : decode cX3_requireToldDegree 5 = .ok (.iconst 3, 1) := by decide +kernel
theorem dX3_requireToldDegree_6 : decode cX3_requireToldDegree 6 = .ok (.if_icmp .le 14, 3) := by decide +kernel
theorem dX3_requireToldDegree_9 : decode cX3_requireToldDegree 9 = .ok (.new 42, 3) := by decide +kernel
theorem dX3_requireToldDegree_12 : decode cX3_requireToldDegree 12 = .ok (.dup, 1) := by decide +kernel
theorem dX3_requireToldDegree_13 : decode cX3_requireToldDegree 13 = .ok (.ldc_w 300, 3) := by decide +kernel
theorem dX3_requireToldDegree_16 : decode cX3_requireToldDegree 16 = .ok (.invokespecial 46, 3) := by decide +kernel
theorem dX3_requireToldDegree_19 : decode cX3_requireToldDegree 19 = .ok (.athrow, 1) := by decide +kernel
theorem dX3_requireToldDegree_20 : decode cX3_requireToldDegree 20 = .ok (.return_, 1) := by decide +kernel
theorem dX3_requireCoefficient_0 : decode cX3_requireCoefficient 0 = .ok (.iload_n 0, 1) := by decide +kernel
theorem dX3_requireCoefficient_1 : decode cX3_requireCoefficient 1 = .ok (.ifCond .lt 9, 3) := by decide +kernel
theorem dX3_requireCoefficient_4 : decode cX3_requireCoefficient 4 = .ok (.iload_n 0, 1) := by decide +kernel
theorem dX3_requireCoefficient_5 : decode cX3_requireCoefficient 5 = .ok (.bipush 6, 2) := by decide +kernel
theorem dX3_requireCoefficient_7 : decode cX3_requireCoefficient 7 = .ok (.if_icmp .le 14, 3) := by decide +kernel
theorem dX3_requireCoefficient_10 : decode cX3_requireCoefficient 10 = .ok (.new 42, 3) := by decide +kernel
theorem dX3_requireCoefficient_13 : decode cX3_requireCoefficient 13 = .ok (.dup, 1) := by decide +kernel
theorem dX3_requireCoefficient_14 : decode cX3_requireCoefficient 14 = .ok (.ldc_w 302, 3) := by decide +kernel
theorem dX3_requireCoefficient_17 : decode cX3_requireCoefficient 17 = .ok (.invokespecial 46, 3) := by decide +kernel
theorem dX3_requireCoefficient_20 : decode cX3_requireCoefficient 20 = .ok (.athrow, 1) := by decide +kernel
theorem dX3_requireCoefficient_21 : decode cX3_requireCoefficient 21 = .ok (.return_, 1) := by decide +kernel
theorem dX3_bitOf_0 : decode cX3_bitOf 0 = .ok (.iconst 1, 1) := by decide +kernel
theorem dX3_bitOf_1 : decode cX3_bitOf 1 = .ok (.iload_n 0, 1) := by decide +kernel
theorem dX3_bitOf_2 : decode cX3_bitOf 2 = .ok (.iconst 1, 1) := by decide +kernel
theorem dX3_bitOf_3 : decode cX3_bitOf 3 = .ok (.isub, 1) := by decide +kernel
theorem dX3_bitOf_4 : decode cX3_bitOf 4 = .ok (.ishl, 1) := by decide +kernel
theorem dX3_bitOf_5 : decode cX3_bitOf 5 = .ok (.ireturn, 1) := by decide +kernel
theorem dX3_isIn_0 : decode cX3_isIn 0 = .ok (.iload_n 0, 1) := by decide +kernel
theorem dX3_isIn_1 : decode cX3_isIn 1 = .ok (.iload_n 1, 1) := by decide +kernel
theorem dX3_isIn_2 : decode cX3_isIn 2 = .ok (.iconst 1, 1) := by decide +kernel
theorem dX3_isIn_3 : decode cX3_isIn 3 = .ok (.isub, 1) := by decide +kernel
theorem dX3_isIn_4 : decode cX3_isIn 4 = .ok (.ishr, 1) := by decide +kernel
theorem dX3_isIn_5 : decode cX3_isIn 5 = .ok (.iconst 1, 1) := by decide +kernel
theorem dX3_isIn_6 : decode cX3_isIn 6 = .ok (.iand, 1) := by decide +kernel
theorem dX3_isIn_7 : decode cX3_isIn 7 = .ok (.iconst 1, 1) := by decide +kernel
theorem dX3_isIn_8 : decode cX3_isIn 8 = .ok (.if_icmp .ne 7, 3) := by decide +kernel
theorem dX3_isIn_11 : decode cX3_isIn 11 = .ok (.iconst 1, 1) := by decide +kernel
theorem dX3_isIn_12 : decode cX3_isIn 12 = .ok (.goto 4, 3) := by decide +kernel
theorem dX3_isIn_15 : decode cX3_isIn 15 = .ok (.iconst 0, 1) := by decide +kernel
theorem dX3_isIn_16 : decode cX3_isIn 16 = .ok (.ireturn, 1) := by decide +kernel
theorem dX3_allHolders_0 : decode cX3_allHolders 0 = .ok (.iconst 1, 1) := by decide +kernel
theorem dX3_allHolders_1 : decode cX3_allHolders 1 = .ok (.aload_n 0, 1) := by decide +kernel
theorem dX3_allHolders_2 : decode cX3_allHolders 2 = .ok (.getfield 10, 3) := by decide +kernel
theorem dX3_allHolders_5 : decode cX3_allHolders 5 = .ok (.getfield 116, 3) := by decide +kernel
theorem dX3_allHolders_8 : decode cX3_allHolders 8 = .ok (.ishl, 1) := by decide +kernel
theorem dX3_allHolders_9 : decode cX3_allHolders 9 = .ok (.iconst 1, 1) := by decide +kernel
theorem dX3_allHolders_10 : decode cX3_allHolders 10 = .ok (.isub, 1) := by decide +kernel
theorem dX3_allHolders_11 : decode cX3_allHolders 11 = .ok (.ireturn, 1) := by decide +kernel
theorem dX3_quotient_0 : decode cX3_quotient 0 = .ok (.iload_n 2, 1) := by decide +kernel
theorem dX3_quotient_1 : decode cX3_quotient 1 = .ok (.ifCond .ne 8, 3) := by decide +kernel
theorem dX3_quotient_4 : decode cX3_quotient 4 = .ok (.bipush (-9), 2) := by decide +kernel
theorem dX3_quotient_6 : decode cX3_quotient 6 = .ok (.goto 22, 3) := by decide +kernel
theorem dX3_quotient_9 : decode cX3_quotient 9 = .ok (.aload_n 0, 1) := by decide +kernel
theorem dX3_quotient_10 : decode cX3_quotient 10 = .ok (.getfield 10, 3) := by decide +kernel
theorem dX3_quotient_13 : decode cX3_quotient 13 = .ok (.iload_n 1, 1) := by decide +kernel
theorem dX3_quotient_14 : decode cX3_quotient 14 = .ok (.i2l, 1) := by decide +kernel
theorem dX3_quotient_15 : decode cX3_quotient 15 = .ok (.aload_n 0, 1) := by decide +kernel
theorem dX3_quotient_16 : decode cX3_quotient 16 = .ok (.getfield 10, 3) := by decide +kernel
theorem dX3_quotient_19 : decode cX3_quotient 19 = .ok (.iload_n 2, 1) := by decide +kernel
theorem dX3_quotient_20 : decode cX3_quotient 20 = .ok (.invokevirtual 304, 3) := by decide +kernel
theorem dX3_quotient_23 : decode cX3_quotient 23 = .ok (.i2l, 1) := by decide +kernel
theorem dX3_quotient_24 : decode cX3_quotient 24 = .ok (.lmul, 1) := by decide +kernel
theorem dX3_quotient_25 : decode cX3_quotient 25 = .ok (.invokevirtual 59, 3) := by decide +kernel
theorem dX3_quotient_28 : decode cX3_quotient 28 = .ok (.ireturn, 1) := by decide +kernel
theorem dX3_weightSum_0 : decode cX3_weightSum 0 = .ok (.lconst 0, 1) := by decide +kernel
theorem dX3_weightSum_1 : decode cX3_weightSum 1 = .ok (.lstore_n 3, 1) := by decide +kernel
theorem dX3_weightSum_2 : decode cX3_weightSum 2 = .ok (.iconst 1, 1) := by decide +kernel
theorem dX3_weightSum_3 : decode cX3_weightSum 3 = .ok (.istore 5, 2) := by decide +kernel
theorem dX3_weightSum_5 : decode cX3_weightSum 5 = .ok (.iload 5, 2) := by decide +kernel
theorem dX3_weightSum_7 : decode cX3_weightSum 7 = .ok (.aload_n 0, 1) := by decide +kernel
theorem dX3_weightSum_8 : decode cX3_weightSum 8 = .ok (.getfield 10, 3) := by decide +kernel
theorem dX3_weightSum_11 : decode cX3_weightSum 11 = .ok (.getfield 116, 3) := by decide +kernel
theorem dX3_weightSum_14 : decode cX3_weightSum 14 = .ok (.if_icmp .gt 33, 3) := by decide +kernel
theorem dX3_weightSum_17 : decode cX3_weightSum 17 = .ok (.iload_n 1, 1) := by decide +kernel
theorem dX3_weightSum_18 : decode cX3_weightSum 18 = .ok (.iload 5, 2) := by decide +kernel
theorem dX3_weightSum_20 : decode cX3_weightSum 20 = .ok (.invokestatic 83, 3) := by decide +kernel
theorem dX3_weightSum_23 : decode cX3_weightSum 23 = .ok (.ifCond .eq 18, 3) := by decide +kernel
theorem dX3_weightSum_26 : decode cX3_weightSum 26 = .ok (.lload_n 3, 1) := by decide +kernel
theorem dX3_weightSum_27 : decode cX3_weightSum 27 = .ok (.aload_n 0, 1) := by decide +kernel
theorem dX3_weightSum_28 : decode cX3_weightSum 28 = .ok (.getfield 10, 3) := by decide +kernel
theorem dX3_weightSum_31 : decode cX3_weightSum 31 = .ok (.iload_n 1, 1) := by decide +kernel
theorem dX3_weightSum_32 : decode cX3_weightSum 32 = .ok (.iload 5, 2) := by decide +kernel
theorem dX3_weightSum_34 : decode cX3_weightSum 34 = .ok (.iload_n 2, 1) := by decide +kernel
theorem dX3_weightSum_35 : decode cX3_weightSum 35 = .ok (.invokevirtual 87, 3) := by decide +kernel
theorem dX3_weightSum_38 : decode cX3_weightSum 38 = .ok (.i2l, 1) := by decide +kernel
theorem dX3_weightSum_39 : decode cX3_weightSum 39 = .ok (.ladd, 1) := by decide +kernel
theorem dX3_weightSum_40 : decode cX3_weightSum 40 = .ok (.lstore_n 3, 1) := by decide +kernel
theorem dX3_weightSum_41 : decode cX3_weightSum 41 = .ok (.iinc 5 1, 3) := by decide +kernel
theorem dX3_weightSum_44 : decode cX3_weightSum 44 = .ok (.goto (-39), 3) := by decide +kernel
theorem dX3_weightSum_47 : decode cX3_weightSum 47 = .ok (.aload_n 0, 1) := by decide +kernel
theorem dX3_weightSum_48 : decode cX3_weightSum 48 = .ok (.getfield 10, 3) := by decide +kernel
theorem dX3_weightSum_51 : decode cX3_weightSum 51 = .ok (.lload_n 3, 1) := by decide +kernel
theorem dX3_weightSum_52 : decode cX3_weightSum 52 = .ok (.invokevirtual 59, 3) := by decide +kernel
theorem dX3_weightSum_55 : decode cX3_weightSum 55 = .ok (.ireturn, 1) := by decide +kernel
theorem dX3_tell_0 : decode cX3_tell 0 = .ok (.lconst 0, 1) := by decide +kernel
theorem dX3_tell_1 : decode cX3_tell 1 = .ok (.lstore 4, 2) := by decide +kernel
theorem dX3_tell_3 : decode cX3_tell 3 = .ok (.iconst 1, 1) := by decide +kernel
theorem dX3_tell_4 : decode cX3_tell 4 = .ok (.istore 6, 2) := by decide +kernel
theorem dX3_tell_6 : decode cX3_tell 6 = .ok (.iload 6, 2) := by decide +kernel
theorem dX3_tell_8 : decode cX3_tell 8 = .ok (.aload_n 0, 1) := by decide +kernel
theorem dX3_tell_9 : decode cX3_tell 9 = .ok (.getfield 10, 3) := by decide +kernel
theorem dX3_tell_12 : decode cX3_tell 12 = .ok (.getfield 116, 3) := by decide +kernel
theorem dX3_tell_15 : decode cX3_tell 15 = .ok (.if_icmp .gt 43, 3) := by decide +kernel
theorem dX3_tell_18 : decode cX3_tell 18 = .ok (.iload_n 2, 1) := by decide +kernel
theorem dX3_tell_19 : decode cX3_tell 19 = .ok (.iload 6, 2) := by decide +kernel
theorem dX3_tell_21 : decode cX3_tell 21 = .ok (.invokestatic 83, 3) := by decide +kernel
theorem dX3_tell_24 : decode cX3_tell 24 = .ok (.ifCond .eq 28, 3) := by decide +kernel
theorem dX3_tell_27 : decode cX3_tell 27 = .ok (.lload 4, 2) := by decide +kernel
theorem dX3_tell_29 : decode cX3_tell 29 = .ok (.aload_n 1, 1) := by decide +kernel
theorem dX3_tell_30 : decode cX3_tell 30 = .ok (.iload 6, 2) := by decide +kernel
theorem dX3_tell_32 : decode cX3_tell 32 = .ok (.invokevirtual 123, 3) := by decide +kernel
theorem dX3_tell_35 : decode cX3_tell 35 = .ok (.i2l, 1) := by decide +kernel
theorem dX3_tell_36 : decode cX3_tell 36 = .ok (.aload_n 0, 1) := by decide +kernel
theorem dX3_tell_37 : decode cX3_tell 37 = .ok (.getfield 10, 3) := by decide +kernel
theorem dX3_tell_40 : decode cX3_tell 40 = .ok (.iload_n 2, 1) := by decide +kernel
theorem dX3_tell_41 : decode cX3_tell 41 = .ok (.iload 6, 2) := by decide +kernel
theorem dX3_tell_43 : decode cX3_tell 43 = .ok (.iload_n 3, 1) := by decide +kernel
theorem dX3_tell_44 : decode cX3_tell 44 = .ok (.invokevirtual 87, 3) := by decide +kernel
theorem dX3_tell_47 : decode cX3_tell 47 = .ok (.i2l, 1) := by decide +kernel
theorem dX3_tell_48 : decode cX3_tell 48 = .ok (.lmul, 1) := by decide +kernel
theorem dX3_tell_49 : decode cX3_tell 49 = .ok (.ladd, 1) := by decide +kernel
theorem dX3_tell_50 : decode cX3_tell 50 = .ok (.lstore 4, 2) := by decide +kernel
theorem dX3_tell_52 : decode cX3_tell 52 = .ok (.iinc 6 1, 3) := by decide +kernel
theorem dX3_tell_55 : decode cX3_tell 55 = .ok (.goto (-49), 3) := by decide +kernel
theorem dX3_tell_58 : decode cX3_tell 58 = .ok (.aload_n 0, 1) := by decide +kernel
theorem dX3_tell_59 : decode cX3_tell 59 = .ok (.getfield 10, 3) := by decide +kernel
theorem dX3_tell_62 : decode cX3_tell 62 = .ok (.lload 4, 2) := by decide +kernel
theorem dX3_tell_64 : decode cX3_tell 64 = .ok (.invokevirtual 59, 3) := by decide +kernel
theorem dX3_tell_67 : decode cX3_tell 67 = .ok (.ireturn, 1) := by decide +kernel
theorem dX3_layPoly_0 : decode cX3_layPoly 0 = .ok (.aload_n 1, 1) := by decide +kernel
theorem dX3_layPoly_1 : decode cX3_layPoly 1 = .ok (.iload_n 2, 1) := by decide +kernel
theorem dX3_layPoly_2 : decode cX3_layPoly 2 = .ok (.invokevirtual 157, 3) := by decide +kernel
theorem dX3_layPoly_5 : decode cX3_layPoly 5 = .ok (.iconst 1, 1) := by decide +kernel
theorem dX3_layPoly_6 : decode cX3_layPoly 6 = .ok (.istore_n 3, 1) := by decide +kernel
theorem dX3_layPoly_7 : decode cX3_layPoly 7 = .ok (.iload_n 3, 1) := by decide +kernel
theorem dX3_layPoly_8 : decode cX3_layPoly 8 = .ok (.aload_n 0, 1) := by decide +kernel
theorem dX3_layPoly_9 : decode cX3_layPoly 9 = .ok (.getfield 10, 3) := by decide +kernel
theorem dX3_layPoly_12 : decode cX3_layPoly 12 = .ok (.getfield 116, 3) := by decide +kernel
theorem dX3_layPoly_15 : decode cX3_layPoly 15 = .ok (.if_icmp .gt 26, 3) := by decide +kernel
theorem dX3_layPoly_18 : decode cX3_layPoly 18 = .ok (.aload_n 1, 1) := by decide +kernel
theorem dX3_layPoly_19 : decode cX3_layPoly 19 = .ok (.iload_n 3, 1) := by decide +kernel
theorem dX3_layPoly_20 : decode cX3_layPoly 20 = .ok (.aload_n 0, 1) := by decide +kernel
theorem dX3_layPoly_21 : decode cX3_layPoly 21 = .ok (.getfield 19, 3) := by decide +kernel
theorem dX3_layPoly_24 : decode cX3_layPoly 24 = .ok (.aload_n 0, 1) := by decide +kernel
theorem dX3_layPoly_25 : decode cX3_layPoly 25 = .ok (.getfield 10, 3) := by decide +kernel
theorem dX3_layPoly_28 : decode cX3_layPoly 28 = .ok (.iload_n 3, 1) := by decide +kernel
theorem dX3_layPoly_29 : decode cX3_layPoly 29 = .ok (.invokevirtual 126, 3) := by decide +kernel
theorem dX3_layPoly_32 : decode cX3_layPoly 32 = .ok (.invokevirtual 130, 3) := by decide +kernel
theorem dX3_layPoly_35 : decode cX3_layPoly 35 = .ok (.iinc 3 1, 3) := by decide +kernel
theorem dX3_layPoly_38 : decode cX3_layPoly 38 = .ok (.goto (-31), 3) := by decide +kernel
theorem dX3_layPoly_41 : decode cX3_layPoly 41 = .ok (.iconst 0, 1) := by decide +kernel
theorem dX3_layPoly_42 : decode cX3_layPoly 42 = .ok (.istore_n 3, 1) := by decide +kernel
theorem dX3_layPoly_43 : decode cX3_layPoly 43 = .ok (.iload_n 3, 1) := by decide +kernel
theorem dX3_layPoly_44 : decode cX3_layPoly 44 = .ok (.iload_n 2, 1) := by decide +kernel
theorem dX3_layPoly_45 : decode cX3_layPoly 45 = .ok (.if_icmp .gt 28, 3) := by decide +kernel
theorem dX3_layPoly_48 : decode cX3_layPoly 48 = .ok (.aload_n 1, 1) := by decide +kernel
theorem dX3_layPoly_49 : decode cX3_layPoly 49 = .ok (.aload_n 0, 1) := by decide +kernel
theorem dX3_layPoly_50 : decode cX3_layPoly 50 = .ok (.getfield 10, 3) := by decide +kernel
theorem dX3_layPoly_53 : decode cX3_layPoly 53 = .ok (.aload_n 0, 1) := by decide +kernel
theorem dX3_layPoly_54 : decode cX3_layPoly 54 = .ok (.getfield 19, 3) := by decide +kernel
theorem dX3_layPoly_57 : decode cX3_layPoly 57 = .ok (.iload_n 3, 1) := by decide +kernel
theorem dX3_layPoly_58 : decode cX3_layPoly 58 = .ok (.invokevirtual 140, 3) := by decide +kernel
theorem dX3_layPoly_61 : decode cX3_layPoly 61 = .ok (.invokevirtual 73, 3) := by decide +kernel
theorem dX3_layPoly_64 : decode cX3_layPoly 64 = .ok (.invokevirtual 167, 3) := by decide +kernel
theorem dX3_layPoly_67 : decode cX3_layPoly 67 = .ok (.iinc 3 1, 3) := by decide +kernel
theorem dX3_layPoly_70 : decode cX3_layPoly 70 = .ok (.goto (-27), 3) := by decide +kernel
theorem dX3_layPoly_73 : decode cX3_layPoly 73 = .ok (.aload_n 1, 1) := by decide +kernel
theorem dX3_layPoly_74 : decode cX3_layPoly 74 = .ok (.invokevirtual 149, 3) := by decide +kernel
theorem dX3_layPoly_77 : decode cX3_layPoly 77 = .ok (.ireturn, 1) := by decide +kernel
theorem dX3_laySpare_0 : decode cX3_laySpare 0 = .ok (.aload_n 1, 1) := by decide +kernel
theorem dX3_laySpare_1 : decode cX3_laySpare 1 = .ok (.aload_n 0, 1) := by decide +kernel
theorem dX3_laySpare_2 : decode cX3_laySpare 2 = .ok (.getfield 30, 3) := by decide +kernel
theorem dX3_laySpare_5 : decode cX3_laySpare 5 = .ok (.invokevirtual 191, 3) := by decide +kernel
theorem dX3_laySpare_8 : decode cX3_laySpare 8 = .ok (.aload_n 1, 1) := by decide +kernel
theorem dX3_laySpare_9 : decode cX3_laySpare 9 = .ok (.invokevirtual 149, 3) := by decide +kernel
theorem dX3_laySpare_12 : decode cX3_laySpare 12 = .ok (.ireturn, 1) := by decide +kernel
theorem dX3_addUp_0 : decode cX3_addUp 0 = .ok (.aload_n 1, 1) := by decide +kernel
theorem dX3_addUp_1 : decode cX3_addUp 1 = .ok (.invokevirtual 109, 3) := by decide +kernel
theorem dX3_addUp_4 : decode cX3_addUp 4 = .ok (.ifCond .ne 10, 3) := by decide +kernel
theorem dX3_addUp_7 : decode cX3_addUp 7 = .ok (.aload_n 2, 1) := by decide +kernel
theorem dX3_addUp_8 : decode cX3_addUp 8 = .ok (.invokevirtual 109, 3) := by decide +kernel
theorem dX3_addUp_11 : decode cX3_addUp 11 = .ok (.ifCond .eq 6, 3) := by decide +kernel
theorem dX3_addUp_14 : decode cX3_addUp 14 = .ok (.bipush (-9), 2) := by decide +kernel
theorem dX3_addUp_16 : decode cX3_addUp 16 = .ok (.ireturn, 1) := by decide +kernel
theorem dX3_addUp_17 : decode cX3_addUp 17 = .ok (.aload_n 0, 1) := by decide +kernel
theorem dX3_addUp_18 : decode cX3_addUp 18 = .ok (.getfield 30, 3) := by decide +kernel
theorem dX3_addUp_21 : decode cX3_addUp 21 = .ok (.aload_n 1, 1) := by decide +kernel
theorem dX3_addUp_22 : decode cX3_addUp 22 = .ok (.getfield 113, 3) := by decide +kernel
theorem dX3_addUp_25 : decode cX3_addUp 25 = .ok (.aload_n 2, 1) := by decide +kernel
theorem dX3_addUp_26 : decode cX3_addUp 26 = .ok (.getfield 113, 3) := by decide +kernel
theorem dX3_addUp_29 : decode cX3_addUp 29 = .ok (.invokestatic 307, 3) := by decide +kernel
theorem dX3_addUp_32 : decode cX3_addUp 32 = .ok (.invokevirtual 157, 3) := by decide +kernel
theorem dX3_addUp_35 : decode cX3_addUp 35 = .ok (.iconst 1, 1) := by decide +kernel
theorem dX3_addUp_36 : decode cX3_addUp 36 = .ok (.istore 5, 2) := by decide +kernel
theorem dX3_addUp_38 : decode cX3_addUp 38 = .ok (.iload 5, 2) := by decide +kernel
theorem dX3_addUp_40 : decode cX3_addUp 40 = .ok (.aload_n 0, 1) := by decide +kernel
theorem dX3_addUp_41 : decode cX3_addUp 41 = .ok (.getfield 10, 3) := by decide +kernel
theorem dX3_addUp_44 : decode cX3_addUp 44 = .ok (.getfield 116, 3) := by decide +kernel
theorem dX3_addUp_47 : decode cX3_addUp 47 = .ok (.if_icmp .gt 78, 3) := by decide +kernel
theorem dX3_addUp_50 : decode cX3_addUp 50 = .ok (.aload_n 1, 1) := by decide +kernel
theorem dX3_addUp_51 : decode cX3_addUp 51 = .ok (.iload 5, 2) := by decide +kernel
theorem dX3_addUp_53 : decode cX3_addUp 53 = .ok (.invokevirtual 119, 3) := by decide +kernel
theorem dX3_addUp_56 : decode cX3_addUp 56 = .ok (.ifCond .eq 63, 3) := by decide +kernel
theorem dX3_addUp_59 : decode cX3_addUp 59 = .ok (.aload_n 2, 1) := by decide +kernel
theorem dX3_addUp_60 : decode cX3_addUp 60 = .ok (.iload 5, 2) := by decide +kernel
theorem dX3_addUp_62 : decode cX3_addUp 62 = .ok (.invokevirtual 119, 3) := by decide +kernel
theorem dX3_addUp_65 : decode cX3_addUp 65 = .ok (.ifCond .eq 54, 3) := by decide +kernel
theorem dX3_addUp_68 : decode cX3_addUp 68 = .ok (.iload 4, 2) := by decide +kernel
theorem dX3_addUp_70 : decode cX3_addUp 70 = .ok (.ifCond .eq 14, 3) := by decide +kernel
theorem dX3_addUp_73 : decode cX3_addUp 73 = .ok (.aload_n 2, 1) := by decide +kernel
theorem dX3_addUp_74 : decode cX3_addUp 74 = .ok (.iload 5, 2) := by decide +kernel
theorem dX3_addUp_76 : decode cX3_addUp 76 = .ok (.invokevirtual 123, 3) := by decide +kernel
theorem dX3_addUp_79 : decode cX3_addUp 79 = .ok (.i2l, 1) := by decide +kernel
theorem dX3_addUp_80 : decode cX3_addUp 80 = .ok (.lneg, 1) := by decide +kernel
theorem dX3_addUp_81 : decode cX3_addUp 81 = .ok (.goto 10, 3) := by decide +kernel
theorem dX3_addUp_84 : decode cX3_addUp 84 = .ok (.aload_n 2, 1) := by decide +kernel
theorem dX3_addUp_85 : decode cX3_addUp 85 = .ok (.iload 5, 2) := by decide +kernel
theorem dX3_addUp_87 : decode cX3_addUp 87 = .ok (.invokevirtual 123, 3) := by decide +kernel
theorem dX3_addUp_90 : decode cX3_addUp 90 = .ok (.i2l, 1) := by decide +kernel
theorem dX3_addUp_91 : decode cX3_addUp 91 = .ok (.lstore 6, 2) := by decide +kernel
theorem dX3_addUp_93 : decode cX3_addUp 93 = .ok (.aload_n 0, 1) := by decide +kernel
theorem dX3_addUp_94 : decode cX3_addUp 94 = .ok (.getfield 30, 3) := by decide +kernel
theorem dX3_addUp_97 : decode cX3_addUp 97 = .ok (.iload 5, 2) := by decide +kernel
theorem dX3_addUp_99 : decode cX3_addUp 99 = .ok (.aload_n 0, 1) := by decide +kernel
theorem dX3_addUp_100 : decode cX3_addUp 100 = .ok (.getfield 10, 3) := by decide +kernel
theorem dX3_addUp_103 : decode cX3_addUp 103 = .ok (.aload_n 1, 1) := by decide +kernel
theorem dX3_addUp_104 : decode cX3_addUp 104 = .ok (.iload 5, 2) := by decide +kernel
theorem dX3_addUp_106 : decode cX3_addUp 106 = .ok (.invokevirtual 123, 3) := by decide +kernel
theorem dX3_addUp_109 : decode cX3_addUp 109 = .ok (.i2l, 1) := by decide +kernel
theorem dX3_addUp_110 : decode cX3_addUp 110 = .ok (.lload 6, 2) := by decide +kernel
theorem dX3_addUp_112 : decode cX3_addUp 112 = .ok (.ladd, 1) := by decide +kernel
theorem dX3_addUp_113 : decode cX3_addUp 113 = .ok (.invokevirtual 59, 3) := by decide +kernel
theorem dX3_addUp_116 : decode cX3_addUp 116 = .ok (.invokevirtual 130, 3) := by decide +kernel
theorem dX3_addUp_119 : decode cX3_addUp 119 = .ok (.iinc 5 1, 3) := by decide +kernel
theorem dX3_addUp_122 : decode cX3_addUp 122 = .ok (.goto (-84), 3) := by decide +kernel
theorem dX3_addUp_125 : decode cX3_addUp 125 = .ok (.aload_n 1, 1) := by decide +kernel
theorem dX3_addUp_126 : decode cX3_addUp 126 = .ok (.invokevirtual 195, 3) := by decide +kernel
theorem dX3_addUp_129 : decode cX3_addUp 129 = .ok (.ifCond .eq 18, 3) := by decide +kernel
theorem dX3_addUp_132 : decode cX3_addUp 132 = .ok (.aload_n 2, 1) := by decide +kernel
theorem dX3_addUp_133 : decode cX3_addUp 133 = .ok (.invokevirtual 195, 3) := by decide +kernel
theorem dX3_addUp_136 : decode cX3_addUp 136 = .ok (.ifCond .eq 11, 3) := by decide +kernel
theorem dX3_addUp_139 : decode cX3_addUp 139 = .ok (.aload_n 0, 1) := by decide +kernel
theorem dX3_addUp_140 : decode cX3_addUp 140 = .ok (.aload_n 1, 1) := by decide +kernel
theorem dX3_addUp_141 : decode cX3_addUp 141 = .ok (.aload_n 2, 1) := by decide +kernel
theorem dX3_addUp_142 : decode cX3_addUp 142 = .ok (.iload 4, 2) := by decide +kernel
theorem dX3_addUp_144 : decode cX3_addUp 144 = .ok (.invokevirtual 312, 3) := by decide +kernel
theorem dX3_addUp_147 : decode cX3_addUp 147 = .ok (.aload_n 0, 1) := by decide +kernel
theorem dX3_addUp_148 : decode cX3_addUp 148 = .ok (.aload_n 3, 1) := by decide +kernel
theorem dX3_addUp_149 : decode cX3_addUp 149 = .ok (.invokevirtual 160, 3) := by decide +kernel
theorem dX3_addUp_152 : decode cX3_addUp 152 = .ok (.ireturn, 1) := by decide +kernel
theorem dX3_addUpSeals_0 : decode cX3_addUpSeals 0 = .ok (.iconst 0, 1) := by decide +kernel
theorem dX3_addUpSeals_1 : decode cX3_addUpSeals 1 = .ok (.istore 4, 2) := by decide +kernel
theorem dX3_addUpSeals_3 : decode cX3_addUpSeals 3 = .ok (.iload 4, 2) := by decide +kernel
theorem dX3_addUpSeals_5 : decode cX3_addUpSeals 5 = .ok (.aload_n 0, 1) := by decide +kernel
theorem dX3_addUpSeals_6 : decode cX3_addUpSeals 6 = .ok (.getfield 30, 3) := by decide +kernel
theorem dX3_addUpSeals_9 : decode cX3_addUpSeals 9 = .ok (.getfield 113, 3) := by decide +kernel
theorem dX3_addUpSeals_12 : decode cX3_addUpSeals 12 = .ok (.if_icmp .gt 85, 3) := by decide +kernel
theorem dX3_addUpSeals_15 : decode cX3_addUpSeals 15 = .ok (.iload 4, 2) := by decide +kernel
theorem dX3_addUpSeals_17 : decode cX3_addUpSeals 17 = .ok (.aload_n 1, 1) := by decide +kernel
theorem dX3_addUpSeals_18 : decode cX3_addUpSeals 18 = .ok (.getfield 134, 3) := by decide +kernel
theorem dX3_addUpSeals_21 : decode cX3_addUpSeals 21 = .ok (.if_icmp .ge 12, 3) := by decide +kernel
theorem dX3_addUpSeals_24 : decode cX3_addUpSeals 24 = .ok (.aload_n 1, 1) := by decide +kernel
theorem dX3_addUpSeals_25 : decode cX3_addUpSeals 25 = .ok (.iload 4, 2) := by decide +kernel
theorem dX3_addUpSeals_27 : decode cX3_addUpSeals 27 = .ok (.invokevirtual 137, 3) := by decide +kernel
theorem dX3_addUpSeals_30 : decode cX3_addUpSeals 30 = .ok (.goto 4, 3) := by decide +kernel
theorem dX3_addUpSeals_33 : decode cX3_addUpSeals 33 = .ok (.iconst 1, 1) := by decide +kernel
theorem dX3_addUpSeals_34 : decode cX3_addUpSeals 34 = .ok (.istore 5, 2) := by decide +kernel
theorem dX3_addUpSeals_36 : decode cX3_addUpSeals 36 = .ok (.iload 4, 2) := by decide +kernel
theorem dX3_addUpSeals_38 : decode cX3_addUpSeals 38 = .ok (.aload_n 2, 1) := by decide +kernel
theorem dX3_addUpSeals_39 : decode cX3_addUpSeals 39 = .ok (.getfield 134, 3) := by decide +kernel
theorem dX3_addUpSeals_42 : decode cX3_addUpSeals 42 = .ok (.if_icmp .ge 12, 3) := by decide +kernel
theorem dX3_addUpSeals_45 : decode cX3_addUpSeals 45 = .ok (.aload_n 2, 1) := by decide +kernel
theorem dX3_addUpSeals_46 : decode cX3_addUpSeals 46 = .ok (.iload 4, 2) := by decide +kernel
theorem dX3_addUpSeals_48 : decode cX3_addUpSeals 48 = .ok (.invokevirtual 137, 3) := by decide +kernel
theorem dX3_addUpSeals_51 : decode cX3_addUpSeals 51 = .ok (.goto 4, 3) := by decide +kernel
theorem dX3_addUpSeals_54 : decode cX3_addUpSeals 54 = .ok (.iconst 1, 1) := by decide +kernel
theorem dX3_addUpSeals_55 : decode cX3_addUpSeals 55 = .ok (.istore 6, 2) := by decide +kernel
theorem dX3_addUpSeals_57 : decode cX3_addUpSeals 57 = .ok (.aload_n 0, 1) := by decide +kernel
theorem dX3_addUpSeals_58 : decode cX3_addUpSeals 58 = .ok (.getfield 30, 3) := by decide +kernel
theorem dX3_addUpSeals_61 : decode cX3_addUpSeals 61 = .ok (.aload_n 0, 1) := by decide +kernel
theorem dX3_addUpSeals_62 : decode cX3_addUpSeals 62 = .ok (.getfield 10, 3) := by decide +kernel
theorem dX3_addUpSeals_65 : decode cX3_addUpSeals 65 = .ok (.iload 5, 2) := by decide +kernel
theorem dX3_addUpSeals_67 : decode cX3_addUpSeals 67 = .ok (.iload_n 3, 1) := by decide +kernel
theorem dX3_addUpSeals_68 : decode cX3_addUpSeals 68 = .ok (.ifCond .eq 15, 3) := by decide +kernel
theorem dX3_addUpSeals_71 : decode cX3_addUpSeals 71 = .ok (.aload_n 0, 1) := by decide +kernel
theorem dX3_addUpSeals_72 : decode cX3_addUpSeals 72 = .ok (.getfield 10, 3) := by decide +kernel
theorem dX3_addUpSeals_75 : decode cX3_addUpSeals 75 = .ok (.iload 6, 2) := by decide +kernel
theorem dX3_addUpSeals_77 : decode cX3_addUpSeals 77 = .ok (.invokevirtual 316, 3) := by decide +kernel
theorem dX3_addUpSeals_80 : decode cX3_addUpSeals 80 = .ok (.goto 5, 3) := by decide +kernel
theorem dX3_addUpSeals_83 : decode cX3_addUpSeals 83 = .ok (.iload 6, 2) := by decide +kernel
theorem dX3_addUpSeals_85 : decode cX3_addUpSeals 85 = .ok (.invokevirtual 143, 3) := by decide +kernel
theorem dX3_addUpSeals_88 : decode cX3_addUpSeals 88 = .ok (.invokevirtual 167, 3) := by decide +kernel
theorem dX3_addUpSeals_91 : decode cX3_addUpSeals 91 = .ok (.iinc 4 1, 3) := by decide +kernel
theorem dX3_addUpSeals_94 : decode cX3_addUpSeals 94 = .ok (.goto (-91), 3) := by decide +kernel
theorem dX3_addUpSeals_97 : decode cX3_addUpSeals 97 = .ok (.return_, 1) := by decide +kernel
theorem dX3_isInLine_0 : decode cX3_isInLine 0 = .ok (.aload_n 1, 1) := by decide +kernel
theorem dX3_isInLine_1 : decode cX3_isInLine 1 = .ok (.invokevirtual 109, 3) := by decide +kernel
theorem dX3_isInLine_4 : decode cX3_isInLine 4 = .ok (.ifCond .eq 5, 3) := by decide +kernel
theorem dX3_isInLine_7 : decode cX3_isInLine 7 = .ok (.iconst 0, 1) := by decide +kernel
theorem dX3_isInLine_8 : decode cX3_isInLine 8 = .ok (.ireturn, 1) := by decide +kernel
theorem dX3_isInLine_9 : decode cX3_isInLine 9 = .ok (.aload_n 0, 1) := by decide +kernel
theorem dX3_isInLine_10 : decode cX3_isInLine 10 = .ok (.getfield 19, 3) := by decide +kernel
theorem dX3_isInLine_13 : decode cX3_isInLine 13 = .ok (.aload_n 0, 1) := by decide +kernel
theorem dX3_isInLine_14 : decode cX3_isInLine 14 = .ok (.getfield 10, 3) := by decide +kernel
theorem dX3_isInLine_17 : decode cX3_isInLine 17 = .ok (.aload_n 1, 1) := by decide +kernel
theorem dX3_isInLine_18 : decode cX3_isInLine 18 = .ok (.iload_n 2, 1) := by decide +kernel
theorem dX3_isInLine_19 : decode cX3_isInLine 19 = .ok (.invokevirtual 213, 3) := by decide +kernel
theorem dX3_isInLine_22 : decode cX3_isInLine 22 = .ok (.aload_n 0, 1) := by decide +kernel
theorem dX3_isInLine_23 : decode cX3_isInLine 23 = .ok (.getfield 19, 3) := by decide +kernel
theorem dX3_isInLine_26 : decode cX3_isInLine 26 = .ok (.invokevirtual 217, 3) := by decide +kernel
theorem dX3_isInLine_29 : decode cX3_isInLine 29 = .ok (.aload_n 1, 1) := by decide +kernel
theorem dX3_isInLine_30 : decode cX3_isInLine 30 = .ok (.getfield 113, 3) := by decide +kernel
theorem dX3_isInLine_33 : decode cX3_isInLine 33 = .ok (.if_icmp .gt 7, 3) := by decide +kernel
theorem dX3_isInLine_36 : decode cX3_isInLine 36 = .ok (.iconst 1, 1) := by decide +kernel
theorem dX3_isInLine_37 : decode cX3_isInLine 37 = .ok (.goto 4, 3) := by decide +kernel
theorem dX3_isInLine_40 : decode cX3_isInLine 40 = .ok (.iconst 0, 1) := by decide +kernel
theorem dX3_isInLine_41 : decode cX3_isInLine 41 = .ok (.ireturn, 1) := by decide +kernel
theorem dX3_suspectSet_0 : decode cX3_suspectSet 0 = .ok (.aload_n 1, 1) := by decide +kernel
theorem dX3_suspectSet_1 : decode cX3_suspectSet 1 = .ok (.invokevirtual 185, 3) := by decide +kernel
theorem dX3_suspectSet_4 : decode cX3_suspectSet 4 = .ok (.istore_n 2, 1) := by decide +kernel
theorem dX3_suspectSet_5 : decode cX3_suspectSet 5 = .ok (.iconst 0, 1) := by decide +kernel
theorem dX3_suspectSet_6 : decode cX3_suspectSet 6 = .ok (.istore_n 3, 1) := by decide +kernel
theorem dX3_suspectSet_7 : decode cX3_suspectSet 7 = .ok (.iconst 1, 1) := by decide +kernel
theorem dX3_suspectSet_8 : decode cX3_suspectSet 8 = .ok (.istore 4, 2) := by decide +kernel
theorem dX3_suspectSet_10 : decode cX3_suspectSet 10 = .ok (.iload 4, 2) := by decide +kernel
theorem dX3_suspectSet_12 : decode cX3_suspectSet 12 = .ok (.aload_n 0, 1) := by decide +kernel
theorem dX3_suspectSet_13 : decode cX3_suspectSet 13 = .ok (.getfield 10, 3) := by decide +kernel
theorem dX3_suspectSet_16 : decode cX3_suspectSet 16 = .ok (.getfield 116, 3) := by decide +kernel
theorem dX3_suspectSet_19 : decode cX3_suspectSet 19 = .ok (.if_icmp .gt 43, 3) := by decide +kernel
theorem dX3_suspectSet_22 : decode cX3_suspectSet 22 = .ok (.iload_n 2, 1) := by decide +kernel
theorem dX3_suspectSet_23 : decode cX3_suspectSet 23 = .ok (.iload 4, 2) := by decide +kernel
theorem dX3_suspectSet_25 : decode cX3_suspectSet 25 = .ok (.invokestatic 83, 3) := by decide +kernel
theorem dX3_suspectSet_28 : decode cX3_suspectSet 28 = .ok (.ifCond .eq 28, 3) := by decide +kernel
theorem dX3_suspectSet_31 : decode cX3_suspectSet 31 = .ok (.aload_n 0, 1) := by decide +kernel
theorem dX3_suspectSet_32 : decode cX3_suspectSet 32 = .ok (.aload_n 1, 1) := by decide +kernel
theorem dX3_suspectSet_33 : decode cX3_suspectSet 33 = .ok (.iload_n 2, 1) := by decide +kernel
theorem dX3_suspectSet_34 : decode cX3_suspectSet 34 = .ok (.iload 4, 2) := by decide +kernel
theorem dX3_suspectSet_36 : decode cX3_suspectSet 36 = .ok (.invokestatic 188, 3) := by decide +kernel
theorem dX3_suspectSet_39 : decode cX3_suspectSet 39 = .ok (.iconst (-1), 1) := by decide +kernel
theorem dX3_suspectSet_40 : decode cX3_suspectSet 40 = .ok (.ixor, 1) := by decide +kernel
theorem dX3_suspectSet_41 : decode cX3_suspectSet 41 = .ok (.iand, 1) := by decide +kernel
theorem dX3_suspectSet_42 : decode cX3_suspectSet 42 = .ok (.invokevirtual 198, 3) := by decide +kernel
theorem dX3_suspectSet_45 : decode cX3_suspectSet 45 = .ok (.ifCond .eq 11, 3) := by decide +kernel
theorem dX3_suspectSet_48 : decode cX3_suspectSet 48 = .ok (.iload_n 3, 1) := by decide +kernel
theorem dX3_suspectSet_49 : decode cX3_suspectSet 49 = .ok (.iload 4, 2) := by decide +kernel
theorem dX3_suspectSet_51 : decode cX3_suspectSet 51 = .ok (.invokestatic 188, 3) := by decide +kernel
theorem dX3_suspectSet_54 : decode cX3_suspectSet 54 = .ok (.ior, 1) := by decide +kernel
theorem dX3_suspectSet_55 : decode cX3_suspectSet 55 = .ok (.istore_n 3, 1) := by decide +kernel
theorem dX3_suspectSet_56 : decode cX3_suspectSet 56 = .ok (.iinc 4 1, 3) := by decide +kernel
theorem dX3_suspectSet_59 : decode cX3_suspectSet 59 = .ok (.goto (-49), 3) := by decide +kernel
theorem dX3_suspectSet_62 : decode cX3_suspectSet 62 = .ok (.iload_n 3, 1) := by decide +kernel
theorem dX3_suspectSet_63 : decode cX3_suspectSet 63 = .ok (.ireturn, 1) := by decide +kernel
theorem dX3_wrongHolder_0 : decode cX3_wrongHolder 0 = .ok (.aload_n 1, 1) := by decide +kernel
theorem dX3_wrongHolder_1 : decode cX3_wrongHolder 1 = .ok (.invokevirtual 109, 3) := by decide +kernel
theorem dX3_wrongHolder_4 : decode cX3_wrongHolder 4 = .ok (.ifCond .eq 6, 3) := by decide +kernel
theorem dX3_wrongHolder_7 : decode cX3_wrongHolder 7 = .ok (.bipush (-9), 2) := by decide +kernel
theorem dX3_wrongHolder_9 : decode cX3_wrongHolder 9 = .ok (.ireturn, 1) := by decide +kernel
theorem dX3_wrongHolder_10 : decode cX3_wrongHolder 10 = .ok (.aload_n 0, 1) := by decide +kernel
theorem dX3_wrongHolder_11 : decode cX3_wrongHolder 11 = .ok (.aload_n 1, 1) := by decide +kernel
theorem dX3_wrongHolder_12 : decode cX3_wrongHolder 12 = .ok (.aload_n 1, 1) := by decide +kernel
theorem dX3_wrongHolder_13 : decode cX3_wrongHolder 13 = .ok (.invokevirtual 185, 3) := by decide +kernel
theorem dX3_wrongHolder_16 : decode cX3_wrongHolder 16 = .ok (.invokevirtual 198, 3) := by decide +kernel
theorem dX3_wrongHolder_19 : decode cX3_wrongHolder 19 = .ok (.ifCond .eq 5, 3) := by decide +kernel
theorem dX3_wrongHolder_22 : decode cX3_wrongHolder 22 = .ok (.iconst 0, 1) := by decide +kernel
theorem dX3_wrongHolder_23 : decode cX3_wrongHolder 23 = .ok (.ireturn, 1) := by decide +kernel
theorem dX3_wrongHolder_24 : decode cX3_wrongHolder 24 = .ok (.aload_n 1, 1) := by decide +kernel
theorem dX3_wrongHolder_25 : decode cX3_wrongHolder 25 = .ok (.invokevirtual 149, 3) := by decide +kernel
theorem dX3_wrongHolder_28 : decode cX3_wrongHolder 28 = .ok (.aload_n 1, 1) := by decide +kernel
theorem dX3_wrongHolder_29 : decode cX3_wrongHolder 29 = .ok (.getfield 113, 3) := by decide +kernel
theorem dX3_wrongHolder_32 : decode cX3_wrongHolder 32 = .ok (.iconst 3, 1) := by decide +kernel
theorem dX3_wrongHolder_33 : decode cX3_wrongHolder 33 = .ok (.iadd, 1) := by decide +kernel
theorem dX3_wrongHolder_34 : decode cX3_wrongHolder 34 = .ok (.if_icmp .ge 6, 3) := by decide +kernel
theorem dX3_wrongHolder_37 : decode cX3_wrongHolder 37 = .ok (.bipush (-9), 2) := by decide +kernel
theorem dX3_wrongHolder_39 : decode cX3_wrongHolder 39 = .ok (.ireturn, 1) := by decide +kernel
theorem dX3_wrongHolder_40 : decode cX3_wrongHolder 40 = .ok (.aload_n 0, 1) := by decide +kernel
theorem dX3_wrongHolder_41 : decode cX3_wrongHolder 41 = .ok (.aload_n 1, 1) := by decide +kernel
theorem dX3_wrongHolder_42 : decode cX3_wrongHolder 42 = .ok (.invokevirtual 220, 3) := by decide +kernel
theorem dX3_wrongHolder_45 : decode cX3_wrongHolder 45 = .ok (.istore_n 2, 1) := by decide +kernel
theorem dX3_wrongHolder_46 : decode cX3_wrongHolder 46 = .ok (.iconst 1, 1) := by decide +kernel
theorem dX3_wrongHolder_47 : decode cX3_wrongHolder 47 = .ok (.istore_n 3, 1) := by decide +kernel
theorem dX3_wrongHolder_48 : decode cX3_wrongHolder 48 = .ok (.iload_n 3, 1) := by decide +kernel
theorem dX3_wrongHolder_49 : decode cX3_wrongHolder 49 = .ok (.aload_n 0, 1) := by decide +kernel
theorem dX3_wrongHolder_50 : decode cX3_wrongHolder 50 = .ok (.getfield 10, 3) := by decide +kernel
theorem dX3_wrongHolder_53 : decode cX3_wrongHolder 53 = .ok (.getfield 116, 3) := by decide +kernel
theorem dX3_wrongHolder_56 : decode cX3_wrongHolder 56 = .ok (.if_icmp .gt 19, 3) := by decide +kernel
theorem dX3_wrongHolder_59 : decode cX3_wrongHolder 59 = .ok (.iload_n 2, 1) := by decide +kernel
theorem dX3_wrongHolder_60 : decode cX3_wrongHolder 60 = .ok (.iload_n 3, 1) := by decide +kernel
theorem dX3_wrongHolder_61 : decode cX3_wrongHolder 61 = .ok (.invokestatic 83, 3) := by decide +kernel
theorem dX3_wrongHolder_64 : decode cX3_wrongHolder 64 = .ok (.ifCond .eq 5, 3) := by decide +kernel
theorem dX3_wrongHolder_67 : decode cX3_wrongHolder 67 = .ok (.iload_n 3, 1) := by decide +kernel
theorem dX3_wrongHolder_68 : decode cX3_wrongHolder 68 = .ok (.ireturn, 1) := by decide +kernel
theorem dX3_wrongHolder_69 : decode cX3_wrongHolder 69 = .ok (.iinc 3 1, 3) := by decide +kernel
theorem dX3_wrongHolder_72 : decode cX3_wrongHolder 72 = .ok (.goto (-24), 3) := by decide +kernel
theorem dX3_wrongHolder_75 : decode cX3_wrongHolder 75 = .ok (.bipush (-9), 2) := by decide +kernel
theorem dX3_wrongHolder_77 : decode cX3_wrongHolder 77 = .ok (.ireturn, 1) := by decide +kernel
theorem dX3_polysBeyond_0 : decode cX3_polysBeyond 0 = .ok (.iconst 1, 1) := by decide +kernel
theorem dX3_polysBeyond_1 : decode cX3_polysBeyond 1 = .ok (.istore_n 2, 1) := by decide +kernel
theorem dX3_polysBeyond_2 : decode cX3_polysBeyond 2 = .ok (.iconst 0, 1) := by decide +kernel
theorem dX3_polysBeyond_3 : decode cX3_polysBeyond 3 = .ok (.istore_n 3, 1) := by decide +kernel
theorem dX3_polysBeyond_4 : decode cX3_polysBeyond 4 = .ok (.iload_n 3, 1) := by decide +kernel
theorem dX3_polysBeyond_5 : decode cX3_polysBeyond 5 = .ok (.iload_n 1, 1) := by decide +kernel
theorem dX3_polysBeyond_6 : decode cX3_polysBeyond 6 = .ok (.if_icmp .ge 25, 3) := by decide +kernel
theorem dX3_polysBeyond_9 : decode cX3_polysBeyond 9 = .ok (.iload_n 2, 1) := by decide +kernel
theorem dX3_polysBeyond_10 : decode cX3_polysBeyond 10 = .ok (.bipush 125, 2) := by decide +kernel
theorem dX3_polysBeyond_12 : decode cX3_polysBeyond 12 = .ok (.if_icmp .gt 19, 3) := by decide +kernel
theorem dX3_polysBeyond_15 : decode cX3_polysBeyond 15 = .ok (.iload_n 2, 1) := by decide +kernel
theorem dX3_polysBeyond_16 : decode cX3_polysBeyond 16 = .ok (.aload_n 0, 1) := by decide +kernel
theorem dX3_polysBeyond_17 : decode cX3_polysBeyond 17 = .ok (.getfield 10, 3) := by decide +kernel
theorem dX3_polysBeyond_20 : decode cX3_polysBeyond 20 = .ok (.getfield 49, 3) := by decide +kernel
theorem dX3_polysBeyond_23 : decode cX3_polysBeyond 23 = .ok (.imul, 1) := by decide +kernel
theorem dX3_polysBeyond_24 : decode cX3_polysBeyond 24 = .ok (.istore_n 2, 1) := by decide +kernel
theorem dX3_polysBeyond_25 : decode cX3_polysBeyond 25 = .ok (.iinc 3 1, 3) := by decide +kernel
theorem dX3_polysBeyond_28 : decode cX3_polysBeyond 28 = .ok (.goto (-24), 3) := by decide +kernel
theorem dX3_polysBeyond_31 : decode cX3_polysBeyond 31 = .ok (.iload_n 2, 1) := by decide +kernel
theorem dX3_polysBeyond_32 : decode cX3_polysBeyond 32 = .ok (.ireturn, 1) := by decide +kernel
theorem dX3_doesFit_0 : decode cX3_doesFit 0 = .ok (.iconst 1, 1) := by decide +kernel
theorem dX3_doesFit_1 : decode cX3_doesFit 1 = .ok (.istore_n 3, 1) := by decide +kernel
theorem dX3_doesFit_2 : decode cX3_doesFit 2 = .ok (.lconst 1, 1) := by decide +kernel
theorem dX3_doesFit_3 : decode cX3_doesFit 3 = .ok (.lstore 4, 2) := by decide +kernel
theorem dX3_doesFit_5 : decode cX3_doesFit 5 = .ok (.iconst 0, 1) := by decide +kernel
theorem dX3_doesFit_6 : decode cX3_doesFit 6 = .ok (.istore 6, 2) := by decide +kernel
theorem dX3_doesFit_8 : decode cX3_doesFit 8 = .ok (.iload 6, 2) := by decide +kernel
theorem dX3_doesFit_10 : decode cX3_doesFit 10 = .ok (.aload_n 1, 1) := by decide +kernel
theorem dX3_doesFit_11 : decode cX3_doesFit 11 = .ok (.getfield 134, 3) := by decide +kernel
theorem dX3_doesFit_14 : decode cX3_doesFit 14 = .ok (.if_icmp .ge 43, 3) := by decide +kernel
theorem dX3_doesFit_17 : decode cX3_doesFit 17 = .ok (.aload_n 0, 1) := by decide +kernel
theorem dX3_doesFit_18 : decode cX3_doesFit 18 = .ok (.getfield 10, 3) := by decide +kernel
theorem dX3_doesFit_21 : decode cX3_doesFit 21 = .ok (.iload_n 3, 1) := by decide +kernel
theorem dX3_doesFit_22 : decode cX3_doesFit 22 = .ok (.aload_n 1, 1) := by decide +kernel
theorem dX3_doesFit_23 : decode cX3_doesFit 23 = .ok (.iload 6, 2) := by decide +kernel
theorem dX3_doesFit_25 : decode cX3_doesFit 25 = .ok (.invokevirtual 137, 3) := by decide +kernel
theorem dX3_doesFit_28 : decode cX3_doesFit 28 = .ok (.lload 4, 2) := by decide +kernel
theorem dX3_doesFit_30 : decode cX3_doesFit 30 = .ok (.aload_n 0, 1) := by decide +kernel
theorem dX3_doesFit_31 : decode cX3_doesFit 31 = .ok (.getfield 10, 3) := by decide +kernel
theorem dX3_doesFit_34 : decode cX3_doesFit 34 = .ok (.getfield 164, 3) := by decide +kernel
theorem dX3_doesFit_37 : decode cX3_doesFit 37 = .ok (.invokestatic 69, 3) := by decide +kernel
theorem dX3_doesFit_40 : decode cX3_doesFit 40 = .ok (.invokevirtual 143, 3) := by decide +kernel
theorem dX3_doesFit_43 : decode cX3_doesFit 43 = .ok (.istore_n 3, 1) := by decide +kernel
theorem dX3_doesFit_44 : decode cX3_doesFit 44 = .ok (.lload 4, 2) := by decide +kernel
theorem dX3_doesFit_46 : decode cX3_doesFit 46 = .ok (.iload_n 2, 1) := by decide +kernel
theorem dX3_doesFit_47 : decode cX3_doesFit 47 = .ok (.i2l, 1) := by decide +kernel
theorem dX3_doesFit_48 : decode cX3_doesFit 48 = .ok (.lmul, 1) := by decide +kernel
theorem dX3_doesFit_49 : decode cX3_doesFit 49 = .ok (.lstore 4, 2) := by decide +kernel
theorem dX3_doesFit_51 : decode cX3_doesFit 51 = .ok (.iinc 6 1, 3) := by decide +kernel
theorem dX3_doesFit_54 : decode cX3_doesFit 54 = .ok (.goto (-46), 3) := by decide +kernel
theorem dX3_doesFit_57 : decode cX3_doesFit 57 = .ok (.aload_n 0, 1) := by decide +kernel
theorem dX3_doesFit_58 : decode cX3_doesFit 58 = .ok (.getfield 10, 3) := by decide +kernel
theorem dX3_doesFit_61 : decode cX3_doesFit 61 = .ok (.aload_n 1, 1) := by decide +kernel
theorem dX3_doesFit_62 : decode cX3_doesFit 62 = .ok (.iload_n 2, 1) := by decide +kernel
theorem dX3_doesFit_63 : decode cX3_doesFit 63 = .ok (.invokevirtual 123, 3) := by decide +kernel
theorem dX3_doesFit_66 : decode cX3_doesFit 66 = .ok (.invokevirtual 73, 3) := by decide +kernel
theorem dX3_doesFit_69 : decode cX3_doesFit 69 = .ok (.iload_n 3, 1) := by decide +kernel
theorem dX3_doesFit_70 : decode cX3_doesFit 70 = .ok (.if_icmp .ne 7, 3) := by decide +kernel
theorem dX3_doesFit_73 : decode cX3_doesFit 73 = .ok (.iconst 1, 1) := by decide +kernel
theorem dX3_doesFit_74 : decode cX3_doesFit 74 = .ok (.goto 4, 3) := by decide +kernel
theorem dX3_doesFit_77 : decode cX3_doesFit 77 = .ok (.iconst 0, 1) := by decide +kernel
theorem dX3_doesFit_78 : decode cX3_doesFit 78 = .ok (.ireturn, 1) := by decide +kernel
theorem dX3_filledDeals_0 : decode cX3_filledDeals 0 = .ok (.iconst 0, 1) := by decide +kernel
theorem dX3_filledDeals_1 : decode cX3_filledDeals 1 = .ok (.istore_n 1, 1) := by decide +kernel
theorem dX3_filledDeals_2 : decode cX3_filledDeals 2 = .ok (.iconst 0, 1) := by decide +kernel
theorem dX3_filledDeals_3 : decode cX3_filledDeals 3 = .ok (.istore_n 2, 1) := by decide +kernel
theorem dX3_filledDeals_4 : decode cX3_filledDeals 4 = .ok (.iload_n 2, 1) := by decide +kernel
theorem dX3_filledDeals_5 : decode cX3_filledDeals 5 = .ok (.aload_n 0, 1) := by decide +kernel
theorem dX3_filledDeals_6 : decode cX3_filledDeals 6 = .ok (.getfield 25, 3) := by decide +kernel
theorem dX3_filledDeals_9 : decode cX3_filledDeals 9 = .ok (.arraylength, 1) := by decide +kernel
theorem dX3_filledDeals_10 : decode cX3_filledDeals 10 = .ok (.if_icmp .ge 24, 3) := by decide +kernel
theorem dX3_filledDeals_13 : decode cX3_filledDeals 13 = .ok (.aload_n 0, 1) := by decide +kernel
theorem dX3_filledDeals_14 : decode cX3_filledDeals 14 = .ok (.getfield 25, 3) := by decide +kernel
theorem dX3_filledDeals_17 : decode cX3_filledDeals 17 = .ok (.iload_n 2, 1) := by decide +kernel
theorem dX3_filledDeals_18 : decode cX3_filledDeals 18 = .ok (.aaload, 1) := by decide +kernel
theorem dX3_filledDeals_19 : decode cX3_filledDeals 19 = .ok (.invokevirtual 109, 3) := by decide +kernel
theorem dX3_filledDeals_22 : decode cX3_filledDeals 22 = .ok (.ifCond .ne 6, 3) := by decide +kernel
theorem dX3_filledDeals_25 : decode cX3_filledDeals 25 = .ok (.iinc 1 1, 3) := by decide +kernel
theorem dX3_filledDeals_28 : decode cX3_filledDeals 28 = .ok (.iinc 2 1, 3) := by decide +kernel
theorem dX3_filledDeals_31 : decode cX3_filledDeals 31 = .ok (.goto (-27), 3) := by decide +kernel
theorem dX3_filledDeals_34 : decode cX3_filledDeals 34 = .ok (.iload_n 1, 1) := by decide +kernel
theorem dX3_filledDeals_35 : decode cX3_filledDeals 35 = .ok (.ireturn, 1) := by decide +kernel
theorem dX3_areSharesSound_0 : decode cX3_areSharesSound 0 = .ok (.iconst 1, 1) := by decide +kernel
theorem dX3_areSharesSound_1 : decode cX3_areSharesSound 1 = .ok (.istore_n 2, 1) := by decide +kernel
theorem dX3_areSharesSound_2 : decode cX3_areSharesSound 2 = .ok (.iload_n 2, 1) := by decide +kernel
theorem dX3_areSharesSound_3 : decode cX3_areSharesSound 3 = .ok (.aload_n 0, 1) := by decide +kernel
theorem dX3_areSharesSound_4 : decode cX3_areSharesSound 4 = .ok (.getfield 10, 3) := by decide +kernel
theorem dX3_areSharesSound_7 : decode cX3_areSharesSound 7 = .ok (.getfield 116, 3) := by decide +kernel
theorem dX3_areSharesSound_10 : decode cX3_areSharesSound 10 = .ok (.if_icmp .gt 37, 3) := by decide +kernel
theorem dX3_areSharesSound_13 : decode cX3_areSharesSound 13 = .ok (.aload_n 1, 1) := by decide +kernel
theorem dX3_areSharesSound_14 : decode cX3_areSharesSound 14 = .ok (.iload_n 2, 1) := by decide +kernel
theorem dX3_areSharesSound_15 : decode cX3_areSharesSound 15 = .ok (.invokevirtual 123, 3) := by decide +kernel
theorem dX3_areSharesSound_18 : decode cX3_areSharesSound 18 = .ok (.istore_n 3, 1) := by decide +kernel
theorem dX3_areSharesSound_19 : decode cX3_areSharesSound 19 = .ok (.iload_n 3, 1) := by decide +kernel
theorem dX3_areSharesSound_20 : decode cX3_areSharesSound 20 = .ok (.iconst (-1), 1) := by decide +kernel
theorem dX3_areSharesSound_21 : decode cX3_areSharesSound 21 = .ok (.if_icmp .eq 20, 3) := by decide +kernel
theorem dX3_areSharesSound_24 : decode cX3_areSharesSound 24 = .ok (.iload_n 3, 1) := by decide +kernel
theorem dX3_areSharesSound_25 : decode cX3_areSharesSound 25 = .ok (.ifCond .lt 14, 3) := by decide +kernel
theorem dX3_areSharesSound_28 : decode cX3_areSharesSound 28 = .ok (.iload_n 3, 1) := by decide +kernel
theorem dX3_areSharesSound_29 : decode cX3_areSharesSound 29 = .ok (.aload_n 0, 1) := by decide +kernel
theorem dX3_areSharesSound_30 : decode cX3_areSharesSound 30 = .ok (.getfield 10, 3) := by decide +kernel
theorem dX3_areSharesSound_33 : decode cX3_areSharesSound 33 = .ok (.getfield 49, 3) := by decide +kernel
theorem dX3_areSharesSound_36 : decode cX3_areSharesSound 36 = .ok (.if_icmp .lt 5, 3) := by decide +kernel
theorem dX3_areSharesSound_39 : decode cX3_areSharesSound 39 = .ok (.iconst 0, 1) := by decide +kernel
theorem dX3_areSharesSound_40 : decode cX3_areSharesSound 40 = .ok (.ireturn, 1) := by decide +kernel
theorem dX3_areSharesSound_41 : decode cX3_areSharesSound 41 = .ok (.iinc 2 1, 3) := by decide +kernel
theorem dX3_areSharesSound_44 : decode cX3_areSharesSound 44 = .ok (.goto (-42), 3) := by decide +kernel
theorem dX3_areSharesSound_47 : decode cX3_areSharesSound 47 = .ok (.iconst 1, 1) := by decide +kernel
theorem dX3_areSharesSound_48 : decode cX3_areSharesSound 48 = .ok (.ireturn, 1) := by decide +kernel
theorem dX3_areSealsSound_0 : decode cX3_areSealsSound 0 = .ok (.iconst 0, 1) := by decide +kernel
theorem dX3_areSealsSound_1 : decode cX3_areSealsSound 1 = .ok (.istore_n 2, 1) := by decide +kernel
theorem dX3_areSealsSound_2 : decode cX3_areSealsSound 2 = .ok (.iload_n 2, 1) := by decide +kernel
theorem dX3_areSealsSound_3 : decode cX3_areSealsSound 3 = .ok (.aload_n 1, 1) := by decide +kernel
theorem dX3_areSealsSound_4 : decode cX3_areSealsSound 4 = .ok (.getfield 134, 3) := by decide +kernel
theorem dX3_areSealsSound_7 : decode cX3_areSealsSound 7 = .ok (.if_icmp .ge 35, 3) := by decide +kernel
theorem dX3_areSealsSound_10 : decode cX3_areSealsSound 10 = .ok (.aload_n 1, 1) := by decide +kernel
theorem dX3_areSealsSound_11 : decode cX3_areSealsSound 11 = .ok (.iload_n 2, 1) := by decide +kernel
theorem dX3_areSealsSound_12 : decode cX3_areSealsSound 12 = .ok (.invokevirtual 137, 3) := by decide +kernel
theorem dX3_areSealsSound_15 : decode cX3_areSealsSound 15 = .ok (.iconst 1, 1) := by decide +kernel
theorem dX3_areSealsSound_16 : decode cX3_areSealsSound 16 = .ok (.if_icmp .lt 18, 3) := by decide +kernel
theorem dX3_areSealsSound_19 : decode cX3_areSealsSound 19 = .ok (.aload_n 1, 1) := by decide +kernel
theorem dX3_areSealsSound_20 : decode cX3_areSealsSound 20 = .ok (.iload_n 2, 1) := by decide +kernel
theorem dX3_areSealsSound_21 : decode cX3_areSealsSound 21 = .ok (.invokevirtual 137, 3) := by decide +kernel
theorem dX3_areSealsSound_24 : decode cX3_areSealsSound 24 = .ok (.aload_n 0, 1) := by decide +kernel
theorem dX3_areSealsSound_25 : decode cX3_areSealsSound 25 = .ok (.getfield 10, 3) := by decide +kernel
theorem dX3_areSealsSound_28 : decode cX3_areSealsSound 28 = .ok (.getfield 164, 3) := by decide +kernel
theorem dX3_areSealsSound_31 : decode cX3_areSealsSound 31 = .ok (.if_icmp .lt 5, 3) := by decide +kernel
theorem dX3_areSealsSound_34 : decode cX3_areSealsSound 34 = .ok (.iconst 0, 1) := by decide +kernel
theorem dX3_areSealsSound_35 : decode cX3_areSealsSound 35 = .ok (.ireturn, 1) := by decide +kernel
theorem dX3_areSealsSound_36 : decode cX3_areSealsSound 36 = .ok (.iinc 2 1, 3) := by decide +kernel
theorem dX3_areSealsSound_39 : decode cX3_areSealsSound 39 = .ok (.goto (-37), 3) := by decide +kernel
theorem dX3_areSealsSound_42 : decode cX3_areSealsSound 42 = .ok (.aload_n 1, 1) := by decide +kernel
theorem dX3_areSealsSound_43 : decode cX3_areSealsSound 43 = .ok (.invokevirtual 195, 3) := by decide +kernel
theorem dX3_areSealsSound_46 : decode cX3_areSealsSound 46 = .ok (.ifCond .eq 16, 3) := by decide +kernel
theorem dX3_areSealsSound_49 : decode cX3_areSealsSound 49 = .ok (.aload_n 1, 1) := by decide +kernel
theorem dX3_areSealsSound_50 : decode cX3_areSealsSound 50 = .ok (.getfield 134, 3) := by decide +kernel
theorem dX3_areSealsSound_53 : decode cX3_areSealsSound 53 = .ok (.aload_n 1, 1) := by decide +kernel
theorem dX3_areSealsSound_54 : decode cX3_areSealsSound 54 = .ok (.getfield 113, 3) := by decide +kernel
theorem dX3_areSealsSound_57 : decode cX3_areSealsSound 57 = .ok (.iconst 1, 1) := by decide +kernel
theorem dX3_areSealsSound_58 : decode cX3_areSealsSound 58 = .ok (.iadd, 1) := by decide +kernel
theorem dX3_areSealsSound_59 : decode cX3_areSealsSound 59 = .ok (.if_icmp .ne 7, 3) := by decide +kernel
theorem dX3_areSealsSound_62 : decode cX3_areSealsSound 62 = .ok (.iconst 1, 1) := by decide +kernel
theorem dX3_areSealsSound_63 : decode cX3_areSealsSound 63 = .ok (.goto 4, 3) := by decide +kernel
theorem dX3_areSealsSound_66 : decode cX3_areSealsSound 66 = .ok (.iconst 0, 1) := by decide +kernel
theorem dX3_areSealsSound_67 : decode cX3_areSealsSound 67 = .ok (.ireturn, 1) := by decide +kernel
theorem dX3_isFirstSealSound_0 : decode cX3_isFirstSealSound 0 = .ok (.iconst 0, 1) := by decide +kernel
theorem dX3_isFirstSealSound_1 : decode cX3_isFirstSealSound 1 = .ok (.istore_n 1, 1) := by decide +kernel
theorem dX3_isFirstSealSound_2 : decode cX3_isFirstSealSound 2 = .ok (.iload_n 1, 1) := by decide +kernel
theorem dX3_isFirstSealSound_3 : decode cX3_isFirstSealSound 3 = .ok (.aload_n 0, 1) := by decide +kernel
theorem dX3_isFirstSealSound_4 : decode cX3_isFirstSealSound 4 = .ok (.getfield 25, 3) := by decide +kernel
theorem dX3_isFirstSealSound_7 : decode cX3_isFirstSealSound 7 = .ok (.arraylength, 1) := by decide +kernel
theorem dX3_isFirstSealSound_8 : decode cX3_isFirstSealSound 8 = .ok (.if_icmp .ge 87, 3) := by decide +kernel
theorem dX3_isFirstSealSound_11 : decode cX3_isFirstSealSound 11 = .ok (.aload_n 0, 1) := by decide +kernel
theorem dX3_isFirstSealSound_12 : decode cX3_isFirstSealSound 12 = .ok (.getfield 25, 3) := by decide +kernel
theorem dX3_isFirstSealSound_15 : decode cX3_isFirstSealSound 15 = .ok (.iload_n 1, 1) := by decide +kernel
theorem dX3_isFirstSealSound_16 : decode cX3_isFirstSealSound 16 = .ok (.aaload, 1) := by decide +kernel
theorem dX3_isFirstSealSound_17 : decode cX3_isFirstSealSound 17 = .ok (.invokevirtual 195, 3) := by decide +kernel
theorem dX3_isFirstSealSound_20 : decode cX3_isFirstSealSound 20 = .ok (.ifCond .eq 69, 3) := by decide +kernel
theorem dX3_isFirstSealSound_23 : decode cX3_isFirstSealSound 23 = .ok (.aload_n 0, 1) := by decide +kernel
theorem dX3_isFirstSealSound_24 : decode cX3_isFirstSealSound 24 = .ok (.getfield 25, 3) := by decide +kernel
theorem dX3_isFirstSealSound_27 : decode cX3_isFirstSealSound 27 = .ok (.iload_n 1, 1) := by decide +kernel
theorem dX3_isFirstSealSound_28 : decode cX3_isFirstSealSound 28 = .ok (.aaload, 1) := by decide +kernel
theorem dX3_isFirstSealSound_29 : decode cX3_isFirstSealSound 29 = .ok (.invokevirtual 202, 3) := by decide +kernel
theorem dX3_isFirstSealSound_32 : decode cX3_isFirstSealSound 32 = .ok (.istore_n 2, 1) := by decide +kernel
theorem dX3_isFirstSealSound_33 : decode cX3_isFirstSealSound 33 = .ok (.iload_n 2, 1) := by decide +kernel
theorem dX3_isFirstSealSound_34 : decode cX3_isFirstSealSound 34 = .ok (.ifCond .eq 49, 3) := by decide +kernel
theorem dX3_isFirstSealSound_37 : decode cX3_isFirstSealSound 37 = .ok (.aload_n 0, 1) := by decide +kernel
theorem dX3_isFirstSealSound_38 : decode cX3_isFirstSealSound 38 = .ok (.aload_n 0, 1) := by decide +kernel
theorem dX3_isFirstSealSound_39 : decode cX3_isFirstSealSound 39 = .ok (.getfield 25, 3) := by decide +kernel
theorem dX3_isFirstSealSound_42 : decode cX3_isFirstSealSound 42 = .ok (.iload_n 1, 1) := by decide +kernel
theorem dX3_isFirstSealSound_43 : decode cX3_isFirstSealSound 43 = .ok (.aaload, 1) := by decide +kernel
theorem dX3_isFirstSealSound_44 : decode cX3_isFirstSealSound 44 = .ok (.iload_n 2, 1) := by decide +kernel
theorem dX3_isFirstSealSound_45 : decode cX3_isFirstSealSound 45 = .ok (.invokevirtual 319, 3) := by decide +kernel
theorem dX3_isFirstSealSound_48 : decode cX3_isFirstSealSound 48 = .ok (.ifCond .eq 35, 3) := by decide +kernel
theorem dX3_isFirstSealSound_51 : decode cX3_isFirstSealSound 51 = .ok (.aload_n 0, 1) := by decide +kernel
theorem dX3_isFirstSealSound_52 : decode cX3_isFirstSealSound 52 = .ok (.getfield 10, 3) := by decide +kernel
theorem dX3_isFirstSealSound_55 : decode cX3_isFirstSealSound 55 = .ok (.aload_n 0, 1) := by decide +kernel
theorem dX3_isFirstSealSound_56 : decode cX3_isFirstSealSound 56 = .ok (.aload_n 0, 1) := by decide +kernel
theorem dX3_isFirstSealSound_57 : decode cX3_isFirstSealSound 57 = .ok (.getfield 25, 3) := by decide +kernel
theorem dX3_isFirstSealSound_60 : decode cX3_isFirstSealSound 60 = .ok (.iload_n 1, 1) := by decide +kernel
theorem dX3_isFirstSealSound_61 : decode cX3_isFirstSealSound 61 = .ok (.aaload, 1) := by decide +kernel
theorem dX3_isFirstSealSound_62 : decode cX3_isFirstSealSound 62 = .ok (.iload_n 2, 1) := by decide +kernel
theorem dX3_isFirstSealSound_63 : decode cX3_isFirstSealSound 63 = .ok (.iconst 0, 1) := by decide +kernel
theorem dX3_isFirstSealSound_64 : decode cX3_isFirstSealSound 64 = .ok (.invokevirtual 178, 3) := by decide +kernel
theorem dX3_isFirstSealSound_67 : decode cX3_isFirstSealSound 67 = .ok (.invokevirtual 73, 3) := by decide +kernel
theorem dX3_isFirstSealSound_70 : decode cX3_isFirstSealSound 70 = .ok (.aload_n 0, 1) := by decide +kernel
theorem dX3_isFirstSealSound_71 : decode cX3_isFirstSealSound 71 = .ok (.getfield 25, 3) := by decide +kernel
theorem dX3_isFirstSealSound_74 : decode cX3_isFirstSealSound 74 = .ok (.iload_n 1, 1) := by decide +kernel
theorem dX3_isFirstSealSound_75 : decode cX3_isFirstSealSound 75 = .ok (.aaload, 1) := by decide +kernel
theorem dX3_isFirstSealSound_76 : decode cX3_isFirstSealSound 76 = .ok (.iconst 0, 1) := by decide +kernel
theorem dX3_isFirstSealSound_77 : decode cX3_isFirstSealSound 77 = .ok (.invokevirtual 137, 3) := by decide +kernel
theorem dX3_isFirstSealSound_80 : decode cX3_isFirstSealSound 80 = .ok (.if_icmp .ne 7, 3) := by decide +kernel
theorem dX3_isFirstSealSound_83 : decode cX3_isFirstSealSound 83 = .ok (.iconst 1, 1) := by decide +kernel
theorem dX3_isFirstSealSound_84 : decode cX3_isFirstSealSound 84 = .ok (.goto 4, 3) := by decide +kernel
theorem dX3_isFirstSealSound_87 : decode cX3_isFirstSealSound 87 = .ok (.iconst 0, 1) := by decide +kernel
theorem dX3_isFirstSealSound_88 : decode cX3_isFirstSealSound 88 = .ok (.ireturn, 1) := by decide +kernel
theorem dX3_isFirstSealSound_89 : decode cX3_isFirstSealSound 89 = .ok (.iinc 1 1, 3) := by decide +kernel
theorem dX3_isFirstSealSound_92 : decode cX3_isFirstSealSound 92 = .ok (.goto (-90), 3) := by decide +kernel
theorem dX3_isFirstSealSound_95 : decode cX3_isFirstSealSound 95 = .ok (.iconst 1, 1) := by decide +kernel
theorem dX3_isFirstSealSound_96 : decode cX3_isFirstSealSound 96 = .ok (.ireturn, 1) := by decide +kernel
theorem dX3_doAllFit_0 : decode cX3_doAllFit 0 = .ok (.iconst 1, 1) := by decide +kernel
theorem dX3_doAllFit_1 : decode cX3_doAllFit 1 = .ok (.istore_n 3, 1) := by decide +kernel
theorem dX3_doAllFit_2 : decode cX3_doAllFit 2 = .ok (.iload_n 3, 1) := by decide +kernel
theorem dX3_doAllFit_3 : decode cX3_doAllFit 3 = .ok (.aload_n 0, 1) := by decide +kernel
theorem dX3_doAllFit_4 : decode cX3_doAllFit 4 = .ok (.getfield 10, 3) := by decide +kernel
theorem dX3_doAllFit_7 : decode cX3_doAllFit 7 = .ok (.getfield 116, 3) := by decide +kernel
theorem dX3_doAllFit_10 : decode cX3_doAllFit 10 = .ok (.if_icmp .gt 28, 3) := by decide +kernel
theorem dX3_doAllFit_13 : decode cX3_doAllFit 13 = .ok (.iload_n 2, 1) := by decide +kernel
theorem dX3_doAllFit_14 : decode cX3_doAllFit 14 = .ok (.iload_n 3, 1) := by decide +kernel
theorem dX3_doAllFit_15 : decode cX3_doAllFit 15 = .ok (.invokestatic 83, 3) := by decide +kernel
theorem dX3_doAllFit_18 : decode cX3_doAllFit 18 = .ok (.ifCond .eq 14, 3) := by decide +kernel
theorem dX3_doAllFit_21 : decode cX3_doAllFit 21 = .ok (.aload_n 0, 1) := by decide +kernel
theorem dX3_doAllFit_22 : decode cX3_doAllFit 22 = .ok (.aload_n 1, 1) := by decide +kernel
theorem dX3_doAllFit_23 : decode cX3_doAllFit 23 = .ok (.iload_n 3, 1) := by decide +kernel
theorem dX3_doAllFit_24 : decode cX3_doAllFit 24 = .ok (.invokevirtual 231, 3) := by decide +kernel
theorem dX3_doAllFit_27 : decode cX3_doAllFit 27 = .ok (.ifCond .ne 5, 3) := by decide +kernel
theorem dX3_doAllFit_30 : decode cX3_doAllFit 30 = .ok (.iconst 0, 1) := by decide +kernel
theorem dX3_doAllFit_31 : decode cX3_doAllFit 31 = .ok (.ireturn, 1) := by decide +kernel
theorem dX3_doAllFit_32 : decode cX3_doAllFit 32 = .ok (.iinc 3 1, 3) := by decide +kernel
theorem dX3_doAllFit_35 : decode cX3_doAllFit 35 = .ok (.goto (-33), 3) := by decide +kernel
theorem dX3_doAllFit_38 : decode cX3_doAllFit 38 = .ok (.iconst 1, 1) := by decide +kernel
theorem dX3_doAllFit_39 : decode cX3_doAllFit 39 = .ok (.ireturn, 1) := by decide +kernel
theorem dJ5_init_d00df_0 : decode cJ5_init_d00df 0 = .ok (.aload_n 0, 1) := by decide +kernel
theorem dJ5_init_d00df_1 : decode cJ5_init_d00df 1 = .ok (.invokespecial 3, 3) := by decide +kernel
theorem dJ5_init_d00df_4 : decode cJ5_init_d00df 4 = .ok (.getstatic 18, 3) := by decide +kernel
theorem dJ5_init_d00df_7 : decode cJ5_init_d00df 7 = .ok (.ifCond .eq 18, 3) := by decide +kernel
theorem dJ5_init_d00df_10 : decode cJ5_init_d00df 10 = .ok (.aload_n 0, 1) := by decide +kernel
theorem dJ5_init_d00df_11 : decode cJ5_init_d00df 11 = .ok (.iload_n 1, 1) := by decide +kernel
theorem dJ5_init_d00df_12 : decode cJ5_init_d00df 12 = .ok (.newarray .byte, 2) := by decide +kernel
theorem dJ5_init_d00df_14 : decode cJ5_init_d00df 14 = .ok (.putfield 15, 3) := by decide +kernel
theorem dJ5_init_d00df_17 : decode cJ5_init_d00df 17 = .ok (.aload_n 0, 1) := by decide +kernel
theorem dJ5_init_d00df_18 : decode cJ5_init_d00df 18 = .ok (.iconst 0, 1) := by decide +kernel
theorem dJ5_init_d00df_19 : decode cJ5_init_d00df 19 = .ok (.putfield 22, 3) := by decide +kernel
theorem dJ5_init_d00df_22 : decode cJ5_init_d00df 22 = .ok (.goto 16, 3) := by decide +kernel
theorem dJ5_init_d00df_25 : decode cJ5_init_d00df 25 = .ok (.aload_n 0, 1) := by decide +kernel
theorem dJ5_init_d00df_26 : decode cJ5_init_d00df 26 = .ok (.iload_n 1, 1) := by decide +kernel
theorem dJ5_init_d00df_27 : decode cJ5_init_d00df 27 = .ok (.invokestatic 26, 3) := by decide +kernel
theorem dJ5_init_d00df_30 : decode cJ5_init_d00df 30 = .ok (.putfield 15, 3) := by decide +kernel
theorem dJ5_init_d00df_33 : decode cJ5_init_d00df 33 = .ok (.aload_n 0, 1) := by decide +kernel
theorem dJ5_init_d00df_34 : decode cJ5_init_d00df 34 = .ok (.iconst 1, 1) := by decide +kernel
theorem dJ5_init_d00df_35 : decode cJ5_init_d00df 35 = .ok (.putfield 22, 3) := by decide +kernel
theorem dJ5_init_d00df_38 : decode cJ5_init_d00df 38 = .ok (.return_, 1) := by decide +kernel
theorem dJ5_length_8abf5_0 : decode cJ5_length_8abf5 0 = .ok (.aload_n 0, 1) := by decide +kernel
theorem dJ5_length_8abf5_1 : decode cJ5_length_8abf5 1 = .ok (.getfield 79, 3) := by decide +kernel
theorem dJ5_length_8abf5_4 : decode cJ5_length_8abf5 4 = .ok (.ireturn, 1) := by decide +kernel
theorem dJ5_ensureCapacityInternal_d00df_0 : decode cJ5_ensureCapacityInternal_d00df 0 = .ok (.aload_n 0, 1) := by decide +kernel
theorem dJ5_ensureCapacityInternal_d00df_1 : decode cJ5_ensureCapacityInternal_d00df 1 = .ok (.getfield 15, 3) := by decide +kernel
theorem dJ5_ensureCapacityInternal_d00df_4 : decode cJ5_ensureCapacityInternal_d00df 4 = .ok (.arraylength, 1) := by decide +kernel
theorem dJ5_ensureCapacityInternal_d00df_5 : decode cJ5_ensureCapacityInternal_d00df 5 = .ok (.aload_n 0, 1) := by decide +kernel
theorem dJ5_ensureCapacityInternal_d00df_6 : decode cJ5_ensureCapacityInternal_d00df 6 = .ok (.getfield 22, 3) := by decide +kernel
theorem dJ5_ensureCapacityInternal_d00df_9 : decode cJ5_ensureCapacityInternal_d00df 9 = .ok (.ishr, 1) := by decide +kernel
theorem dJ5_ensureCapacityInternal_d00df_10 : decode cJ5_ensureCapacityInternal_d00df 10 = .ok (.istore_n 2, 1) := by decide +kernel
theorem dJ5_ensureCapacityInternal_d00df_11 : decode cJ5_ensureCapacityInternal_d00df 11 = .ok (.iload_n 1, 1) := by decide +kernel
theorem dJ5_ensureCapacityInternal_d00df_12 : decode cJ5_ensureCapacityInternal_d00df 12 = .ok (.iload_n 2, 1) := by decide +kernel
theorem dJ5_ensureCapacityInternal_d00df_13 : decode cJ5_ensureCapacityInternal_d00df 13 = .ok (.isub, 1) := by decide +kernel
theorem dJ5_ensureCapacityInternal_d00df_14 : decode cJ5_ensureCapacityInternal_d00df 14 = .ok (.ifCond .le 24, 3) := by decide +kernel
theorem dJ5_ensureCapacityInternal_d00df_17 : decode cJ5_ensureCapacityInternal_d00df 17 = .ok (.aload_n 0, 1) := by decide +kernel
theorem dJ5_ensureCapacityInternal_d00df_18 : decode cJ5_ensureCapacityInternal_d00df 18 = .ok (.aload_n 0, 1) := by decide +kernel
theorem dJ5_ensureCapacityInternal_d00df_19 : decode cJ5_ensureCapacityInternal_d00df 19 = .ok (.getfield 15, 3) := by decide +kernel
theorem dJ5_ensureCapacityInternal_d00df_22 : decode cJ5_ensureCapacityInternal_d00df 22 = .ok (.aload_n 0, 1) := by decide +kernel
theorem dJ5_ensureCapacityInternal_d00df_23 : decode cJ5_ensureCapacityInternal_d00df 23 = .ok (.iload_n 1, 1) := by decide +kernel
theorem dJ5_ensureCapacityInternal_d00df_24 : decode cJ5_ensureCapacityInternal_d00df 24 = .ok (.invokevirtual 104, 3) := by decide +kernel
theorem dJ5_ensureCapacityInternal_d00df_27 : decode cJ5_ensureCapacityInternal_d00df 27 = .ok (.aload_n 0, 1) := by decide +kernel
theorem dJ5_ensureCapacityInternal_d00df_28 : decode cJ5_ensureCapacityInternal_d00df 28 = .ok (.getfield 22, 3) := by decide +kernel
theorem dJ5_ensureCapacityInternal_d00df_31 : decode cJ5_ensureCapacityInternal_d00df 31 = .ok (.ishl, 1) := by decide +kernel
theorem dJ5_ensureCapacityInternal_d00df_32 : decode cJ5_ensureCapacityInternal_d00df 32 = .ok (.invokestatic 108, 3) := by decide +kernel
theorem dJ5_ensureCapacityInternal_d00df_35 : decode cJ5_ensureCapacityInternal_d00df 35 = .ok (.putfield 15, 3) := by decide +kernel
theorem dJ5_ensureCapacityInternal_d00df_38 : decode cJ5_ensureCapacityInternal_d00df 38 = .ok (.return_, 1) := by decide +kernel
theorem dJ5_newCapacity_0f7a4_0 : decode cJ5_newCapacity_0f7a4 0 = .ok (.aload_n 0, 1) := by decide +kernel
theorem dJ5_newCapacity_0f7a4_1 : decode cJ5_newCapacity_0f7a4 1 = .ok (.getfield 15, 3) := by decide +kernel
theorem dJ5_newCapacity_0f7a4_4 : decode cJ5_newCapacity_0f7a4 4 = .ok (.arraylength, 1) := by decide +kernel
theorem dJ5_newCapacity_0f7a4_5 : decode cJ5_newCapacity_0f7a4 5 = .ok (.istore_n 2, 1) := by decide +kernel
theorem dJ5_newCapacity_0f7a4_6 : decode cJ5_newCapacity_0f7a4 6 = .ok (.iload_n 1, 1) := by decide +kernel
theorem dJ5_newCapacity_0f7a4_7 : decode cJ5_newCapacity_0f7a4 7 = .ok (.aload_n 0, 1) := by decide +kernel
theorem dJ5_newCapacity_0f7a4_8 : decode cJ5_newCapacity_0f7a4 8 = .ok (.getfield 22, 3) := by decide +kernel
theorem dJ5_newCapacity_0f7a4_11 : decode cJ5_newCapacity_0f7a4 11 = .ok (.ishl, 1) := by decide +kernel
theorem dJ5_newCapacity_0f7a4_12 : decode cJ5_newCapacity_0f7a4 12 = .ok (.istore_n 3, 1) := by decide +kernel
theorem dJ5_newCapacity_0f7a4_13 : decode cJ5_newCapacity_0f7a4 13 = .ok (.iload_n 3, 1) := by decide +kernel
theorem dJ5_newCapacity_0f7a4_14 : decode cJ5_newCapacity_0f7a4 14 = .ok (.iload_n 2, 1) := by decide +kernel
theorem dJ5_newCapacity_0f7a4_15 : decode cJ5_newCapacity_0f7a4 15 = .ok (.isub, 1) := by decide +kernel
theorem dJ5_newCapacity_0f7a4_16 : decode cJ5_newCapacity_0f7a4 16 = .ok (.istore 4, 2) := by decide +kernel
theorem dJ5_newCapacity_0f7a4_18 : decode cJ5_newCapacity_0f7a4 18 = .ok (.iload_n 2, 1) := by decide +kernel
theorem dJ5_newCapacity_0f7a4_19 : decode cJ5_newCapacity_0f7a4 19 = .ok (.iload 4, 2) := by decide +kernel
theorem dJ5_newCapacity_0f7a4_21 : decode cJ5_newCapacity_0f7a4 21 = .ok (.iload_n 2, 1) := by decide +kernel
theorem dJ5_newCapacity_0f7a4_22 : decode cJ5_newCapacity_0f7a4 22 = .ok (.iconst 2, 1) := by decide +kernel
theorem dJ5_newCapacity_0f7a4_23 : decode cJ5_newCapacity_0f7a4 23 = .ok (.aload_n 0, 1) := by decide +kernel
theorem dJ5_newCapacity_0f7a4_24 : decode cJ5_newCapacity_0f7a4 24 = .ok (.getfield 22, 3) := by decide +kernel
theorem dJ5_newCapacity_0f7a4_27 : decode cJ5_newCapacity_0f7a4 27 = .ok (.ishl, 1) := by decide +kernel
theorem dJ5_newCapacity_0f7a4_28 : decode cJ5_newCapacity_0f7a4 28 = .ok (.iadd, 1) := by decide +kernel
theorem dJ5_newCapacity_0f7a4_29 : decode cJ5_newCapacity_0f7a4 29 = .ok (.invokestatic 114, 3) := by decide +kernel
theorem dJ5_newCapacity_0f7a4_32 : decode cJ5_newCapacity_0f7a4 32 = .ok (.istore 5, 2) := by decide +kernel
theorem dJ5_newCapacity_0f7a4_34 : decode cJ5_newCapacity_0f7a4 34 = .ok (.iload 5, 2) := by decide +kernel
theorem dJ5_newCapacity_0f7a4_36 : decode cJ5_newCapacity_0f7a4 36 = .ok (.ldc 39, 2) := by decide +kernel
theorem dJ5_newCapacity_0f7a4_38 : decode cJ5_newCapacity_0f7a4 38 = .ok (.if_icmp .ne 13, 3) := by decide +kernel
theorem dJ5_newCapacity_0f7a4_41 : decode cJ5_newCapacity_0f7a4 41 = .ok (.new 120, 3) := by decide +kernel
theorem dJ5_newCapacity_0f7a4_44 : decode cJ5_newCapacity_0f7a4 44 = .ok (.dup, 1) := by decide +kernel
theorem dJ5_newCapacity_0f7a4_45 : decode cJ5_newCapacity_0f7a4 45 = .ok (.ldc 122, 2) := by decide +kernel
theorem dJ5_newCapacity_0f7a4_47 : decode cJ5_newCapacity_0f7a4 47 = .ok (.invokespecial 124, 3) := by decide +kernel
theorem dJ5_newCapacity_0f7a4_50 : decode cJ5_newCapacity_0f7a4 50 = .ok (.athrow, 1) := by decide +kernel
theorem dJ5_newCapacity_0f7a4_51 : decode cJ5_newCapacity_0f7a4 51 = .ok (.iload 5, 2) := by decide +kernel
theorem dJ5_newCapacity_0f7a4_53 : decode cJ5_newCapacity_0f7a4 53 = .ok (.aload_n 0, 1) := by decide +kernel
theorem dJ5_newCapacity_0f7a4_54 : decode cJ5_newCapacity_0f7a4 54 = .ok (.getfield 22, 3) := by decide +kernel
theorem dJ5_newCapacity_0f7a4_57 : decode cJ5_newCapacity_0f7a4 57 = .ok (.ishr, 1) := by decide +kernel
theorem dJ5_newCapacity_0f7a4_58 : decode cJ5_newCapacity_0f7a4 58 = .ok (.ireturn, 1) := by decide +kernel
theorem dJ5_append_3fe6f_0 : decode cJ5_append_3fe6f 0 = .ok (.aload_n 0, 1) := by decide +kernel
theorem dJ5_append_3fe6f_1 : decode cJ5_append_3fe6f 1 = .ok (.aload_n 0, 1) := by decide +kernel
theorem dJ5_append_3fe6f_2 : decode cJ5_append_3fe6f 2 = .ok (.getfield 79, 3) := by decide +kernel
theorem dJ5_append_3fe6f_5 : decode cJ5_append_3fe6f 5 = .ok (.iconst 1, 1) := by decide +kernel
theorem dJ5_append_3fe6f_6 : decode cJ5_append_3fe6f 6 = .ok (.iadd, 1) := by decide +kernel
theorem dJ5_append_3fe6f_7 : decode cJ5_append_3fe6f 7 = .ok (.invokevirtual 100, 3) := by decide +kernel
theorem dJ5_append_3fe6f_10 : decode cJ5_append_3fe6f 10 = .ok (.aload_n 0, 1) := by decide +kernel
theorem dJ5_append_3fe6f_11 : decode cJ5_append_3fe6f 11 = .ok (.invokevirtual 83, 3) := by decide +kernel
theorem dJ5_append_3fe6f_14 : decode cJ5_append_3fe6f 14 = .ok (.ifCond .eq 31, 3) := by decide +kernel
theorem dJ5_append_3fe6f_17 : decode cJ5_append_3fe6f 17 = .ok (.iload_n 1, 1) := by decide +kernel
theorem dJ5_append_3fe6f_18 : decode cJ5_append_3fe6f 18 = .ok (.invokestatic 191, 3) := by decide +kernel
theorem dJ5_append_3fe6f_21 : decode cJ5_append_3fe6f 21 = .ok (.ifCond .eq 24, 3) := by decide +kernel
theorem dJ5_append_3fe6f_24 : decode cJ5_append_3fe6f 24 = .ok (.aload_n 0, 1) := by decide +kernel
theorem dJ5_append_3fe6f_25 : decode cJ5_append_3fe6f 25 = .ok (.getfield 15, 3) := by decide +kernel
theorem dJ5_append_3fe6f_28 : decode cJ5_append_3fe6f 28 = .ok (.aload_n 0, 1) := by decide +kernel
theorem dJ5_append_3fe6f_29 : decode cJ5_append_3fe6f 29 = .ok (.dup, 1) := by decide +kernel
theorem dJ5_append_3fe6f_30 : decode cJ5_append_3fe6f 30 = .ok (.getfield 79, 3) := by decide +kernel
theorem dJ5_append_3fe6f_33 : decode cJ5_append_3fe6f 33 = .ok (.dup_x1, 1) := by decide +kernel
theorem dJ5_append_3fe6f_34 : decode cJ5_append_3fe6f 34 = .ok (.iconst 1, 1) := by decide +kernel
theorem dJ5_append_3fe6f_35 : decode cJ5_append_3fe6f 35 = .ok (.iadd, 1) := by decide +kernel
theorem dJ5_append_3fe6f_36 : decode cJ5_append_3fe6f 36 = .ok (.putfield 79, 3) := by decide +kernel
theorem dJ5_append_3fe6f_39 : decode cJ5_append_3fe6f 39 = .ok (.iload_n 1, 1) := by decide +kernel
theorem dJ5_append_3fe6f_40 : decode cJ5_append_3fe6f 40 = .ok (.i2b, 1) := by decide +kernel
theorem dJ5_append_3fe6f_41 : decode cJ5_append_3fe6f 41 = .ok (.bastore, 1) := by decide +kernel
theorem dJ5_append_3fe6f_42 : decode cJ5_append_3fe6f 42 = .ok (.goto 33, 3) := by decide +kernel
theorem dJ5_append_3fe6f_45 : decode cJ5_append_3fe6f 45 = .ok (.aload_n 0, 1) := by decide +kernel
theorem dJ5_append_3fe6f_46 : decode cJ5_append_3fe6f 46 = .ok (.invokevirtual 83, 3) := by decide +kernel
theorem dJ5_append_3fe6f_49 : decode cJ5_append_3fe6f 49 = .ok (.ifCond .eq 7, 3) := by decide +kernel
theorem dJ5_append_3fe6f_52 : decode cJ5_append_3fe6f 52 = .ok (.aload_n 0, 1) := by decide +kernel
theorem dJ5_append_3fe6f_53 : decode cJ5_append_3fe6f 53 = .ok (.invokevirtual 195, 3) := by decide +kernel
theorem dJ5_append_3fe6f_56 : decode cJ5_append_3fe6f 56 = .ok (.aload_n 0, 1) := by decide +kernel
theorem dJ5_append_3fe6f_57 : decode cJ5_append_3fe6f 57 = .ok (.getfield 15, 3) := by decide +kernel
theorem dJ5_append_3fe6f_60 : decode cJ5_append_3fe6f 60 = .ok (.aload_n 0, 1) := by decide +kernel
theorem dJ5_append_3fe6f_61 : decode cJ5_append_3fe6f 61 = .ok (.dup, 1) := by decide +kernel
theorem dJ5_append_3fe6f_62 : decode cJ5_append_3fe6f 62 = .ok (.getfield 79, 3) := by decide +kernel
theorem dJ5_append_3fe6f_65 : decode cJ5_append_3fe6f 65 = .ok (.dup_x1, 1) := by decide +kernel
theorem dJ5_append_3fe6f_66 : decode cJ5_append_3fe6f 66 = .ok (.iconst 1, 1) := by decide +kernel
theorem dJ5_append_3fe6f_67 : decode cJ5_append_3fe6f 67 = .ok (.iadd, 1) := by decide +kernel
theorem dJ5_append_3fe6f_68 : decode cJ5_append_3fe6f 68 = .ok (.putfield 79, 3) := by decide +kernel
theorem dJ5_append_3fe6f_71 : decode cJ5_append_3fe6f 71 = .ok (.iload_n 1, 1) := by decide +kernel
theorem dJ5_append_3fe6f_72 : decode cJ5_append_3fe6f 72 = .ok (.invokestatic 197, 3) := by decide +kernel
theorem dJ5_append_3fe6f_75 : decode cJ5_append_3fe6f 75 = .ok (.aload_n 0, 1) := by decide +kernel
theorem dJ5_append_3fe6f_76 : decode cJ5_append_3fe6f 76 = .ok (.areturn, 1) := by decide +kernel
theorem dJ5_append_c97b9_0 : decode cJ5_append_c97b9 0 = .ok (.aload_n 0, 1) := by decide +kernel
theorem dJ5_append_c97b9_1 : decode cJ5_append_c97b9 1 = .ok (.getfield 79, 3) := by decide +kernel
theorem dJ5_append_c97b9_4 : decode cJ5_append_c97b9 4 = .ok (.istore_n 2, 1) := by decide +kernel
theorem dJ5_append_c97b9_5 : decode cJ5_append_c97b9 5 = .ok (.iload_n 2, 1) := by decide +kernel
theorem dJ5_append_c97b9_6 : decode cJ5_append_c97b9 6 = .ok (.iload_n 1, 1) := by decide +kernel
theorem dJ5_append_c97b9_7 : decode cJ5_append_c97b9 7 = .ok (.invokestatic 245, 3) := by decide +kernel
theorem dJ5_append_c97b9_10 : decode cJ5_append_c97b9 10 = .ok (.iadd, 1) := by decide +kernel
theorem dJ5_append_c97b9_11 : decode cJ5_append_c97b9 11 = .ok (.istore_n 3, 1) := by decide +kernel
theorem dJ5_append_c97b9_12 : decode cJ5_append_c97b9 12 = .ok (.aload_n 0, 1) := by decide +kernel
theorem dJ5_append_c97b9_13 : decode cJ5_append_c97b9 13 = .ok (.iload_n 3, 1) := by decide +kernel
theorem dJ5_append_c97b9_14 : decode cJ5_append_c97b9 14 = .ok (.invokevirtual 100, 3) := by decide +kernel
theorem dJ5_append_c97b9_17 : decode cJ5_append_c97b9 17 = .ok (.aload_n 0, 1) := by decide +kernel
theorem dJ5_append_c97b9_18 : decode cJ5_append_c97b9 18 = .ok (.invokevirtual 83, 3) := by decide +kernel
theorem dJ5_append_c97b9_21 : decode cJ5_append_c97b9 21 = .ok (.ifCond .eq 16, 3) := by decide +kernel
theorem dJ5_append_c97b9_24 : decode cJ5_append_c97b9 24 = .ok (.iload_n 1, 1) := by decide +kernel
theorem dJ5_append_c97b9_25 : decode cJ5_append_c97b9 25 = .ok (.iload_n 3, 1) := by decide +kernel
theorem dJ5_append_c97b9_26 : decode cJ5_append_c97b9 26 = .ok (.aload_n 0, 1) := by decide +kernel
theorem dJ5_append_c97b9_27 : decode cJ5_append_c97b9 27 = .ok (.getfield 15, 3) := by decide +kernel
theorem dJ5_append_c97b9_30 : decode cJ5_append_c97b9 30 = .ok (.invokestatic 248, 3) := by decide +kernel
theorem dJ5_append_c97b9_33 : decode cJ5_append_c97b9 33 = .ok (.pop, 1) := by decide +kernel
theorem dJ5_append_c97b9_34 : decode cJ5_append_c97b9 34 = .ok (.goto 14, 3) := by decide +kernel
theorem dJ5_append_c97b9_37 : decode cJ5_append_c97b9 37 = .ok (.iload_n 1, 1) := by decide +kernel
theorem dJ5_append_c97b9_38 : decode cJ5_append_c97b9 38 = .ok (.iload_n 2, 1) := by decide +kernel
theorem dJ5_append_c97b9_39 : decode cJ5_append_c97b9 39 = .ok (.iload_n 3, 1) := by decide +kernel
theorem dJ5_append_c97b9_40 : decode cJ5_append_c97b9 40 = .ok (.aload_n 0, 1) := by decide +kernel
theorem dJ5_append_c97b9_41 : decode cJ5_append_c97b9 41 = .ok (.getfield 15, 3) := by decide +kernel
theorem dJ5_append_c97b9_44 : decode cJ5_append_c97b9 44 = .ok (.invokestatic 251, 3) := by decide +kernel
theorem dJ5_append_c97b9_47 : decode cJ5_append_c97b9 47 = .ok (.pop, 1) := by decide +kernel
theorem dJ5_append_c97b9_48 : decode cJ5_append_c97b9 48 = .ok (.aload_n 0, 1) := by decide +kernel
theorem dJ5_append_c97b9_49 : decode cJ5_append_c97b9 49 = .ok (.iload_n 3, 1) := by decide +kernel
theorem dJ5_append_c97b9_50 : decode cJ5_append_c97b9 50 = .ok (.putfield 79, 3) := by decide +kernel
theorem dJ5_append_c97b9_53 : decode cJ5_append_c97b9 53 = .ok (.aload_n 0, 1) := by decide +kernel
theorem dJ5_append_c97b9_54 : decode cJ5_append_c97b9 54 = .ok (.areturn, 1) := by decide +kernel
theorem dJ5_getValue_6d5f1_0 : decode cJ5_getValue_6d5f1 0 = .ok (.aload_n 0, 1) := by decide +kernel
theorem dJ5_getValue_6d5f1_1 : decode cJ5_getValue_6d5f1 1 = .ok (.getfield 15, 3) := by decide +kernel
theorem dJ5_getValue_6d5f1_4 : decode cJ5_getValue_6d5f1 4 = .ok (.areturn, 1) := by decide +kernel
theorem dJ5_isLatin1_aae02_0 : decode cJ5_isLatin1_aae02 0 = .ok (.getstatic 18, 3) := by decide +kernel
theorem dJ5_isLatin1_aae02_3 : decode cJ5_isLatin1_aae02 3 = .ok (.ifCond .eq 14, 3) := by decide +kernel
theorem dJ5_isLatin1_aae02_6 : decode cJ5_isLatin1_aae02 6 = .ok (.aload_n 0, 1) := by decide +kernel
theorem dJ5_isLatin1_aae02_7 : decode cJ5_isLatin1_aae02 7 = .ok (.getfield 22, 3) := by decide +kernel
theorem dJ5_isLatin1_aae02_10 : decode cJ5_isLatin1_aae02 10 = .ok (.ifCond .ne 7, 3) := by decide +kernel
theorem dJ5_isLatin1_aae02_13 : decode cJ5_isLatin1_aae02 13 = .ok (.iconst 1, 1) := by decide +kernel
theorem dJ5_isLatin1_aae02_14 : decode cJ5_isLatin1_aae02 14 = .ok (.goto 4, 3) := by decide +kernel
theorem dJ5_isLatin1_aae02_17 : decode cJ5_isLatin1_aae02 17 = .ok (.iconst 0, 1) := by decide +kernel
theorem dJ5_isLatin1_aae02_18 : decode cJ5_isLatin1_aae02 18 = .ok (.ireturn, 1) := by decide +kernel
theorem dJ6_getChars_ba4f3_0 : decode cJ6_getChars_ba4f3 0 = .ok (.iload_n 1, 1) := by decide +kernel
theorem dJ6_getChars_ba4f3_1 : decode cJ6_getChars_ba4f3 1 = .ok (.istore 5, 2) := by decide +kernel
theorem dJ6_getChars_ba4f3_3 : decode cJ6_getChars_ba4f3 3 = .ok (.iload_n 0, 1) := by decide +kernel
theorem dJ6_getChars_ba4f3_4 : decode cJ6_getChars_ba4f3 4 = .ok (.ifCond .ge 7, 3) := by decide +kernel
theorem dJ6_getChars_ba4f3_7 : decode cJ6_getChars_ba4f3 7 = .ok (.iconst 1, 1) := by decide +kernel
theorem dJ6_getChars_ba4f3_8 : decode cJ6_getChars_ba4f3 8 = .ok (.goto 4, 3) := by decide +kernel
theorem dJ6_getChars_ba4f3_11 : decode cJ6_getChars_ba4f3 11 = .ok (.iconst 0, 1) := by decide +kernel
theorem dJ6_getChars_ba4f3_12 : decode cJ6_getChars_ba4f3 12 = .ok (.istore 6, 2) := by decide +kernel
theorem dJ6_getChars_ba4f3_14 : decode cJ6_getChars_ba4f3 14 = .ok (.iload 6, 2) := by decide +kernel
theorem dJ6_getChars_ba4f3_16 : decode cJ6_getChars_ba4f3 16 = .ok (.ifCond .ne 6, 3) := by decide +kernel
theorem dJ6_getChars_ba4f3_19 : decode cJ6_getChars_ba4f3 19 = .ok (.iload_n 0, 1) := by decide +kernel
theorem dJ6_getChars_ba4f3_20 : decode cJ6_getChars_ba4f3 20 = .ok (.ineg, 1) := by decide +kernel
theorem dJ6_getChars_ba4f3_21 : decode cJ6_getChars_ba4f3 21 = .ok (.istore_n 0, 1) := by decide +kernel
theorem dJ6_getChars_ba4f3_22 : decode cJ6_getChars_ba4f3 22 = .ok (.iload_n 0, 1) := by decide +kernel
theorem dJ6_getChars_ba4f3_23 : decode cJ6_getChars_ba4f3 23 = .ok (.bipush (-100), 2) := by decide +kernel
theorem dJ6_getChars_ba4f3_25 : decode cJ6_getChars_ba4f3 25 = .ok (.if_icmp .gt 47, 3) := by decide +kernel
theorem dJ6_getChars_ba4f3_28 : decode cJ6_getChars_ba4f3 28 = .ok (.iload_n 0, 1) := by decide +kernel
theorem dJ6_getChars_ba4f3_29 : decode cJ6_getChars_ba4f3 29 = .ok (.bipush 100, 2) := by decide +kernel
theorem dJ6_getChars_ba4f3_31 : decode cJ6_getChars_ba4f3 31 = .ok (.idiv, 1) := by decide +kernel
theorem dJ6_getChars_ba4f3_32 : decode cJ6_getChars_ba4f3 32 = .ok (.istore_n 3, 1) := by decide +kernel
theorem dJ6_getChars_ba4f3_33 : decode cJ6_getChars_ba4f3 33 = .ok (.iload_n 3, 1) := by decide +kernel
theorem dJ6_getChars_ba4f3_34 : decode cJ6_getChars_ba4f3 34 = .ok (.bipush 100, 2) := by decide +kernel
theorem dJ6_getChars_ba4f3_36 : decode cJ6_getChars_ba4f3 36 = .ok (.imul, 1) := by decide +kernel
theorem dJ6_getChars_ba4f3_37 : decode cJ6_getChars_ba4f3 37 = .ok (.iload_n 0, 1) := by decide +kernel
theorem dJ6_getChars_ba4f3_38 : decode cJ6_getChars_ba4f3 38 = .ok (.isub, 1) := by decide +kernel
theorem dJ6_getChars_ba4f3_39 : decode cJ6_getChars_ba4f3 39 = .ok (.istore 4, 2) := by decide +kernel
theorem dJ6_getChars_ba4f3_41 : decode cJ6_getChars_ba4f3 41 = .ok (.iload_n 3, 1) := by decide +kernel
theorem dJ6_getChars_ba4f3_42 : decode cJ6_getChars_ba4f3 42 = .ok (.istore_n 0, 1) := by decide +kernel
theorem dJ6_getChars_ba4f3_43 : decode cJ6_getChars_ba4f3 43 = .ok (.aload_n 2, 1) := by decide +kernel
theorem dJ6_getChars_ba4f3_44 : decode cJ6_getChars_ba4f3 44 = .ok (.iinc 5 (-1), 3) := by decide +kernel
theorem dJ6_getChars_ba4f3_47 : decode cJ6_getChars_ba4f3 47 = .ok (.iload 5, 2) := by decide +kernel
theorem dJ6_getChars_ba4f3_49 : decode cJ6_getChars_ba4f3 49 = .ok (.getstatic 83, 3) := by decide +kernel
theorem dJ6_getChars_ba4f3_52 : decode cJ6_getChars_ba4f3 52 = .ok (.iload 4, 2) := by decide +kernel
theorem dJ6_getChars_ba4f3_54 : decode cJ6_getChars_ba4f3 54 = .ok (.baload, 1) := by decide +kernel
theorem dJ6_getChars_ba4f3_55 : decode cJ6_getChars_ba4f3 55 = .ok (.bastore, 1) := by decide +kernel
theorem dJ6_getChars_ba4f3_56 : decode cJ6_getChars_ba4f3 56 = .ok (.aload_n 2, 1) := by decide +kernel
theorem dJ6_getChars_ba4f3_57 : decode cJ6_getChars_ba4f3 57 = .ok (.iinc 5 (-1), 3) := by decide +kernel
theorem dJ6_getChars_ba4f3_60 : decode cJ6_getChars_ba4f3 60 = .ok (.iload 5, 2) := by decide +kernel
theorem dJ6_getChars_ba4f3_62 : decode cJ6_getChars_ba4f3 62 = .ok (.getstatic 87, 3) := by decide +kernel
theorem dJ6_getChars_ba4f3_65 : decode cJ6_getChars_ba4f3 65 = .ok (.iload 4, 2) := by decide +kernel
theorem dJ6_getChars_ba4f3_67 : decode cJ6_getChars_ba4f3 67 = .ok (.baload, 1) := by decide +kernel
theorem dJ6_getChars_ba4f3_68 : decode cJ6_getChars_ba4f3 68 = .ok (.bastore, 1) := by decide +kernel
theorem dJ6_getChars_ba4f3_69 : decode cJ6_getChars_ba4f3 69 = .ok (.goto (-47), 3) := by decide +kernel
theorem dJ6_getChars_ba4f3_72 : decode cJ6_getChars_ba4f3 72 = .ok (.aload_n 2, 1) := by decide +kernel
theorem dJ6_getChars_ba4f3_73 : decode cJ6_getChars_ba4f3 73 = .ok (.iinc 5 (-1), 3) := by decide +kernel
theorem dJ6_getChars_ba4f3_76 : decode cJ6_getChars_ba4f3 76 = .ok (.iload 5, 2) := by decide +kernel
theorem dJ6_getChars_ba4f3_78 : decode cJ6_getChars_ba4f3 78 = .ok (.getstatic 83, 3) := by decide +kernel
theorem dJ6_getChars_ba4f3_81 : decode cJ6_getChars_ba4f3 81 = .ok (.iload_n 0, 1) := by decide +kernel
theorem dJ6_getChars_ba4f3_82 : decode cJ6_getChars_ba4f3 82 = .ok (.ineg, 1) := by decide +kernel
theorem dJ6_getChars_ba4f3_83 : decode cJ6_getChars_ba4f3 83 = .ok (.baload, 1) := by decide +kernel
theorem dJ6_getChars_ba4f3_84 : decode cJ6_getChars_ba4f3 84 = .ok (.bastore, 1) := by decide +kernel
theorem dJ6_getChars_ba4f3_85 : decode cJ6_getChars_ba4f3 85 = .ok (.iload_n 0, 1) := by decide +kernel
theorem dJ6_getChars_ba4f3_86 : decode cJ6_getChars_ba4f3 86 = .ok (.bipush (-9), 2) := by decide +kernel
theorem dJ6_getChars_ba4f3_88 : decode cJ6_getChars_ba4f3 88 = .ok (.if_icmp .ge 16, 3) := by decide +kernel
theorem dJ6_getChars_ba4f3_91 : decode cJ6_getChars_ba4f3 91 = .ok (.aload_n 2, 1) := by decide +kernel
theorem dJ6_getChars_ba4f3_92 : decode cJ6_getChars_ba4f3 92 = .ok (.iinc 5 (-1), 3) := by decide +kernel
theorem dJ6_getChars_ba4f3_95 : decode cJ6_getChars_ba4f3 95 = .ok (.iload 5, 2) := by decide +kernel
theorem dJ6_getChars_ba4f3_97 : decode cJ6_getChars_ba4f3 97 = .ok (.getstatic 87, 3) := by decide +kernel
theorem dJ6_getChars_ba4f3_100 : decode cJ6_getChars_ba4f3 100 = .ok (.iload_n 0, 1) := by decide +kernel
theorem dJ6_getChars_ba4f3_101 : decode cJ6_getChars_ba4f3 101 = .ok (.ineg, 1) := by decide +kernel
theorem dJ6_getChars_ba4f3_102 : decode cJ6_getChars_ba4f3 102 = .ok (.baload, 1) := by decide +kernel
theorem dJ6_getChars_ba4f3_103 : decode cJ6_getChars_ba4f3 103 = .ok (.bastore, 1) := by decide +kernel
theorem dJ6_getChars_ba4f3_104 : decode cJ6_getChars_ba4f3 104 = .ok (.iload 6, 2) := by decide +kernel
theorem dJ6_getChars_ba4f3_106 : decode cJ6_getChars_ba4f3 106 = .ok (.ifCond .eq 12, 3) := by decide +kernel
theorem dJ6_getChars_ba4f3_109 : decode cJ6_getChars_ba4f3 109 = .ok (.aload_n 2, 1) := by decide +kernel
theorem dJ6_getChars_ba4f3_110 : decode cJ6_getChars_ba4f3 110 = .ok (.iinc 5 (-1), 3) := by decide +kernel
theorem dJ6_getChars_ba4f3_113 : decode cJ6_getChars_ba4f3 113 = .ok (.iload 5, 2) := by decide +kernel
theorem dJ6_getChars_ba4f3_115 : decode cJ6_getChars_ba4f3 115 = .ok (.bipush 45, 2) := by decide +kernel
theorem dJ6_getChars_ba4f3_117 : decode cJ6_getChars_ba4f3 117 = .ok (.bastore, 1) := by decide +kernel
theorem dJ6_getChars_ba4f3_118 : decode cJ6_getChars_ba4f3 118 = .ok (.iload 5, 2) := by decide +kernel
theorem dJ6_getChars_ba4f3_120 : decode cJ6_getChars_ba4f3 120 = .ok (.ireturn, 1) := by decide +kernel
theorem dJ6_stringSize_0f7a4_0 : decode cJ6_stringSize_0f7a4 0 = .ok (.iconst 1, 1) := by decide +kernel
theorem dJ6_stringSize_0f7a4_1 : decode cJ6_stringSize_0f7a4 1 = .ok (.istore_n 1, 1) := by decide +kernel
theorem dJ6_stringSize_0f7a4_2 : decode cJ6_stringSize_0f7a4 2 = .ok (.iload_n 0, 1) := by decide +kernel
theorem dJ6_stringSize_0f7a4_3 : decode cJ6_stringSize_0f7a4 3 = .ok (.ifCond .lt 8, 3) := by decide +kernel
theorem dJ6_stringSize_0f7a4_6 : decode cJ6_stringSize_0f7a4 6 = .ok (.iconst 0, 1) := by decide +kernel
theorem dJ6_stringSize_0f7a4_7 : decode cJ6_stringSize_0f7a4 7 = .ok (.istore_n 1, 1) := by decide +kernel
theorem dJ6_stringSize_0f7a4_8 : decode cJ6_stringSize_0f7a4 8 = .ok (.iload_n 0, 1) := by decide +kernel
theorem dJ6_stringSize_0f7a4_9 : decode cJ6_stringSize_0f7a4 9 = .ok (.ineg, 1) := by decide +kernel
theorem dJ6_stringSize_0f7a4_10 : decode cJ6_stringSize_0f7a4 10 = .ok (.istore_n 0, 1) := by decide +kernel
theorem dJ6_stringSize_0f7a4_11 : decode cJ6_stringSize_0f7a4 11 = .ok (.bipush (-10), 2) := by decide +kernel
theorem dJ6_stringSize_0f7a4_13 : decode cJ6_stringSize_0f7a4 13 = .ok (.istore_n 2, 1) := by decide +kernel
theorem dJ6_stringSize_0f7a4_14 : decode cJ6_stringSize_0f7a4 14 = .ok (.iconst 1, 1) := by decide +kernel
theorem dJ6_stringSize_0f7a4_15 : decode cJ6_stringSize_0f7a4 15 = .ok (.istore_n 3, 1) := by decide +kernel
theorem dJ6_stringSize_0f7a4_16 : decode cJ6_stringSize_0f7a4 16 = .ok (.iload_n 3, 1) := by decide +kernel
theorem dJ6_stringSize_0f7a4_17 : decode cJ6_stringSize_0f7a4 17 = .ok (.bipush 10, 2) := by decide +kernel
theorem dJ6_stringSize_0f7a4_19 : decode cJ6_stringSize_0f7a4 19 = .ok (.if_icmp .ge 23, 3) := by decide +kernel
theorem dJ6_stringSize_0f7a4_22 : decode cJ6_stringSize_0f7a4 22 = .ok (.iload_n 0, 1) := by decide +kernel
theorem dJ6_stringSize_0f7a4_23 : decode cJ6_stringSize_0f7a4 23 = .ok (.iload_n 2, 1) := by decide +kernel
theorem dJ6_stringSize_0f7a4_24 : decode cJ6_stringSize_0f7a4 24 = .ok (.if_icmp .le 7, 3) := by decide +kernel
theorem dJ6_stringSize_0f7a4_27 : decode cJ6_stringSize_0f7a4 27 = .ok (.iload_n 3, 1) := by decide +kernel
theorem dJ6_stringSize_0f7a4_28 : decode cJ6_stringSize_0f7a4 28 = .ok (.iload_n 1, 1) := by decide +kernel
theorem dJ6_stringSize_0f7a4_29 : decode cJ6_stringSize_0f7a4 29 = .ok (.iadd, 1) := by decide +kernel
theorem dJ6_stringSize_0f7a4_30 : decode cJ6_stringSize_0f7a4 30 = .ok (.ireturn, 1) := by decide +kernel
theorem dJ6_stringSize_0f7a4_31 : decode cJ6_stringSize_0f7a4 31 = .ok (.bipush 10, 2) := by decide +kernel
theorem dJ6_stringSize_0f7a4_33 : decode cJ6_stringSize_0f7a4 33 = .ok (.iload_n 2, 1) := by decide +kernel
theorem dJ6_stringSize_0f7a4_34 : decode cJ6_stringSize_0f7a4 34 = .ok (.imul, 1) := by decide +kernel
theorem dJ6_stringSize_0f7a4_35 : decode cJ6_stringSize_0f7a4 35 = .ok (.istore_n 2, 1) := by decide +kernel
theorem dJ6_stringSize_0f7a4_36 : decode cJ6_stringSize_0f7a4 36 = .ok (.iinc 3 1, 3) := by decide +kernel
theorem dJ6_stringSize_0f7a4_39 : decode cJ6_stringSize_0f7a4 39 = .ok (.goto (-23), 3) := by decide +kernel
theorem dJ6_stringSize_0f7a4_42 : decode cJ6_stringSize_0f7a4 42 = .ok (.bipush 10, 2) := by decide +kernel
theorem dJ6_stringSize_0f7a4_44 : decode cJ6_stringSize_0f7a4 44 = .ok (.iload_n 1, 1) := by decide +kernel
theorem dJ6_stringSize_0f7a4_45 : decode cJ6_stringSize_0f7a4 45 = .ok (.iadd, 1) := by decide +kernel
theorem dJ6_stringSize_0f7a4_46 : decode cJ6_stringSize_0f7a4 46 = .ok (.ireturn, 1) := by decide +kernel
theorem dJ6_bitCount_0f7a4_0 : decode cJ6_bitCount_0f7a4 0 = .ok (.iload_n 0, 1) := by decide +kernel
theorem dJ6_bitCount_0f7a4_1 : decode cJ6_bitCount_0f7a4 1 = .ok (.iload_n 0, 1) := by decide +kernel
theorem dJ6_bitCount_0f7a4_2 : decode cJ6_bitCount_0f7a4 2 = .ok (.iconst 1, 1) := by decide +kernel
theorem dJ6_bitCount_0f7a4_3 : decode cJ6_bitCount_0f7a4 3 = .ok (.iushr, 1) := by decide +kernel
theorem dJ6_bitCount_0f7a4_4 : decode cJ6_bitCount_0f7a4 4 = .ok (.ldc_w 265, 3) := by decide +kernel
theorem dJ6_bitCount_0f7a4_7 : decode cJ6_bitCount_0f7a4 7 = .ok (.iand, 1) := by decide +kernel
theorem dJ6_bitCount_0f7a4_8 : decode cJ6_bitCount_0f7a4 8 = .ok (.isub, 1) := by decide +kernel
theorem dJ6_bitCount_0f7a4_9 : decode cJ6_bitCount_0f7a4 9 = .ok (.istore_n 0, 1) := by decide +kernel
theorem dJ6_bitCount_0f7a4_10 : decode cJ6_bitCount_0f7a4 10 = .ok (.iload_n 0, 1) := by decide +kernel
theorem dJ6_bitCount_0f7a4_11 : decode cJ6_bitCount_0f7a4 11 = .ok (.ldc_w 266, 3) := by decide +kernel
theorem dJ6_bitCount_0f7a4_14 : decode cJ6_bitCount_0f7a4 14 = .ok (.iand, 1) := by decide +kernel
theorem dJ6_bitCount_0f7a4_15 : decode cJ6_bitCount_0f7a4 15 = .ok (.iload_n 0, 1) := by decide +kernel
theorem dJ6_bitCount_0f7a4_16 : decode cJ6_bitCount_0f7a4 16 = .ok (.iconst 2, 1) := by decide +kernel
theorem dJ6_bitCount_0f7a4_17 : decode cJ6_bitCount_0f7a4 17 = .ok (.iushr, 1) := by decide +kernel
theorem dJ6_bitCount_0f7a4_18 : decode cJ6_bitCount_0f7a4 18 = .ok (.ldc_w 266, 3) := by decide +kernel
theorem dJ6_bitCount_0f7a4_21 : decode cJ6_bitCount_0f7a4 21 = .ok (.iand, 1) := by decide +kernel
theorem dJ6_bitCount_0f7a4_22 : decode cJ6_bitCount_0f7a4 22 = .ok (.iadd, 1) := by decide +kernel
theorem dJ6_bitCount_0f7a4_23 : decode cJ6_bitCount_0f7a4 23 = .ok (.istore_n 0, 1) := by decide +kernel
theorem dJ6_bitCount_0f7a4_24 : decode cJ6_bitCount_0f7a4 24 = .ok (.iload_n 0, 1) := by decide +kernel
theorem dJ6_bitCount_0f7a4_25 : decode cJ6_bitCount_0f7a4 25 = .ok (.iload_n 0, 1) := by decide +kernel
theorem dJ6_bitCount_0f7a4_26 : decode cJ6_bitCount_0f7a4 26 = .ok (.iconst 4, 1) := by decide +kernel
theorem dJ6_bitCount_0f7a4_27 : decode cJ6_bitCount_0f7a4 27 = .ok (.iushr, 1) := by decide +kernel
theorem dJ6_bitCount_0f7a4_28 : decode cJ6_bitCount_0f7a4 28 = .ok (.iadd, 1) := by decide +kernel
theorem dJ6_bitCount_0f7a4_29 : decode cJ6_bitCount_0f7a4 29 = .ok (.ldc_w 267, 3) := by decide +kernel
theorem dJ6_bitCount_0f7a4_32 : decode cJ6_bitCount_0f7a4 32 = .ok (.iand, 1) := by decide +kernel
theorem dJ6_bitCount_0f7a4_33 : decode cJ6_bitCount_0f7a4 33 = .ok (.istore_n 0, 1) := by decide +kernel
theorem dJ6_bitCount_0f7a4_34 : decode cJ6_bitCount_0f7a4 34 = .ok (.iload_n 0, 1) := by decide +kernel
theorem dJ6_bitCount_0f7a4_35 : decode cJ6_bitCount_0f7a4 35 = .ok (.iload_n 0, 1) := by decide +kernel
theorem dJ6_bitCount_0f7a4_36 : decode cJ6_bitCount_0f7a4 36 = .ok (.bipush 8, 2) := by decide +kernel
theorem dJ6_bitCount_0f7a4_38 : decode cJ6_bitCount_0f7a4 38 = .ok (.iushr, 1) := by decide +kernel
theorem dJ6_bitCount_0f7a4_39 : decode cJ6_bitCount_0f7a4 39 = .ok (.iadd, 1) := by decide +kernel
theorem dJ6_bitCount_0f7a4_40 : decode cJ6_bitCount_0f7a4 40 = .ok (.istore_n 0, 1) := by decide +kernel
theorem dJ6_bitCount_0f7a4_41 : decode cJ6_bitCount_0f7a4 41 = .ok (.iload_n 0, 1) := by decide +kernel
theorem dJ6_bitCount_0f7a4_42 : decode cJ6_bitCount_0f7a4 42 = .ok (.iload_n 0, 1) := by decide +kernel
theorem dJ6_bitCount_0f7a4_43 : decode cJ6_bitCount_0f7a4 43 = .ok (.bipush 16, 2) := by decide +kernel
theorem dJ6_bitCount_0f7a4_45 : decode cJ6_bitCount_0f7a4 45 = .ok (.iushr, 1) := by decide +kernel
theorem dJ6_bitCount_0f7a4_46 : decode cJ6_bitCount_0f7a4 46 = .ok (.iadd, 1) := by decide +kernel
theorem dJ6_bitCount_0f7a4_47 : decode cJ6_bitCount_0f7a4 47 = .ok (.istore_n 0, 1) := by decide +kernel
theorem dJ6_bitCount_0f7a4_48 : decode cJ6_bitCount_0f7a4 48 = .ok (.iload_n 0, 1) := by decide +kernel
theorem dJ6_bitCount_0f7a4_49 : decode cJ6_bitCount_0f7a4 49 = .ok (.bipush 63, 2) := by decide +kernel
theorem dJ6_bitCount_0f7a4_51 : decode cJ6_bitCount_0f7a4 51 = .ok (.iand, 1) := by decide +kernel
theorem dJ6_bitCount_0f7a4_52 : decode cJ6_bitCount_0f7a4 52 = .ok (.ireturn, 1) := by decide +kernel
theorem dJ9_max_7cf53_0 : decode cJ9_max_7cf53 0 = .ok (.iload_n 0, 1) := by decide +kernel
theorem dJ9_max_7cf53_1 : decode cJ9_max_7cf53 1 = .ok (.iload_n 1, 1) := by decide +kernel
theorem dJ9_max_7cf53_2 : decode cJ9_max_7cf53 2 = .ok (.if_icmp .lt 7, 3) := by decide +kernel
theorem dJ9_max_7cf53_5 : decode cJ9_max_7cf53 5 = .ok (.iload_n 0, 1) := by decide +kernel
theorem dJ9_max_7cf53_6 : decode cJ9_max_7cf53 6 = .ok (.goto 4, 3) := by decide +kernel
theorem dJ9_max_7cf53_9 : decode cJ9_max_7cf53 9 = .ok (.iload_n 1, 1) := by decide +kernel
theorem dJ9_max_7cf53_10 : decode cJ9_max_7cf53 10 = .ok (.ireturn, 1) := by decide +kernel
theorem dJ9_min_7cf53_0 : decode cJ9_min_7cf53 0 = .ok (.iload_n 0, 1) := by decide +kernel
theorem dJ9_min_7cf53_1 : decode cJ9_min_7cf53 1 = .ok (.iload_n 1, 1) := by decide +kernel
theorem dJ9_min_7cf53_2 : decode cJ9_min_7cf53 2 = .ok (.if_icmp .gt 7, 3) := by decide +kernel
theorem dJ9_min_7cf53_5 : decode cJ9_min_7cf53 5 = .ok (.iload_n 0, 1) := by decide +kernel
theorem dJ9_min_7cf53_6 : decode cJ9_min_7cf53 6 = .ok (.goto 4, 3) := by decide +kernel
theorem dJ9_min_7cf53_9 : decode cJ9_min_7cf53 9 = .ok (.iload_n 1, 1) := by decide +kernel
theorem dJ9_min_7cf53_10 : decode cJ9_min_7cf53 10 = .ok (.ireturn, 1) := by decide +kernel
theorem dJ0_init_81219_0 : decode cJ0_init_81219 0 = .ok (.aload_n 0, 1) := by decide +kernel
theorem dJ0_init_81219_1 : decode cJ0_init_81219 1 = .ok (.aload_n 1, 1) := by decide +kernel
theorem dJ0_init_81219_2 : decode cJ0_init_81219 2 = .ok (.aconst_null, 1) := by decide +kernel
theorem dJ0_init_81219_3 : decode cJ0_init_81219 3 = .ok (.invokespecial 489, 3) := by decide +kernel
theorem dJ0_init_81219_6 : decode cJ0_init_81219 6 = .ok (.return_, 1) := by decide +kernel
theorem dJ0_isEmpty_aae02_0 : decode cJ0_isEmpty_aae02 0 = .ok (.aload_n 0, 1) := by decide +kernel
theorem dJ0_isEmpty_aae02_1 : decode cJ0_isEmpty_aae02 1 = .ok (.getfield 9, 3) := by decide +kernel
theorem dJ0_isEmpty_aae02_4 : decode cJ0_isEmpty_aae02 4 = .ok (.arraylength, 1) := by decide +kernel
theorem dJ0_isEmpty_aae02_5 : decode cJ0_isEmpty_aae02 5 = .ok (.ifCond .ne 7, 3) := by decide +kernel
theorem dJ0_isEmpty_aae02_8 : decode cJ0_isEmpty_aae02 8 = .ok (.iconst 1, 1) := by decide +kernel
theorem dJ0_isEmpty_aae02_9 : decode cJ0_isEmpty_aae02 9 = .ok (.goto 4, 3) := by decide +kernel
theorem dJ0_isEmpty_aae02_12 : decode cJ0_isEmpty_aae02 12 = .ok (.iconst 0, 1) := by decide +kernel
theorem dJ0_isEmpty_aae02_13 : decode cJ0_isEmpty_aae02 13 = .ok (.ireturn, 1) := by decide +kernel
theorem dJ0_init_db425_0 : decode cJ0_init_db425 0 = .ok (.aload_n 0, 1) := by decide +kernel
theorem dJ0_init_db425_1 : decode cJ0_init_db425 1 = .ok (.invokespecial 1, 3) := by decide +kernel
theorem dJ0_init_db425_4 : decode cJ0_init_db425 4 = .ok (.aload_n 1, 1) := by decide +kernel
theorem dJ0_init_db425_5 : decode cJ0_init_db425 5 = .ok (.invokevirtual 552, 3) := by decide +kernel
theorem dJ0_init_db425_8 : decode cJ0_init_db425 8 = .ok (.astore_n 3, 1) := by decide +kernel
theorem dJ0_init_db425_9 : decode cJ0_init_db425 9 = .ok (.aload_n 1, 1) := by decide +kernel
theorem dJ0_init_db425_10 : decode cJ0_init_db425 10 = .ok (.invokevirtual 549, 3) := by decide +kernel
theorem dJ0_init_db425_13 : decode cJ0_init_db425 13 = .ok (.istore 4, 2) := by decide +kernel
theorem dJ0_init_db425_15 : decode cJ0_init_db425 15 = .ok (.aload_n 1, 1) := by decide +kernel
theorem dJ0_init_db425_16 : decode cJ0_init_db425 16 = .ok (.invokevirtual 1047, 3) := by decide +kernel
theorem dJ0_init_db425_19 : decode cJ0_init_db425 19 = .ok (.ifCond .eq 22, 3) := by decide +kernel
theorem dJ0_init_db425_22 : decode cJ0_init_db425 22 = .ok (.aload_n 0, 1) := by decide +kernel
theorem dJ0_init_db425_23 : decode cJ0_init_db425 23 = .ok (.iconst 0, 1) := by decide +kernel
theorem dJ0_init_db425_24 : decode cJ0_init_db425 24 = .ok (.putfield 15, 3) := by decide +kernel
theorem dJ0_init_db425_27 : decode cJ0_init_db425 27 = .ok (.aload_n 0, 1) := by decide +kernel
theorem dJ0_init_db425_28 : decode cJ0_init_db425 28 = .ok (.aload_n 3, 1) := by decide +kernel
theorem dJ0_init_db425_29 : decode cJ0_init_db425 29 = .ok (.iconst 0, 1) := by decide +kernel
theorem dJ0_init_db425_30 : decode cJ0_init_db425 30 = .ok (.iload 4, 2) := by decide +kernel
theorem dJ0_init_db425_32 : decode cJ0_init_db425 32 = .ok (.invokestatic 54, 3) := by decide +kernel
theorem dJ0_init_db425_35 : decode cJ0_init_db425 35 = .ok (.putfield 9, 3) := by decide +kernel
theorem dJ0_init_db425_38 : decode cJ0_init_db425 38 = .ok (.goto 59, 3) := by decide +kernel
theorem dJ0_init_db425_41 : decode cJ0_init_db425 41 = .ok (.getstatic 38, 3) := by decide +kernel
theorem dJ0_init_db425_44 : decode cJ0_init_db425 44 = .ok (.ifCond .eq 35, 3) := by decide +kernel
theorem dJ0_init_db425_47 : decode cJ0_init_db425 47 = .ok (.aload_n 1, 1) := by decide +kernel
theorem dJ0_init_db425_48 : decode cJ0_init_db425 48 = .ok (.getfield 1048, 3) := by decide +kernel
theorem dJ0_init_db425_51 : decode cJ0_init_db425 51 = .ok (.ifCond .eq 28, 3) := by decide +kernel
theorem dJ0_init_db425_54 : decode cJ0_init_db425 54 = .ok (.aload_n 0, 1) := by decide +kernel
theorem dJ0_init_db425_55 : decode cJ0_init_db425 55 = .ok (.aload_n 3, 1) := by decide +kernel
theorem dJ0_init_db425_56 : decode cJ0_init_db425 56 = .ok (.iconst 0, 1) := by decide +kernel
theorem dJ0_init_db425_57 : decode cJ0_init_db425 57 = .ok (.iload 4, 2) := by decide +kernel
theorem dJ0_init_db425_59 : decode cJ0_init_db425 59 = .ok (.invokestatic 1051, 3) := by decide +kernel
theorem dJ0_init_db425_62 : decode cJ0_init_db425 62 = .ok (.putfield 9, 3) := by decide +kernel
theorem dJ0_init_db425_65 : decode cJ0_init_db425 65 = .ok (.aload_n 0, 1) := by decide +kernel
theorem dJ0_init_db425_66 : decode cJ0_init_db425 66 = .ok (.aload_n 0, 1) := by decide +kernel
theorem dJ0_init_db425_67 : decode cJ0_init_db425 67 = .ok (.getfield 9, 3) := by decide +kernel
theorem dJ0_init_db425_70 : decode cJ0_init_db425 70 = .ok (.iload 4, 2) := by decide +kernel
theorem dJ0_init_db425_72 : decode cJ0_init_db425 72 = .ok (.invokestatic 47, 3) := by decide +kernel
theorem dJ0_init_db425_75 : decode cJ0_init_db425 75 = .ok (.putfield 15, 3) := by decide +kernel
theorem dJ0_init_db425_78 : decode cJ0_init_db425 78 = .ok (.return_, 1) := by decide +kernel
theorem dJ0_init_db425_79 : decode cJ0_init_db425 79 = .ok (.aload_n 0, 1) := by decide +kernel
theorem dJ0_init_db425_80 : decode cJ0_init_db425 80 = .ok (.iconst 1, 1) := by decide +kernel
theorem dJ0_init_db425_81 : decode cJ0_init_db425 81 = .ok (.putfield 15, 3) := by decide +kernel
theorem dJ0_init_db425_84 : decode cJ0_init_db425 84 = .ok (.aload_n 0, 1) := by decide +kernel
theorem dJ0_init_db425_85 : decode cJ0_init_db425 85 = .ok (.aload_n 3, 1) := by decide +kernel
theorem dJ0_init_db425_86 : decode cJ0_init_db425 86 = .ok (.iconst 0, 1) := by decide +kernel
theorem dJ0_init_db425_87 : decode cJ0_init_db425 87 = .ok (.iload 4, 2) := by decide +kernel
theorem dJ0_init_db425_89 : decode cJ0_init_db425 89 = .ok (.iconst 1, 1) := by decide +kernel
theorem dJ0_init_db425_90 : decode cJ0_init_db425 90 = .ok (.ishl, 1) := by decide +kernel
theorem dJ0_init_db425_91 : decode cJ0_init_db425 91 = .ok (.invokestatic 54, 3) := by decide +kernel
theorem dJ0_init_db425_94 : decode cJ0_init_db425 94 = .ok (.putfield 9, 3) := by decide +kernel
theorem dJ0_init_db425_97 : decode cJ0_init_db425 97 = .ok (.return_, 1) := by decide +kernel
theorem dJ4_init_da8c8_0 : decode cJ4_init_da8c8 0 = .ok (.aload_n 0, 1) := by decide +kernel
theorem dJ4_init_da8c8_1 : decode cJ4_init_da8c8 1 = .ok (.bipush 16, 2) := by decide +kernel
theorem dJ4_init_da8c8_3 : decode cJ4_init_da8c8 3 = .ok (.invokespecial 1, 3) := by decide +kernel
theorem dJ4_init_da8c8_6 : decode cJ4_init_da8c8 6 = .ok (.return_, 1) := by decide +kernel
theorem dJ4_append_cf468_0 : decode cJ4_append_cf468 0 = .ok (.aload_n 0, 1) := by decide +kernel
theorem dJ4_append_cf468_1 : decode cJ4_append_cf468 1 = .ok (.iload_n 1, 1) := by decide +kernel
theorem dJ4_append_cf468_2 : decode cJ4_append_cf468 2 = .ok (.invokespecial 50, 3) := by decide +kernel
theorem dJ4_append_cf468_5 : decode cJ4_append_cf468 5 = .ok (.pop, 1) := by decide +kernel
theorem dJ4_append_cf468_6 : decode cJ4_append_cf468 6 = .ok (.aload_n 0, 1) := by decide +kernel
theorem dJ4_append_cf468_7 : decode cJ4_append_cf468 7 = .ok (.areturn, 1) := by decide +kernel
theorem dJ4_append_bf812_0 : decode cJ4_append_bf812 0 = .ok (.aload_n 0, 1) := by decide +kernel
theorem dJ4_append_bf812_1 : decode cJ4_append_bf812 1 = .ok (.iload_n 1, 1) := by decide +kernel
theorem dJ4_append_bf812_2 : decode cJ4_append_bf812 2 = .ok (.invokespecial 53, 3) := by decide +kernel
theorem dJ4_append_bf812_5 : decode cJ4_append_bf812 5 = .ok (.pop, 1) := by decide +kernel
theorem dJ4_append_bf812_6 : decode cJ4_append_bf812 6 = .ok (.aload_n 0, 1) := by decide +kernel
theorem dJ4_append_bf812_7 : decode cJ4_append_bf812 7 = .ok (.areturn, 1) := by decide +kernel
theorem dJ4_toString_0e30d_0 : decode cJ4_toString_0e30d 0 = .ok (.new 18, 3) := by decide +kernel
theorem dJ4_toString_0e30d_3 : decode cJ4_toString_0e30d 3 = .ok (.dup, 1) := by decide +kernel
theorem dJ4_toString_0e30d_4 : decode cJ4_toString_0e30d 4 = .ok (.aload_n 0, 1) := by decide +kernel
theorem dJ4_toString_0e30d_5 : decode cJ4_toString_0e30d 5 = .ok (.invokespecial 137, 3) := by decide +kernel
theorem dJ4_toString_0e30d_8 : decode cJ4_toString_0e30d 8 = .ok (.areturn, 1) := by decide +kernel
theorem dJ4_length_8abf5_0 : decode cJ4_length_8abf5 0 = .ok (.aload_n 0, 1) := by decide +kernel
theorem dJ4_length_8abf5_1 : decode cJ4_length_8abf5 1 = .ok (.invokespecial 343, 3) := by decide +kernel
theorem dJ4_length_8abf5_4 : decode cJ4_length_8abf5 4 = .ok (.ireturn, 1) := by decide +kernel
theorem dJ1_canEncode_fc78d_0 : decode cJ1_canEncode_fc78d 0 = .ok (.iload_n 0, 1) := by decide +kernel
theorem dJ1_canEncode_fc78d_1 : decode cJ1_canEncode_fc78d 1 = .ok (.sipush 255, 3) := by decide +kernel
theorem dJ1_canEncode_fc78d_4 : decode cJ1_canEncode_fc78d 4 = .ok (.if_icmp .gt 7, 3) := by decide +kernel
theorem dJ1_canEncode_fc78d_7 : decode cJ1_canEncode_fc78d 7 = .ok (.iconst 1, 1) := by decide +kernel
theorem dJ1_canEncode_fc78d_8 : decode cJ1_canEncode_fc78d 8 = .ok (.goto 4, 3) := by decide +kernel
theorem dJ1_canEncode_fc78d_11 : decode cJ1_canEncode_fc78d 11 = .ok (.iconst 0, 1) := by decide +kernel
theorem dJ1_canEncode_fc78d_12 : decode cJ1_canEncode_fc78d 12 = .ok (.ireturn, 1) := by decide +kernel
theorem dJ7_copyOf_9075b_0 : decode cJ7_copyOf_9075b 0 = .ok (.iload_n 1, 1) := by decide +kernel
theorem dJ7_copyOf_9075b_1 : decode cJ7_copyOf_9075b 1 = .ok (.aload_n 0, 1) := by decide +kernel
theorem dJ7_copyOf_9075b_2 : decode cJ7_copyOf_9075b 2 = .ok (.arraylength, 1) := by decide +kernel
theorem dJ7_copyOf_9075b_3 : decode cJ7_copyOf_9075b 3 = .ok (.if_icmp .ne 11, 3) := by decide +kernel
theorem dJ7_copyOf_9075b_6 : decode cJ7_copyOf_9075b 6 = .ok (.aload_n 0, 1) := by decide +kernel
theorem dJ7_copyOf_9075b_7 : decode cJ7_copyOf_9075b 7 = .ok (.invokevirtual 310, 3) := by decide +kernel
theorem dJ7_copyOf_9075b_10 : decode cJ7_copyOf_9075b 10 = .ok (.checkcast 311, 3) := by decide +kernel
theorem dJ7_copyOf_9075b_13 : decode cJ7_copyOf_9075b 13 = .ok (.areturn, 1) := by decide +kernel
theorem dJ7_copyOf_9075b_14 : decode cJ7_copyOf_9075b 14 = .ok (.iload_n 1, 1) := by decide +kernel
theorem dJ7_copyOf_9075b_15 : decode cJ7_copyOf_9075b 15 = .ok (.newarray .byte, 2) := by decide +kernel
theorem dJ7_copyOf_9075b_17 : decode cJ7_copyOf_9075b 17 = .ok (.astore_n 2, 1) := by decide +kernel
theorem dJ7_copyOf_9075b_18 : decode cJ7_copyOf_9075b 18 = .ok (.aload_n 0, 1) := by decide +kernel
theorem dJ7_copyOf_9075b_19 : decode cJ7_copyOf_9075b 19 = .ok (.iconst 0, 1) := by decide +kernel
theorem dJ7_copyOf_9075b_20 : decode cJ7_copyOf_9075b 20 = .ok (.aload_n 2, 1) := by decide +kernel
theorem dJ7_copyOf_9075b_21 : decode cJ7_copyOf_9075b 21 = .ok (.iconst 0, 1) := by decide +kernel
theorem dJ7_copyOf_9075b_22 : decode cJ7_copyOf_9075b 22 = .ok (.aload_n 0, 1) := by decide +kernel
theorem dJ7_copyOf_9075b_23 : decode cJ7_copyOf_9075b 23 = .ok (.arraylength, 1) := by decide +kernel
theorem dJ7_copyOf_9075b_24 : decode cJ7_copyOf_9075b 24 = .ok (.iload_n 1, 1) := by decide +kernel
theorem dJ7_copyOf_9075b_25 : decode cJ7_copyOf_9075b 25 = .ok (.invokestatic 304, 3) := by decide +kernel
theorem dJ7_copyOf_9075b_28 : decode cJ7_copyOf_9075b 28 = .ok (.invokestatic 150, 3) := by decide +kernel
theorem dJ7_copyOf_9075b_31 : decode cJ7_copyOf_9075b 31 = .ok (.aload_n 2, 1) := by decide +kernel
theorem dJ7_copyOf_9075b_32 : decode cJ7_copyOf_9075b 32 = .ok (.areturn, 1) := by decide +kernel
theorem dJ7_checkLength_df160_0 : decode cJ7_checkLength_df160 0 = .ok (.iload_n 1, 1) := by decide +kernel
theorem dJ7_checkLength_df160_1 : decode cJ7_checkLength_df160 1 = .ok (.iload_n 0, 1) := by decide +kernel
theorem dJ7_checkLength_df160_2 : decode cJ7_checkLength_df160 2 = .ok (.if_icmp .ge 35, 3) := by decide +kernel
theorem dJ7_checkLength_df160_5 : decode cJ7_checkLength_df160 5 = .ok (.new 43, 3) := by decide +kernel
theorem dJ7_checkLength_df160_8 : decode cJ7_checkLength_df160 8 = .ok (.dup, 1) := by decide +kernel
theorem dJ7_checkLength_df160_9 : decode cJ7_checkLength_df160 9 = .ok (.new 45, 3) := by decide +kernel
theorem dJ7_checkLength_df160_12 : decode cJ7_checkLength_df160 12 = .ok (.dup, 1) := by decide +kernel
theorem dJ7_checkLength_df160_13 : decode cJ7_checkLength_df160 13 = .ok (.invokespecial 47, 3) := by decide +kernel
theorem dJ7_checkLength_df160_16 : decode cJ7_checkLength_df160 16 = .ok (.iload_n 0, 1) := by decide +kernel
theorem dJ7_checkLength_df160_17 : decode cJ7_checkLength_df160 17 = .ok (.invokevirtual 54, 3) := by decide +kernel
theorem dJ7_checkLength_df160_20 : decode cJ7_checkLength_df160 20 = .ok (.ldc_w 337, 3) := by decide +kernel
theorem dJ7_checkLength_df160_23 : decode cJ7_checkLength_df160 23 = .ok (.invokevirtual 50, 3) := by decide +kernel
theorem dJ7_checkLength_df160_26 : decode cJ7_checkLength_df160 26 = .ok (.iload_n 1, 1) := by decide +kernel
theorem dJ7_checkLength_df160_27 : decode cJ7_checkLength_df160 27 = .ok (.invokevirtual 54, 3) := by decide +kernel
theorem dJ7_checkLength_df160_30 : decode cJ7_checkLength_df160 30 = .ok (.invokevirtual 61, 3) := by decide +kernel
theorem dJ7_checkLength_df160_33 : decode cJ7_checkLength_df160 33 = .ok (.invokespecial 65, 3) := by decide +kernel
theorem dJ7_checkLength_df160_36 : decode cJ7_checkLength_df160 36 = .ok (.athrow, 1) := by decide +kernel
theorem dJ7_checkLength_df160_37 : decode cJ7_checkLength_df160 37 = .ok (.return_, 1) := by decide +kernel
theorem dJ7_copyOfRange_39247_0 : decode cJ7_copyOfRange_39247 0 = .ok (.iload_n 1, 1) := by decide +kernel
theorem dJ7_copyOfRange_39247_1 : decode cJ7_copyOfRange_39247 1 = .ok (.ifCond .ne 9, 3) := by decide +kernel
theorem dJ7_copyOfRange_39247_4 : decode cJ7_copyOfRange_39247 4 = .ok (.iload_n 2, 1) := by decide +kernel
theorem dJ7_copyOfRange_39247_5 : decode cJ7_copyOfRange_39247 5 = .ok (.aload_n 0, 1) := by decide +kernel
theorem dJ7_copyOfRange_39247_6 : decode cJ7_copyOfRange_39247 6 = .ok (.arraylength, 1) := by decide +kernel
theorem dJ7_copyOfRange_39247_7 : decode cJ7_copyOfRange_39247 7 = .ok (.if_icmp .eq 10, 3) := by decide +kernel
theorem dJ7_copyOfRange_39247_10 : decode cJ7_copyOfRange_39247 10 = .ok (.aload_n 0, 1) := by decide +kernel
theorem dJ7_copyOfRange_39247_11 : decode cJ7_copyOfRange_39247 11 = .ok (.iload_n 1, 1) := by decide +kernel
theorem dJ7_copyOfRange_39247_12 : decode cJ7_copyOfRange_39247 12 = .ok (.iload_n 2, 1) := by decide +kernel
theorem dJ7_copyOfRange_39247_13 : decode cJ7_copyOfRange_39247 13 = .ok (.invokestatic 339, 3) := by decide +kernel
theorem dJ7_copyOfRange_39247_16 : decode cJ7_copyOfRange_39247 16 = .ok (.areturn, 1) := by decide +kernel
theorem dJ7_copyOfRange_39247_17 : decode cJ7_copyOfRange_39247 17 = .ok (.aload_n 0, 1) := by decide +kernel
theorem dJ7_copyOfRange_39247_18 : decode cJ7_copyOfRange_39247 18 = .ok (.invokevirtual 310, 3) := by decide +kernel
theorem dJ7_copyOfRange_39247_21 : decode cJ7_copyOfRange_39247 21 = .ok (.checkcast 311, 3) := by decide +kernel
theorem dJ7_copyOfRange_39247_24 : decode cJ7_copyOfRange_39247 24 = .ok (.areturn, 1) := by decide +kernel
theorem dJ7_copyOfRangeByte_39247_0 : decode cJ7_copyOfRangeByte_39247 0 = .ok (.iload_n 1, 1) := by decide +kernel
theorem dJ7_copyOfRangeByte_39247_1 : decode cJ7_copyOfRangeByte_39247 1 = .ok (.iload_n 2, 1) := by decide +kernel
theorem dJ7_copyOfRangeByte_39247_2 : decode cJ7_copyOfRangeByte_39247 2 = .ok (.invokestatic 343, 3) := by decide +kernel
theorem dJ7_copyOfRangeByte_39247_5 : decode cJ7_copyOfRangeByte_39247 5 = .ok (.iload_n 2, 1) := by decide +kernel
theorem dJ7_copyOfRangeByte_39247_6 : decode cJ7_copyOfRangeByte_39247 6 = .ok (.iload_n 1, 1) := by decide +kernel
theorem dJ7_copyOfRangeByte_39247_7 : decode cJ7_copyOfRangeByte_39247 7 = .ok (.isub, 1) := by decide +kernel
theorem dJ7_copyOfRangeByte_39247_8 : decode cJ7_copyOfRangeByte_39247 8 = .ok (.istore_n 3, 1) := by decide +kernel
theorem dJ7_copyOfRangeByte_39247_9 : decode cJ7_copyOfRangeByte_39247 9 = .ok (.iload_n 3, 1) := by decide +kernel
theorem dJ7_copyOfRangeByte_39247_10 : decode cJ7_copyOfRangeByte_39247 10 = .ok (.newarray .byte, 2) := by decide +kernel
theorem dJ7_copyOfRangeByte_39247_12 : decode cJ7_copyOfRangeByte_39247 12 = .ok (.astore 4, 2) := by decide +kernel
theorem dJ7_copyOfRangeByte_39247_14 : decode cJ7_copyOfRangeByte_39247 14 = .ok (.aload_n 0, 1) := by decide +kernel
theorem dJ7_copyOfRangeByte_39247_15 : decode cJ7_copyOfRangeByte_39247 15 = .ok (.iload_n 1, 1) := by decide +kernel
theorem dJ7_copyOfRangeByte_39247_16 : decode cJ7_copyOfRangeByte_39247 16 = .ok (.aload 4, 2) := by decide +kernel
theorem dJ7_copyOfRangeByte_39247_18 : decode cJ7_copyOfRangeByte_39247 18 = .ok (.iconst 0, 1) := by decide +kernel
theorem dJ7_copyOfRangeByte_39247_19 : decode cJ7_copyOfRangeByte_39247 19 = .ok (.aload_n 0, 1) := by decide +kernel
theorem dJ7_copyOfRangeByte_39247_20 : decode cJ7_copyOfRangeByte_39247 20 = .ok (.arraylength, 1) := by decide +kernel
theorem dJ7_copyOfRangeByte_39247_21 : decode cJ7_copyOfRangeByte_39247 21 = .ok (.iload_n 1, 1) := by decide +kernel
theorem dJ7_copyOfRangeByte_39247_22 : decode cJ7_copyOfRangeByte_39247 22 = .ok (.isub, 1) := by decide +kernel
theorem dJ7_copyOfRangeByte_39247_23 : decode cJ7_copyOfRangeByte_39247 23 = .ok (.iload_n 3, 1) := by decide +kernel
theorem dJ7_copyOfRangeByte_39247_24 : decode cJ7_copyOfRangeByte_39247 24 = .ok (.invokestatic 304, 3) := by decide +kernel
theorem dJ7_copyOfRangeByte_39247_27 : decode cJ7_copyOfRangeByte_39247 27 = .ok (.invokestatic 150, 3) := by decide +kernel
theorem dJ7_copyOfRangeByte_39247_30 : decode cJ7_copyOfRangeByte_39247 30 = .ok (.aload 4, 2) := by decide +kernel
theorem dJ7_copyOfRangeByte_39247_32 : decode cJ7_copyOfRangeByte_39247 32 = .ok (.areturn, 1) := by decide +kernel
theorem dJ8_newLength_cabcc_0 : decode cJ8_newLength_cabcc 0 = .ok (.iload_n 0, 1) := by decide +kernel
theorem dJ8_newLength_cabcc_1 : decode cJ8_newLength_cabcc 1 = .ok (.iload_n 1, 1) := by decide +kernel
theorem dJ8_newLength_cabcc_2 : decode cJ8_newLength_cabcc 2 = .ok (.iload_n 2, 1) := by decide +kernel
theorem dJ8_newLength_cabcc_3 : decode cJ8_newLength_cabcc 3 = .ok (.invokestatic 194, 3) := by decide +kernel
theorem dJ8_newLength_cabcc_6 : decode cJ8_newLength_cabcc 6 = .ok (.iadd, 1) := by decide +kernel
theorem dJ8_newLength_cabcc_7 : decode cJ8_newLength_cabcc 7 = .ok (.istore_n 3, 1) := by decide +kernel
theorem dJ8_newLength_cabcc_8 : decode cJ8_newLength_cabcc 8 = .ok (.iconst 0, 1) := by decide +kernel
theorem dJ8_newLength_cabcc_9 : decode cJ8_newLength_cabcc 9 = .ok (.iload_n 3, 1) := by decide +kernel
theorem dJ8_newLength_cabcc_10 : decode cJ8_newLength_cabcc 10 = .ok (.if_icmp .ge 11, 3) := by decide +kernel
theorem dJ8_newLength_cabcc_13 : decode cJ8_newLength_cabcc 13 = .ok (.iload_n 3, 1) := by decide +kernel
theorem dJ8_newLength_cabcc_14 : decode cJ8_newLength_cabcc 14 = .ok (.ldc 200, 2) := by decide +kernel
theorem dJ8_newLength_cabcc_16 : decode cJ8_newLength_cabcc 16 = .ok (.if_icmp .gt 5, 3) := by decide +kernel
theorem dJ8_newLength_cabcc_19 : decode cJ8_newLength_cabcc 19 = .ok (.iload_n 3, 1) := by decide +kernel
theorem dJ8_newLength_cabcc_20 : decode cJ8_newLength_cabcc 20 = .ok (.ireturn, 1) := by decide +kernel
theorem dJ8_newLength_cabcc_21 : decode cJ8_newLength_cabcc 21 = .ok (.iload_n 0, 1) := by decide +kernel
theorem dJ8_newLength_cabcc_22 : decode cJ8_newLength_cabcc 22 = .ok (.iload_n 1, 1) := by decide +kernel
theorem dJ8_newLength_cabcc_23 : decode cJ8_newLength_cabcc 23 = .ok (.invokestatic 201, 3) := by decide +kernel
theorem dJ8_newLength_cabcc_26 : decode cJ8_newLength_cabcc 26 = .ok (.ireturn, 1) := by decide +kernel
