theorem dX0_init_0 : decode cX0_init 0 = .ok (.aload_n 0, 1) := by decide +kernel
theorem dX0_init_1 : decode cX0_init 1 = .ok (.invokespecial 3, 3) := by decide +kernel
theorem dX0_init_4 : decode cX0_init 4 = .ok (.aload_n 0, 1) := by decide +kernel
theorem dX0_init_5 : decode cX0_init 5 = .ok (.bipush 30, 2) := by decide +kernel
theorem dX0_init_7 : decode cX0_init 7 = .ok (.newarray .int, 2) := by decide +kernel
theorem dX0_init_9 : decode cX0_init 9 = .ok (.putfield 9, 3) := by decide +kernel
theorem dX0_init_12 : decode cX0_init 12 = .ok (.aload_n 0, 1) := by decide +kernel
theorem dX0_init_13 : decode cX0_init 13 = .ok (.bipush 30, 2) := by decide +kernel
theorem dX0_init_15 : decode cX0_init 15 = .ok (.newarray .int, 2) := by decide +kernel
theorem dX0_init_17 : decode cX0_init 17 = .ok (.putfield 15, 3) := by decide +kernel
theorem dX0_init_20 : decode cX0_init 20 = .ok (.aload_n 0, 1) := by decide +kernel
theorem dX0_init_21 : decode cX0_init 21 = .ok (.bipush 30, 2) := by decide +kernel
theorem dX0_init_23 : decode cX0_init 23 = .ok (.newarray .int, 2) := by decide +kernel
theorem dX0_init_25 : decode cX0_init 25 = .ok (.putfield 18, 3) := by decide +kernel
theorem dX0_init_28 : decode cX0_init 28 = .ok (.aload_n 0, 1) := by decide +kernel
theorem dX0_init_29 : decode cX0_init 29 = .ok (.iconst 2, 1) := by decide +kernel
theorem dX0_init_30 : decode cX0_init 30 = .ok (.putfield 21, 3) := by decide +kernel
theorem dX0_init_33 : decode cX0_init 33 = .ok (.return_, 1) := by decide +kernel
theorem dX0_add_0 : decode cX0_add 0 = .ok (.aload_n 0, 1) := by decide +kernel
theorem dX0_add_1 : decode cX0_add 1 = .ok (.getfield 25, 3) := by decide +kernel
theorem dX0_add_4 : decode cX0_add 4 = .ok (.bipush 30, 2) := by decide +kernel
theorem dX0_add_6 : decode cX0_add 6 = .ok (.if_icmp .lt 6, 3) := by decide +kernel
theorem dX0_add_9 : decode cX0_add 9 = .ok (.bipush (-3), 2) := by decide +kernel
theorem dX0_add_11 : decode cX0_add 11 = .ok (.ireturn, 1) := by decide +kernel
theorem dX0_add_12 : decode cX0_add 12 = .ok (.aload_n 0, 1) := by decide +kernel
theorem dX0_add_13 : decode cX0_add 13 = .ok (.getfield 9, 3) := by decide +kernel
theorem dX0_add_16 : decode cX0_add 16 = .ok (.aload_n 0, 1) := by decide +kernel
theorem dX0_add_17 : decode cX0_add 17 = .ok (.getfield 25, 3) := by decide +kernel
theorem dX0_add_20 : decode cX0_add 20 = .ok (.iload_n 1, 1) := by decide +kernel
theorem dX0_add_21 : decode cX0_add 21 = .ok (.iastore, 1) := by decide +kernel
theorem dX0_add_22 : decode cX0_add 22 = .ok (.aload_n 0, 1) := by decide +kernel
theorem dX0_add_23 : decode cX0_add 23 = .ok (.getfield 15, 3) := by decide +kernel
theorem dX0_add_26 : decode cX0_add 26 = .ok (.aload_n 0, 1) := by decide +kernel
theorem dX0_add_27 : decode cX0_add 27 = .ok (.getfield 25, 3) := by decide +kernel
theorem dX0_add_30 : decode cX0_add 30 = .ok (.iload_n 2, 1) := by decide +kernel
theorem dX0_add_31 : decode cX0_add 31 = .ok (.iastore, 1) := by decide +kernel
theorem dX0_add_32 : decode cX0_add 32 = .ok (.aload_n 0, 1) := by decide +kernel
theorem dX0_add_33 : decode cX0_add 33 = .ok (.getfield 18, 3) := by decide +kernel
theorem dX0_add_36 : decode cX0_add 36 = .ok (.aload_n 0, 1) := by decide +kernel
theorem dX0_add_37 : decode cX0_add 37 = .ok (.getfield 25, 3) := by decide +kernel
theorem dX0_add_40 : decode cX0_add 40 = .ok (.iload_n 3, 1) := by decide +kernel
theorem dX0_add_41 : decode cX0_add 41 = .ok (.iastore, 1) := by decide +kernel
theorem dX0_add_42 : decode cX0_add 42 = .ok (.aload_n 0, 1) := by decide +kernel
theorem dX0_add_43 : decode cX0_add 43 = .ok (.dup, 1) := by decide +kernel
theorem dX0_add_44 : decode cX0_add 44 = .ok (.getfield 25, 3) := by decide +kernel
theorem dX0_add_47 : decode cX0_add 47 = .ok (.iconst 1, 1) := by decide +kernel
theorem dX0_add_48 : decode cX0_add 48 = .ok (.iadd, 1) := by decide +kernel
theorem dX0_add_49 : decode cX0_add 49 = .ok (.putfield 25, 3) := by decide +kernel
theorem dX0_add_52 : decode cX0_add 52 = .ok (.aload_n 0, 1) := by decide +kernel
theorem dX0_add_53 : decode cX0_add 53 = .ok (.getfield 25, 3) := by decide +kernel
theorem dX0_add_56 : decode cX0_add 56 = .ok (.iconst 1, 1) := by decide +kernel
theorem dX0_add_57 : decode cX0_add 57 = .ok (.isub, 1) := by decide +kernel
theorem dX0_add_58 : decode cX0_add 58 = .ok (.ireturn, 1) := by decide +kernel
theorem dX0_effectCount_0 : decode cX0_effectCount 0 = .ok (.aload_n 0, 1) := by decide +kernel
theorem dX0_effectCount_1 : decode cX0_effectCount 1 = .ok (.getfield 25, 3) := by decide +kernel
theorem dX0_effectCount_4 : decode cX0_effectCount 4 = .ok (.ireturn, 1) := by decide +kernel
theorem dX0_changeHands_0 : decode cX0_changeHands 0 = .ok (.aload_n 0, 1) := by decide +kernel
theorem dX0_changeHands_1 : decode cX0_changeHands 1 = .ok (.getfield 21, 3) := by decide +kernel
theorem dX0_changeHands_4 : decode cX0_changeHands 4 = .ok (.istore_n 2, 1) := by decide +kernel
theorem dX0_changeHands_5 : decode cX0_changeHands 5 = .ok (.aload_n 0, 1) := by decide +kernel
theorem dX0_changeHands_6 : decode cX0_changeHands 6 = .ok (.iload_n 1, 1) := by decide +kernel
theorem dX0_changeHands_7 : decode cX0_changeHands 7 = .ok (.putfield 21, 3) := by decide +kernel
theorem dX0_changeHands_10 : decode cX0_changeHands 10 = .ok (.iload_n 2, 1) := by decide +kernel
theorem dX0_changeHands_11 : decode cX0_changeHands 11 = .ok (.ireturn, 1) := by decide +kernel
theorem dX0_freeHands_0 : decode cX0_freeHands 0 = .ok (.aload_n 0, 1) := by decide +kernel
theorem dX0_freeHands_1 : decode cX0_freeHands 1 = .ok (.getfield 21, 3) := by decide +kernel
theorem dX0_freeHands_4 : decode cX0_freeHands 4 = .ok (.istore_n 3, 1) := by decide +kernel
theorem dX0_freeHands_5 : decode cX0_freeHands 5 = .ok (.iconst 0, 1) := by decide +kernel
theorem dX0_freeHands_6 : decode cX0_freeHands 6 = .ok (.istore 4, 2) := by decide +kernel
theorem dX0_freeHands_8 : decode cX0_freeHands 8 = .ok (.iload 4, 2) := by decide +kernel
theorem dX0_freeHands_10 : decode cX0_freeHands 10 = .ok (.aload_n 0, 1) := by decide +kernel
theorem dX0_freeHands_11 : decode cX0_freeHands 11 = .ok (.getfield 25, 3) := by decide +kernel
theorem dX0_freeHands_14 : decode cX0_freeHands 14 = .ok (.if_icmp .ge 62, 3) := by decide +kernel
theorem dX0_freeHands_17 : decode cX0_freeHands 17 = .ok (.iload_n 2, 1) := by decide +kernel
theorem dX0_freeHands_18 : decode cX0_freeHands 18 = .ok (.iload 4, 2) := by decide +kernel
theorem dX0_freeHands_20 : decode cX0_freeHands 20 = .ok (.ishr, 1) := by decide +kernel
theorem dX0_freeHands_21 : decode cX0_freeHands 21 = .ok (.iconst 1, 1) := by decide +kernel
theorem dX0_freeHands_22 : decode cX0_freeHands 22 = .ok (.iand, 1) := by decide +kernel
theorem dX0_freeHands_23 : decode cX0_freeHands 23 = .ok (.ifCond .ne 7, 3) := by decide +kernel
theorem dX0_freeHands_26 : decode cX0_freeHands 26 = .ok (.iconst 1, 1) := by decide +kernel
theorem dX0_freeHands_27 : decode cX0_freeHands 27 = .ok (.goto 4, 3) := by decide +kernel
theorem dX0_freeHands_30 : decode cX0_freeHands 30 = .ok (.iconst 0, 1) := by decide +kernel
theorem dX0_freeHands_31 : decode cX0_freeHands 31 = .ok (.istore 5, 2) := by decide +kernel
theorem dX0_freeHands_33 : decode cX0_freeHands 33 = .ok (.iload 5, 2) := by decide +kernel
theorem dX0_freeHands_35 : decode cX0_freeHands 35 = .ok (.ifCond .eq 35, 3) := by decide +kernel
theorem dX0_freeHands_38 : decode cX0_freeHands 38 = .ok (.aload_n 0, 1) := by decide +kernel
theorem dX0_freeHands_39 : decode cX0_freeHands 39 = .ok (.getfield 9, 3) := by decide +kernel
theorem dX0_freeHands_42 : decode cX0_freeHands 42 = .ok (.iload 4, 2) := by decide +kernel
theorem dX0_freeHands_44 : decode cX0_freeHands 44 = .ok (.iaload, 1) := by decide +kernel
theorem dX0_freeHands_45 : decode cX0_freeHands 45 = .ok (.iload_n 1, 1) := by decide +kernel
theorem dX0_freeHands_46 : decode cX0_freeHands 46 = .ok (.if_icmp .gt 24, 3) := by decide +kernel
theorem dX0_freeHands_49 : decode cX0_freeHands 49 = .ok (.iload_n 1, 1) := by decide +kernel
theorem dX0_freeHands_50 : decode cX0_freeHands 50 = .ok (.aload_n 0, 1) := by decide +kernel
theorem dX0_freeHands_51 : decode cX0_freeHands 51 = .ok (.getfield 15, 3) := by decide +kernel
theorem dX0_freeHands_54 : decode cX0_freeHands 54 = .ok (.iload 4, 2) := by decide +kernel
theorem dX0_freeHands_56 : decode cX0_freeHands 56 = .ok (.iaload, 1) := by decide +kernel
theorem dX0_freeHands_57 : decode cX0_freeHands 57 = .ok (.if_icmp .ge 13, 3) := by decide +kernel
theorem dX0_freeHands_60 : decode cX0_freeHands 60 = .ok (.iload_n 3, 1) := by decide +kernel
theorem dX0_freeHands_61 : decode cX0_freeHands 61 = .ok (.aload_n 0, 1) := by decide +kernel
theorem dX0_freeHands_62 : decode cX0_freeHands 62 = .ok (.getfield 18, 3) := by decide +kernel
theorem dX0_freeHands_65 : decode cX0_freeHands 65 = .ok (.iload 4, 2) := by decide +kernel
theorem dX0_freeHands_67 : decode cX0_freeHands 67 = .ok (.iaload, 1) := by decide +kernel
theorem dX0_freeHands_68 : decode cX0_freeHands 68 = .ok (.isub, 1) := by decide +kernel
theorem dX0_freeHands_69 : decode cX0_freeHands 69 = .ok (.istore_n 3, 1) := by decide +kernel
theorem dX0_freeHands_70 : decode cX0_freeHands 70 = .ok (.iinc 4 1, 3) := by decide +kernel
theorem dX0_freeHands_73 : decode cX0_freeHands 73 = .ok (.goto (-65), 3) := by decide +kernel
theorem dX0_freeHands_76 : decode cX0_freeHands 76 = .ok (.iload_n 3, 1) := by decide +kernel
theorem dX0_freeHands_77 : decode cX0_freeHands 77 = .ok (.ireturn, 1) := by decide +kernel
theorem dX0_firstClash_0 : decode cX0_firstClash 0 = .ok (.bipush (-2), 2) := by decide +kernel
theorem dX0_firstClash_2 : decode cX0_firstClash 2 = .ok (.istore_n 1, 1) := by decide +kernel
theorem dX0_firstClash_3 : decode cX0_firstClash 3 = .ok (.iconst 0, 1) := by decide +kernel
theorem dX0_firstClash_4 : decode cX0_firstClash 4 = .ok (.istore_n 2, 1) := by decide +kernel
theorem dX0_firstClash_5 : decode cX0_firstClash 5 = .ok (.iload_n 2, 1) := by decide +kernel
theorem dX0_firstClash_6 : decode cX0_firstClash 6 = .ok (.aload_n 0, 1) := by decide +kernel
theorem dX0_firstClash_7 : decode cX0_firstClash 7 = .ok (.getfield 25, 3) := by decide +kernel
theorem dX0_firstClash_10 : decode cX0_firstClash 10 = .ok (.if_icmp .ge 56, 3) := by decide +kernel
theorem dX0_firstClash_13 : decode cX0_firstClash 13 = .ok (.iload_n 1, 1) := by decide +kernel
theorem dX0_firstClash_14 : decode cX0_firstClash 14 = .ok (.bipush (-2), 2) := by decide +kernel
theorem dX0_firstClash_16 : decode cX0_firstClash 16 = .ok (.if_icmp .eq 13, 3) := by decide +kernel
theorem dX0_firstClash_19 : decode cX0_firstClash 19 = .ok (.aload_n 0, 1) := by decide +kernel
theorem dX0_firstClash_20 : decode cX0_firstClash 20 = .ok (.getfield 9, 3) := by decide +kernel
theorem dX0_firstClash_23 : decode cX0_firstClash 23 = .ok (.iload_n 2, 1) := by decide +kernel
theorem dX0_firstClash_24 : decode cX0_firstClash 24 = .ok (.iaload, 1) := by decide +kernel
theorem dX0_firstClash_25 : decode cX0_firstClash 25 = .ok (.iload_n 1, 1) := by decide +kernel
theorem dX0_firstClash_26 : decode cX0_firstClash 26 = .ok (.if_icmp .ge 7, 3) := by decide +kernel
theorem dX0_firstClash_29 : decode cX0_firstClash 29 = .ok (.iconst 1, 1) := by decide +kernel
theorem dX0_firstClash_30 : decode cX0_firstClash 30 = .ok (.goto 4, 3) := by decide +kernel
theorem dX0_firstClash_33 : decode cX0_firstClash 33 = .ok (.iconst 0, 1) := by decide +kernel
theorem dX0_firstClash_34 : decode cX0_firstClash 34 = .ok (.istore_n 3, 1) := by decide +kernel
theorem dX0_firstClash_35 : decode cX0_firstClash 35 = .ok (.iload_n 3, 1) := by decide +kernel
theorem dX0_firstClash_36 : decode cX0_firstClash 36 = .ok (.ifCond .eq 24, 3) := by decide +kernel
theorem dX0_firstClash_39 : decode cX0_firstClash 39 = .ok (.aload_n 0, 1) := by decide +kernel
theorem dX0_firstClash_40 : decode cX0_firstClash 40 = .ok (.aload_n 0, 1) := by decide +kernel
theorem dX0_firstClash_41 : decode cX0_firstClash 41 = .ok (.getfield 9, 3) := by decide +kernel
theorem dX0_firstClash_44 : decode cX0_firstClash 44 = .ok (.iload_n 2, 1) := by decide +kernel
theorem dX0_firstClash_45 : decode cX0_firstClash 45 = .ok (.iaload, 1) := by decide +kernel
theorem dX0_firstClash_46 : decode cX0_firstClash 46 = .ok (.iconst 0, 1) := by decide +kernel
theorem dX0_firstClash_47 : decode cX0_firstClash 47 = .ok (.invokevirtual 28, 3) := by decide +kernel
theorem dX0_firstClash_50 : decode cX0_firstClash 50 = .ok (.ifCond .ge 10, 3) := by decide +kernel
theorem dX0_firstClash_53 : decode cX0_firstClash 53 = .ok (.aload_n 0, 1) := by decide +kernel
theorem dX0_firstClash_54 : decode cX0_firstClash 54 = .ok (.getfield 9, 3) := by decide +kernel
theorem dX0_firstClash_57 : decode cX0_firstClash 57 = .ok (.iload_n 2, 1) := by decide +kernel
theorem dX0_firstClash_58 : decode cX0_firstClash 58 = .ok (.iaload, 1) := by decide +kernel
theorem dX0_firstClash_59 : decode cX0_firstClash 59 = .ok (.istore_n 1, 1) := by decide +kernel
theorem dX0_firstClash_60 : decode cX0_firstClash 60 = .ok (.iinc 2 1, 3) := by decide +kernel
theorem dX0_firstClash_63 : decode cX0_firstClash 63 = .ok (.goto (-58), 3) := by decide +kernel
theorem dX0_firstClash_66 : decode cX0_firstClash 66 = .ok (.iload_n 1, 1) := by decide +kernel
theorem dX0_firstClash_67 : decode cX0_firstClash 67 = .ok (.ireturn, 1) := by decide +kernel
theorem dX0_leastLeftOut_0 : decode cX0_leastLeftOut 0 = .ok (.aload_n 0, 1) := by decide +kernel
theorem dX0_leastLeftOut_1 : decode cX0_leastLeftOut 1 = .ok (.getfield 25, 3) := by decide +kernel
theorem dX0_leastLeftOut_4 : decode cX0_leastLeftOut 4 = .ok (.bipush 12, 2) := by decide +kernel
theorem dX0_leastLeftOut_6 : decode cX0_leastLeftOut 6 = .ok (.if_icmp .le 6, 3) := by decide +kernel
theorem dX0_leastLeftOut_9 : decode cX0_leastLeftOut 9 = .ok (.bipush (-4), 2) := by decide +kernel
theorem dX0_leastLeftOut_11 : decode cX0_leastLeftOut 11 = .ok (.ireturn, 1) := by decide +kernel
theorem dX0_leastLeftOut_12 : decode cX0_leastLeftOut 12 = .ok (.iconst 1, 1) := by decide +kernel
theorem dX0_leastLeftOut_13 : decode cX0_leastLeftOut 13 = .ok (.aload_n 0, 1) := by decide +kernel
theorem dX0_leastLeftOut_14 : decode cX0_leastLeftOut 14 = .ok (.getfield 25, 3) := by decide +kernel
theorem dX0_leastLeftOut_17 : decode cX0_leastLeftOut 17 = .ok (.ishl, 1) := by decide +kernel
theorem dX0_leastLeftOut_18 : decode cX0_leastLeftOut 18 = .ok (.iconst 1, 1) := by decide +kernel
theorem dX0_leastLeftOut_19 : decode cX0_leastLeftOut 19 = .ok (.isub, 1) := by decide +kernel
theorem dX0_leastLeftOut_20 : decode cX0_leastLeftOut 20 = .ok (.istore_n 1, 1) := by decide +kernel
theorem dX0_leastLeftOut_21 : decode cX0_leastLeftOut 21 = .ok (.iload_n 1, 1) := by decide +kernel
theorem dX0_leastLeftOut_22 : decode cX0_leastLeftOut 22 = .ok (.istore_n 2, 1) := by decide +kernel
theorem dX0_leastLeftOut_23 : decode cX0_leastLeftOut 23 = .ok (.iconst 0, 1) := by decide +kernel
theorem dX0_leastLeftOut_24 : decode cX0_leastLeftOut 24 = .ok (.istore_n 3, 1) := by decide +kernel
theorem dX0_leastLeftOut_25 : decode cX0_leastLeftOut 25 = .ok (.iload_n 3, 1) := by decide +kernel
theorem dX0_leastLeftOut_26 : decode cX0_leastLeftOut 26 = .ok (.iload_n 1, 1) := by decide +kernel
theorem dX0_leastLeftOut_27 : decode cX0_leastLeftOut 27 = .ok (.if_icmp .ge 27, 3) := by decide +kernel
theorem dX0_leastLeftOut_30 : decode cX0_leastLeftOut 30 = .ok (.iload_n 3, 1) := by decide +kernel
theorem dX0_leastLeftOut_31 : decode cX0_leastLeftOut 31 = .ok (.iload_n 2, 1) := by decide +kernel
theorem dX0_leastLeftOut_32 : decode cX0_leastLeftOut 32 = .ok (.invokestatic 32, 3) := by decide +kernel
theorem dX0_leastLeftOut_35 : decode cX0_leastLeftOut 35 = .ok (.ifCond .eq 13, 3) := by decide +kernel
theorem dX0_leastLeftOut_38 : decode cX0_leastLeftOut 38 = .ok (.aload_n 0, 1) := by decide +kernel
theorem dX0_leastLeftOut_39 : decode cX0_leastLeftOut 39 = .ok (.iload_n 3, 1) := by decide +kernel
theorem dX0_leastLeftOut_40 : decode cX0_leastLeftOut 40 = .ok (.invokevirtual 36, 3) := by decide +kernel
theorem dX0_leastLeftOut_43 : decode cX0_leastLeftOut 43 = .ok (.ifCond .eq 5, 3) := by decide +kernel
theorem dX0_leastLeftOut_46 : decode cX0_leastLeftOut 46 = .ok (.iload_n 3, 1) := by decide +kernel
theorem dX0_leastLeftOut_47 : decode cX0_leastLeftOut 47 = .ok (.istore_n 2, 1) := by decide +kernel
theorem dX0_leastLeftOut_48 : decode cX0_leastLeftOut 48 = .ok (.iinc 3 1, 3) := by decide +kernel
theorem dX0_leastLeftOut_51 : decode cX0_leastLeftOut 51 = .ok (.goto (-26), 3) := by decide +kernel
theorem dX0_leastLeftOut_54 : decode cX0_leastLeftOut 54 = .ok (.iload_n 2, 1) := by decide +kernel
theorem dX0_leastLeftOut_55 : decode cX0_leastLeftOut 55 = .ok (.ireturn, 1) := by decide +kernel
theorem dX0_isAhead_0 : decode cX0_isAhead 0 = .ok (.iload_n 0, 1) := by decide +kernel
theorem dX0_isAhead_1 : decode cX0_isAhead 1 = .ok (.invokestatic 40, 3) := by decide +kernel
theorem dX0_isAhead_4 : decode cX0_isAhead 4 = .ok (.istore_n 2, 1) := by decide +kernel
theorem dX0_isAhead_5 : decode cX0_isAhead 5 = .ok (.iload_n 1, 1) := by decide +kernel
theorem dX0_isAhead_6 : decode cX0_isAhead 6 = .ok (.invokestatic 40, 3) := by decide +kernel
theorem dX0_isAhead_9 : decode cX0_isAhead 9 = .ok (.istore_n 3, 1) := by decide +kernel
theorem dX0_isAhead_10 : decode cX0_isAhead 10 = .ok (.iload_n 0, 1) := by decide +kernel
theorem dX0_isAhead_11 : decode cX0_isAhead 11 = .ok (.iload_n 1, 1) := by decide +kernel
theorem dX0_isAhead_12 : decode cX0_isAhead 12 = .ok (.ixor, 1) := by decide +kernel
theorem dX0_isAhead_13 : decode cX0_isAhead 13 = .ok (.istore 4, 2) := by decide +kernel
theorem dX0_isAhead_15 : decode cX0_isAhead 15 = .ok (.iload_n 0, 1) := by decide +kernel
theorem dX0_isAhead_16 : decode cX0_isAhead 16 = .ok (.iload 4, 2) := by decide +kernel
theorem dX0_isAhead_18 : decode cX0_isAhead 18 = .ok (.iand, 1) := by decide +kernel
theorem dX0_isAhead_19 : decode cX0_isAhead 19 = .ok (.iload 4, 2) := by decide +kernel
theorem dX0_isAhead_21 : decode cX0_isAhead 21 = .ok (.ineg, 1) := by decide +kernel
theorem dX0_isAhead_22 : decode cX0_isAhead 22 = .ok (.iand, 1) := by decide +kernel
theorem dX0_isAhead_23 : decode cX0_isAhead 23 = .ok (.ifCond .eq 7, 3) := by decide +kernel
theorem dX0_isAhead_26 : decode cX0_isAhead 26 = .ok (.iconst 1, 1) := by decide +kernel
theorem dX0_isAhead_27 : decode cX0_isAhead 27 = .ok (.goto 4, 3) := by decide +kernel
theorem dX0_isAhead_30 : decode cX0_isAhead 30 = .ok (.iconst 0, 1) := by decide +kernel
theorem dX0_isAhead_31 : decode cX0_isAhead 31 = .ok (.istore 5, 2) := by decide +kernel
theorem dX0_isAhead_33 : decode cX0_isAhead 33 = .ok (.iload_n 2, 1) := by decide +kernel
theorem dX0_isAhead_34 : decode cX0_isAhead 34 = .ok (.iload_n 3, 1) := by decide +kernel
theorem dX0_isAhead_35 : decode cX0_isAhead 35 = .ok (.if_icmp .lt 13, 3) := by decide +kernel
theorem dX0_isAhead_38 : decode cX0_isAhead 38 = .ok (.iload_n 2, 1) := by decide +kernel
theorem dX0_isAhead_39 : decode cX0_isAhead 39 = .ok (.iload_n 3, 1) := by decide +kernel
theorem dX0_isAhead_40 : decode cX0_isAhead 40 = .ok (.if_icmp .ne 12, 3) := by decide +kernel
theorem dX0_isAhead_43 : decode cX0_isAhead 43 = .ok (.iload 5, 2) := by decide +kernel
theorem dX0_isAhead_45 : decode cX0_isAhead 45 = .ok (.ifCond .eq 7, 3) := by decide +kernel
theorem dX0_isAhead_48 : decode cX0_isAhead 48 = .ok (.iconst 1, 1) := by decide +kernel
theorem dX0_isAhead_49 : decode cX0_isAhead 49 = .ok (.goto 4, 3) := by decide +kernel
theorem dX0_isAhead_52 : decode cX0_isAhead 52 = .ok (.iconst 0, 1) := by decide +kernel
theorem dX0_isAhead_53 : decode cX0_isAhead 53 = .ok (.ireturn, 1) := by decide +kernel
theorem dX0_isEnoughWithout_0 : decode cX0_isEnoughWithout 0 = .ok (.iconst 0, 1) := by decide +kernel
theorem dX0_isEnoughWithout_1 : decode cX0_isEnoughWithout 1 = .ok (.istore_n 2, 1) := by decide +kernel
theorem dX0_isEnoughWithout_2 : decode cX0_isEnoughWithout 2 = .ok (.iload_n 2, 1) := by decide +kernel
theorem dX0_isEnoughWithout_3 : decode cX0_isEnoughWithout 3 = .ok (.aload_n 0, 1) := by decide +kernel
theorem dX0_isEnoughWithout_4 : decode cX0_isEnoughWithout 4 = .ok (.getfield 25, 3) := by decide +kernel
theorem dX0_isEnoughWithout_7 : decode cX0_isEnoughWithout 7 = .ok (.if_icmp .ge 43, 3) := by decide +kernel
theorem dX0_isEnoughWithout_10 : decode cX0_isEnoughWithout 10 = .ok (.iload_n 1, 1) := by decide +kernel
theorem dX0_isEnoughWithout_11 : decode cX0_isEnoughWithout 11 = .ok (.iload_n 2, 1) := by decide +kernel
theorem dX0_isEnoughWithout_12 : decode cX0_isEnoughWithout 12 = .ok (.ishr, 1) := by decide +kernel
theorem dX0_isEnoughWithout_13 : decode cX0_isEnoughWithout 13 = .ok (.iconst 1, 1) := by decide +kernel
theorem dX0_isEnoughWithout_14 : decode cX0_isEnoughWithout 14 = .ok (.iand, 1) := by decide +kernel
theorem dX0_isEnoughWithout_15 : decode cX0_isEnoughWithout 15 = .ok (.ifCond .ne 7, 3) := by decide +kernel
theorem dX0_isEnoughWithout_18 : decode cX0_isEnoughWithout 18 = .ok (.iconst 1, 1) := by decide +kernel
theorem dX0_isEnoughWithout_19 : decode cX0_isEnoughWithout 19 = .ok (.goto 4, 3) := by decide +kernel
theorem dX0_isEnoughWithout_22 : decode cX0_isEnoughWithout 22 = .ok (.iconst 0, 1) := by decide +kernel
theorem dX0_isEnoughWithout_23 : decode cX0_isEnoughWithout 23 = .ok (.istore_n 3, 1) := by decide +kernel
theorem dX0_isEnoughWithout_24 : decode cX0_isEnoughWithout 24 = .ok (.iload_n 3, 1) := by decide +kernel
theorem dX0_isEnoughWithout_25 : decode cX0_isEnoughWithout 25 = .ok (.ifCond .eq 19, 3) := by decide +kernel
theorem dX0_isEnoughWithout_28 : decode cX0_isEnoughWithout 28 = .ok (.aload_n 0, 1) := by decide +kernel
theorem dX0_isEnoughWithout_29 : decode cX0_isEnoughWithout 29 = .ok (.aload_n 0, 1) := by decide +kernel
theorem dX0_isEnoughWithout_30 : decode cX0_isEnoughWithout 30 = .ok (.getfield 9, 3) := by decide +kernel
theorem dX0_isEnoughWithout_33 : decode cX0_isEnoughWithout 33 = .ok (.iload_n 2, 1) := by decide +kernel
theorem dX0_isEnoughWithout_34 : decode cX0_isEnoughWithout 34 = .ok (.iaload, 1) := by decide +kernel
theorem dX0_isEnoughWithout_35 : decode cX0_isEnoughWithout 35 = .ok (.iload_n 1, 1) := by decide +kernel
theorem dX0_isEnoughWithout_36 : decode cX0_isEnoughWithout 36 = .ok (.invokevirtual 28, 3) := by decide +kernel
theorem dX0_isEnoughWithout_39 : decode cX0_isEnoughWithout 39 = .ok (.ifCond .ge 5, 3) := by decide +kernel
theorem dX0_isEnoughWithout_42 : decode cX0_isEnoughWithout 42 = .ok (.iconst 0, 1) := by decide +kernel
theorem dX0_isEnoughWithout_43 : decode cX0_isEnoughWithout 43 = .ok (.ireturn, 1) := by decide +kernel
theorem dX0_isEnoughWithout_44 : decode cX0_isEnoughWithout 44 = .ok (.iinc 2 1, 3) := by decide +kernel
theorem dX0_isEnoughWithout_47 : decode cX0_isEnoughWithout 47 = .ok (.goto (-45), 3) := by decide +kernel
theorem dX0_isEnoughWithout_50 : decode cX0_isEnoughWithout 50 = .ok (.iconst 1, 1) := by decide +kernel
theorem dX0_isEnoughWithout_51 : decode cX0_isEnoughWithout 51 = .ok (.ireturn, 1) := by decide +kernel
theorem dX1_init_0 : decode cX1_init 0 = .ok (.aload_n 0, 1) := by decide +kernel
theorem dX1_init_1 : decode cX1_init 1 = .ok (.invokespecial 3, 3) := by decide +kernel
theorem dX1_init_4 : decode cX1_init 4 = .ok (.aload_n 0, 1) := by decide +kernel
theorem dX1_init_5 : decode cX1_init 5 = .ok (.bipush 60, 2) := by decide +kernel
theorem dX1_init_7 : decode cX1_init 7 = .ok (.newarray .int, 2) := by decide +kernel
theorem dX1_init_9 : decode cX1_init 9 = .ok (.putfield 9, 3) := by decide +kernel
theorem dX1_init_12 : decode cX1_init 12 = .ok (.aload_n 0, 1) := by decide +kernel
theorem dX1_init_13 : decode cX1_init 13 = .ok (.bipush 60, 2) := by decide +kernel
theorem dX1_init_15 : decode cX1_init 15 = .ok (.newarray .int, 2) := by decide +kernel
theorem dX1_init_17 : decode cX1_init 17 = .ok (.putfield 15, 3) := by decide +kernel
theorem dX1_init_20 : decode cX1_init 20 = .ok (.aload_n 0, 1) := by decide +kernel
theorem dX1_init_21 : decode cX1_init 21 = .ok (.bipush 60, 2) := by decide +kernel
theorem dX1_init_23 : decode cX1_init 23 = .ok (.newarray .boolean, 2) := by decide +kernel
theorem dX1_init_25 : decode cX1_init 25 = .ok (.putfield 18, 3) := by decide +kernel
theorem dX1_init_28 : decode cX1_init 28 = .ok (.return_, 1) := by decide +kernel
theorem dX1_add_0 : decode cX1_add 0 = .ok (.aload_n 0, 1) := by decide +kernel
theorem dX1_add_1 : decode cX1_add 1 = .ok (.getfield 22, 3) := by decide +kernel
theorem dX1_add_4 : decode cX1_add 4 = .ok (.bipush 60, 2) := by decide +kernel
theorem dX1_add_6 : decode cX1_add 6 = .ok (.if_icmp .lt 6, 3) := by decide +kernel
theorem dX1_add_9 : decode cX1_add 9 = .ok (.bipush (-3), 2) := by decide +kernel
theorem dX1_add_11 : decode cX1_add 11 = .ok (.ireturn, 1) := by decide +kernel
theorem dX1_add_12 : decode cX1_add 12 = .ok (.aload_n 0, 1) := by decide +kernel
theorem dX1_add_13 : decode cX1_add 13 = .ok (.getfield 9, 3) := by decide +kernel
theorem dX1_add_16 : decode cX1_add 16 = .ok (.aload_n 0, 1) := by decide +kernel
theorem dX1_add_17 : decode cX1_add 17 = .ok (.getfield 22, 3) := by decide +kernel
theorem dX1_add_20 : decode cX1_add 20 = .ok (.iload_n 1, 1) := by decide +kernel
theorem dX1_add_21 : decode cX1_add 21 = .ok (.iastore, 1) := by decide +kernel
theorem dX1_add_22 : decode cX1_add 22 = .ok (.aload_n 0, 1) := by decide +kernel
theorem dX1_add_23 : decode cX1_add 23 = .ok (.getfield 15, 3) := by decide +kernel
theorem dX1_add_26 : decode cX1_add 26 = .ok (.aload_n 0, 1) := by decide +kernel
theorem dX1_add_27 : decode cX1_add 27 = .ok (.getfield 22, 3) := by decide +kernel
theorem dX1_add_30 : decode cX1_add 30 = .ok (.iload_n 2, 1) := by decide +kernel
theorem dX1_add_31 : decode cX1_add 31 = .ok (.iastore, 1) := by decide +kernel
theorem dX1_add_32 : decode cX1_add 32 = .ok (.aload_n 0, 1) := by decide +kernel
theorem dX1_add_33 : decode cX1_add 33 = .ok (.getfield 18, 3) := by decide +kernel
theorem dX1_add_36 : decode cX1_add 36 = .ok (.aload_n 0, 1) := by decide +kernel
theorem dX1_add_37 : decode cX1_add 37 = .ok (.getfield 22, 3) := by decide +kernel
theorem dX1_add_40 : decode cX1_add 40 = .ok (.aload_n 0, 1) := by decide +kernel
theorem dX1_add_41 : decode cX1_add 41 = .ok (.getfield 22, 3) := by decide +kernel
theorem dX1_add_44 : decode cX1_add 44 = .ok (.ifCond .ne 7, 3) := by decide +kernel
theorem dX1_add_47 : decode cX1_add 47 = .ok (.iconst 1, 1) := by decide +kernel
theorem dX1_add_48 : decode cX1_add 48 = .ok (.goto 4, 3) := by decide +kernel
theorem dX1_add_51 : decode cX1_add 51 = .ok (.iconst 0, 1) := by decide +kernel
theorem dX1_add_52 : decode cX1_add 52 = .ok (.bastore, 1) := by decide +kernel
theorem dX1_add_53 : decode cX1_add 53 = .ok (.aload_n 0, 1) := by decide +kernel
theorem dX1_add_54 : decode cX1_add 54 = .ok (.dup, 1) := by decide +kernel
theorem dX1_add_55 : decode cX1_add 55 = .ok (.getfield 22, 3) := by decide +kernel
theorem dX1_add_58 : decode cX1_add 58 = .ok (.iconst 1, 1) := by decide +kernel
theorem dX1_add_59 : decode cX1_add 59 = .ok (.iadd, 1) := by decide +kernel
theorem dX1_add_60 : decode cX1_add 60 = .ok (.putfield 22, 3) := by decide +kernel
theorem dX1_add_63 : decode cX1_add 63 = .ok (.aload_n 0, 1) := by decide +kernel
theorem dX1_add_64 : decode cX1_add 64 = .ok (.getfield 22, 3) := by decide +kernel
theorem dX1_add_67 : decode cX1_add 67 = .ok (.iconst 1, 1) := by decide +kernel
theorem dX1_add_68 : decode cX1_add 68 = .ok (.isub, 1) := by decide +kernel
theorem dX1_add_69 : decode cX1_add 69 = .ok (.ireturn, 1) := by decide +kernel
theorem dX1_shotCount_0 : decode cX1_shotCount 0 = .ok (.aload_n 0, 1) := by decide +kernel
theorem dX1_shotCount_1 : decode cX1_shotCount 1 = .ok (.getfield 22, 3) := by decide +kernel
theorem dX1_shotCount_4 : decode cX1_shotCount 4 = .ok (.ireturn, 1) := by decide +kernel
theorem dX1_mark_0 : decode cX1_mark 0 = .ok (.iload_n 1, 1) := by decide +kernel
theorem dX1_mark_1 : decode cX1_mark 1 = .ok (.iconst 0, 1) := by decide +kernel
theorem dX1_mark_2 : decode cX1_mark 2 = .ok (.aload_n 0, 1) := by decide +kernel
theorem dX1_mark_3 : decode cX1_mark 3 = .ok (.getfield 22, 3) := by decide +kernel
theorem dX1_mark_6 : decode cX1_mark 6 = .ok (.iconst 1, 1) := by decide +kernel
theorem dX1_mark_7 : decode cX1_mark 7 = .ok (.isub, 1) := by decide +kernel
theorem dX1_mark_8 : decode cX1_mark 8 = .ok (.invokestatic 26, 3) := by decide +kernel
theorem dX1_mark_11 : decode cX1_mark 11 = .ok (.ifCond .ne 5, 3) := by decide +kernel
theorem dX1_mark_14 : decode cX1_mark 14 = .ok (.iconst (-1), 1) := by decide +kernel
theorem dX1_mark_15 : decode cX1_mark 15 = .ok (.ireturn, 1) := by decide +kernel
theorem dX1_mark_16 : decode cX1_mark 16 = .ok (.aload_n 0, 1) := by decide +kernel
theorem dX1_mark_17 : decode cX1_mark 17 = .ok (.getfield 18, 3) := by decide +kernel
theorem dX1_mark_20 : decode cX1_mark 20 = .ok (.iload_n 1, 1) := by decide +kernel
theorem dX1_mark_21 : decode cX1_mark 21 = .ok (.baload, 1) := by decide +kernel
theorem dX1_mark_22 : decode cX1_mark 22 = .ok (.ifCond .eq 7, 3) := by decide +kernel
theorem dX1_mark_25 : decode cX1_mark 25 = .ok (.iconst 1, 1) := by decide +kernel
theorem dX1_mark_26 : decode cX1_mark 26 = .ok (.goto 4, 3) := by decide +kernel
theorem dX1_mark_29 : decode cX1_mark 29 = .ok (.iconst 0, 1) := by decide +kernel
theorem dX1_mark_30 : decode cX1_mark 30 = .ok (.istore_n 3, 1) := by decide +kernel
theorem dX1_mark_31 : decode cX1_mark 31 = .ok (.aload_n 0, 1) := by decide +kernel
theorem dX1_mark_32 : decode cX1_mark 32 = .ok (.getfield 18, 3) := by decide +kernel
theorem dX1_mark_35 : decode cX1_mark 35 = .ok (.iload_n 1, 1) := by decide +kernel
theorem dX1_mark_36 : decode cX1_mark 36 = .ok (.iload_n 2, 1) := by decide +kernel
theorem dX1_mark_37 : decode cX1_mark 37 = .ok (.iconst 1, 1) := by decide +kernel
theorem dX1_mark_38 : decode cX1_mark 38 = .ok (.if_icmp .ne 7, 3) := by decide +kernel
theorem dX1_mark_41 : decode cX1_mark 41 = .ok (.iconst 1, 1) := by decide +kernel
theorem dX1_mark_42 : decode cX1_mark 42 = .ok (.goto 4, 3) := by decide +kernel
theorem dX1_mark_45 : decode cX1_mark 45 = .ok (.iconst 0, 1) := by decide +kernel
theorem dX1_mark_46 : decode cX1_mark 46 = .ok (.bastore, 1) := by decide +kernel
theorem dX1_mark_47 : decode cX1_mark 47 = .ok (.iload_n 3, 1) := by decide +kernel
theorem dX1_mark_48 : decode cX1_mark 48 = .ok (.ireturn, 1) := by decide +kernel
theorem dX1_stretchCount_0 : decode cX1_stretchCount 0 = .ok (.iconst 0, 1) := by decide +kernel
theorem dX1_stretchCount_1 : decode cX1_stretchCount 1 = .ok (.istore_n 1, 1) := by decide +kernel
theorem dX1_stretchCount_2 : decode cX1_stretchCount 2 = .ok (.iconst 0, 1) := by decide +kernel
theorem dX1_stretchCount_3 : decode cX1_stretchCount 3 = .ok (.istore_n 2, 1) := by decide +kernel
theorem dX1_stretchCount_4 : decode cX1_stretchCount 4 = .ok (.iload_n 2, 1) := by decide +kernel
theorem dX1_stretchCount_5 : decode cX1_stretchCount 5 = .ok (.aload_n 0, 1) := by decide +kernel
theorem dX1_stretchCount_6 : decode cX1_stretchCount 6 = .ok (.getfield 22, 3) := by decide +kernel
theorem dX1_stretchCount_9 : decode cX1_stretchCount 9 = .ok (.if_icmp .ge 21, 3) := by decide +kernel
theorem dX1_stretchCount_12 : decode cX1_stretchCount 12 = .ok (.aload_n 0, 1) := by decide +kernel
theorem dX1_stretchCount_13 : decode cX1_stretchCount 13 = .ok (.getfield 18, 3) := by decide +kernel
theorem dX1_stretchCount_16 : decode cX1_stretchCount 16 = .ok (.iload_n 2, 1) := by decide +kernel
theorem dX1_stretchCount_17 : decode cX1_stretchCount 17 = .ok (.baload, 1) := by decide +kernel
theorem dX1_stretchCount_18 : decode cX1_stretchCount 18 = .ok (.ifCond .eq 6, 3) := by decide +kernel
theorem dX1_stretchCount_21 : decode cX1_stretchCount 21 = .ok (.iinc 1 1, 3) := by decide +kernel
theorem dX1_stretchCount_24 : decode cX1_stretchCount 24 = .ok (.iinc 2 1, 3) := by decide +kernel
theorem dX1_stretchCount_27 : decode cX1_stretchCount 27 = .ok (.goto (-23), 3) := by decide +kernel
theorem dX1_stretchCount_30 : decode cX1_stretchCount 30 = .ok (.iload_n 1, 1) := by decide +kernel
theorem dX1_stretchCount_31 : decode cX1_stretchCount 31 = .ok (.ireturn, 1) := by decide +kernel
theorem dX1_firstShot_0 : decode cX1_firstShot 0 = .ok (.iconst (-1), 1) := by decide +kernel
theorem dX1_firstShot_1 : decode cX1_firstShot 1 = .ok (.istore_n 2, 1) := by decide +kernel
theorem dX1_firstShot_2 : decode cX1_firstShot 2 = .ok (.iconst 0, 1) := by decide +kernel
theorem dX1_firstShot_3 : decode cX1_firstShot 3 = .ok (.istore_n 3, 1) := by decide +kernel
theorem dX1_firstShot_4 : decode cX1_firstShot 4 = .ok (.iload_n 3, 1) := by decide +kernel
theorem dX1_firstShot_5 : decode cX1_firstShot 5 = .ok (.aload_n 0, 1) := by decide +kernel
theorem dX1_firstShot_6 : decode cX1_firstShot 6 = .ok (.getfield 22, 3) := by decide +kernel
theorem dX1_firstShot_9 : decode cX1_firstShot 9 = .ok (.if_icmp .ge 37, 3) := by decide +kernel
theorem dX1_firstShot_12 : decode cX1_firstShot 12 = .ok (.aload_n 0, 1) := by decide +kernel
theorem dX1_firstShot_13 : decode cX1_firstShot 13 = .ok (.getfield 18, 3) := by decide +kernel
theorem dX1_firstShot_16 : decode cX1_firstShot 16 = .ok (.iload_n 3, 1) := by decide +kernel
theorem dX1_firstShot_17 : decode cX1_firstShot 17 = .ok (.baload, 1) := by decide +kernel
theorem dX1_firstShot_18 : decode cX1_firstShot 18 = .ok (.ifCond .eq 6, 3) := by decide +kernel
theorem dX1_firstShot_21 : decode cX1_firstShot 21 = .ok (.iinc 2 1, 3) := by decide +kernel
theorem dX1_firstShot_24 : decode cX1_firstShot 24 = .ok (.aload_n 0, 1) := by decide +kernel
theorem dX1_firstShot_25 : decode cX1_firstShot 25 = .ok (.getfield 18, 3) := by decide +kernel
theorem dX1_firstShot_28 : decode cX1_firstShot 28 = .ok (.iload_n 3, 1) := by decide +kernel
theorem dX1_firstShot_29 : decode cX1_firstShot 29 = .ok (.baload, 1) := by decide +kernel
theorem dX1_firstShot_30 : decode cX1_firstShot 30 = .ok (.ifCond .eq 10, 3) := by decide +kernel
theorem dX1_firstShot_33 : decode cX1_firstShot 33 = .ok (.iload_n 2, 1) := by decide +kernel
theorem dX1_firstShot_34 : decode cX1_firstShot 34 = .ok (.iload_n 1, 1) := by decide +kernel
theorem dX1_firstShot_35 : decode cX1_firstShot 35 = .ok (.if_icmp .ne 5, 3) := by decide +kernel
theorem dX1_firstShot_38 : decode cX1_firstShot 38 = .ok (.iload_n 3, 1) := by decide +kernel
theorem dX1_firstShot_39 : decode cX1_firstShot 39 = .ok (.ireturn, 1) := by decide +kernel
theorem dX1_firstShot_40 : decode cX1_firstShot 40 = .ok (.iinc 3 1, 3) := by decide +kernel
theorem dX1_firstShot_43 : decode cX1_firstShot 43 = .ok (.goto (-39), 3) := by decide +kernel
theorem dX1_firstShot_46 : decode cX1_firstShot 46 = .ok (.iconst (-1), 1) := by decide +kernel
theorem dX1_firstShot_47 : decode cX1_firstShot 47 = .ok (.ireturn, 1) := by decide +kernel
theorem dX1_lastShot_0 : decode cX1_lastShot 0 = .ok (.iconst 0, 1) := by decide +kernel
theorem dX1_lastShot_1 : decode cX1_lastShot 1 = .ok (.iload_n 1, 1) := by decide +kernel
theorem dX1_lastShot_2 : decode cX1_lastShot 2 = .ok (.invokestatic 30, 3) := by decide +kernel
theorem dX1_lastShot_5 : decode cX1_lastShot 5 = .ok (.iconst 1, 1) := by decide +kernel
theorem dX1_lastShot_6 : decode cX1_lastShot 6 = .ok (.iadd, 1) := by decide +kernel
theorem dX1_lastShot_7 : decode cX1_lastShot 7 = .ok (.istore_n 2, 1) := by decide +kernel
theorem dX1_lastShot_8 : decode cX1_lastShot 8 = .ok (.iload_n 2, 1) := by decide +kernel
theorem dX1_lastShot_9 : decode cX1_lastShot 9 = .ok (.aload_n 0, 1) := by decide +kernel
theorem dX1_lastShot_10 : decode cX1_lastShot 10 = .ok (.getfield 22, 3) := by decide +kernel
theorem dX1_lastShot_13 : decode cX1_lastShot 13 = .ok (.if_icmp .ge 22, 3) := by decide +kernel
theorem dX1_lastShot_16 : decode cX1_lastShot 16 = .ok (.aload_n 0, 1) := by decide +kernel
theorem dX1_lastShot_17 : decode cX1_lastShot 17 = .ok (.getfield 18, 3) := by decide +kernel
theorem dX1_lastShot_20 : decode cX1_lastShot 20 = .ok (.iload_n 2, 1) := by decide +kernel
theorem dX1_lastShot_21 : decode cX1_lastShot 21 = .ok (.baload, 1) := by decide +kernel
theorem dX1_lastShot_22 : decode cX1_lastShot 22 = .ok (.ifCond .eq 7, 3) := by decide +kernel
theorem dX1_lastShot_25 : decode cX1_lastShot 25 = .ok (.iload_n 2, 1) := by decide +kernel
theorem dX1_lastShot_26 : decode cX1_lastShot 26 = .ok (.iconst 1, 1) := by decide +kernel
theorem dX1_lastShot_27 : decode cX1_lastShot 27 = .ok (.isub, 1) := by decide +kernel
theorem dX1_lastShot_28 : decode cX1_lastShot 28 = .ok (.ireturn, 1) := by decide +kernel
theorem dX1_lastShot_29 : decode cX1_lastShot 29 = .ok (.iinc 2 1, 3) := by decide +kernel
theorem dX1_lastShot_32 : decode cX1_lastShot 32 = .ok (.goto (-24), 3) := by decide +kernel
theorem dX1_lastShot_35 : decode cX1_lastShot 35 = .ok (.aload_n 0, 1) := by decide +kernel
theorem dX1_lastShot_36 : decode cX1_lastShot 36 = .ok (.getfield 22, 3) := by decide +kernel
theorem dX1_lastShot_39 : decode cX1_lastShot 39 = .ok (.iconst 1, 1) := by decide +kernel
theorem dX1_lastShot_40 : decode cX1_lastShot 40 = .ok (.isub, 1) := by decide +kernel
theorem dX1_lastShot_41 : decode cX1_lastShot 41 = .ok (.ireturn, 1) := by decide +kernel
theorem dX1_framesFrom_0 : decode cX1_framesFrom 0 = .ok (.iconst 0, 1) := by decide +kernel
theorem dX1_framesFrom_1 : decode cX1_framesFrom 1 = .ok (.istore_n 3, 1) := by decide +kernel
theorem dX1_framesFrom_2 : decode cX1_framesFrom 2 = .ok (.iconst 0, 1) := by decide +kernel
theorem dX1_framesFrom_3 : decode cX1_framesFrom 3 = .ok (.iload_n 1, 1) := by decide +kernel
theorem dX1_framesFrom_4 : decode cX1_framesFrom 4 = .ok (.invokestatic 30, 3) := by decide +kernel
theorem dX1_framesFrom_7 : decode cX1_framesFrom 7 = .ok (.istore 4, 2) := by decide +kernel
theorem dX1_framesFrom_9 : decode cX1_framesFrom 9 = .ok (.iload 4, 2) := by decide +kernel
theorem dX1_framesFrom_11 : decode cX1_framesFrom 11 = .ok (.iload_n 2, 1) := by decide +kernel
theorem dX1_framesFrom_12 : decode cX1_framesFrom 12 = .ok (.if_icmp .gt 28, 3) := by decide +kernel
theorem dX1_framesFrom_15 : decode cX1_framesFrom 15 = .ok (.iload 4, 2) := by decide +kernel
theorem dX1_framesFrom_17 : decode cX1_framesFrom 17 = .ok (.aload_n 0, 1) := by decide +kernel
theorem dX1_framesFrom_18 : decode cX1_framesFrom 18 = .ok (.getfield 22, 3) := by decide +kernel
theorem dX1_framesFrom_21 : decode cX1_framesFrom 21 = .ok (.if_icmp .ge 19, 3) := by decide +kernel
theorem dX1_framesFrom_24 : decode cX1_framesFrom 24 = .ok (.iload_n 3, 1) := by decide +kernel
theorem dX1_framesFrom_25 : decode cX1_framesFrom 25 = .ok (.aload_n 0, 1) := by decide +kernel
theorem dX1_framesFrom_26 : decode cX1_framesFrom 26 = .ok (.getfield 9, 3) := by decide +kernel
theorem dX1_framesFrom_29 : decode cX1_framesFrom 29 = .ok (.iload 4, 2) := by decide +kernel
theorem dX1_framesFrom_31 : decode cX1_framesFrom 31 = .ok (.iaload, 1) := by decide +kernel
theorem dX1_framesFrom_32 : decode cX1_framesFrom 32 = .ok (.iadd, 1) := by decide +kernel
theorem dX1_framesFrom_33 : decode cX1_framesFrom 33 = .ok (.istore_n 3, 1) := by decide +kernel
theorem dX1_framesFrom_34 : decode cX1_framesFrom 34 = .ok (.iinc 4 1, 3) := by decide +kernel
theorem dX1_framesFrom_37 : decode cX1_framesFrom 37 = .ok (.goto (-28), 3) := by decide +kernel
theorem dX1_framesFrom_40 : decode cX1_framesFrom 40 = .ok (.iload_n 3, 1) := by decide +kernel
theorem dX1_framesFrom_41 : decode cX1_framesFrom 41 = .ok (.ireturn, 1) := by decide +kernel
theorem dX1_tenthsFrom_0 : decode cX1_tenthsFrom 0 = .ok (.aload_n 0, 1) := by decide +kernel
theorem dX1_tenthsFrom_1 : decode cX1_tenthsFrom 1 = .ok (.iload_n 1, 1) := by decide +kernel
theorem dX1_tenthsFrom_2 : decode cX1_tenthsFrom 2 = .ok (.iload_n 2, 1) := by decide +kernel
theorem dX1_tenthsFrom_3 : decode cX1_tenthsFrom 3 = .ok (.invokevirtual 36, 3) := by decide +kernel
theorem dX1_tenthsFrom_6 : decode cX1_tenthsFrom 6 = .ok (.bipush 10, 2) := by decide +kernel
theorem dX1_tenthsFrom_8 : decode cX1_tenthsFrom 8 = .ok (.imul, 1) := by decide +kernel
theorem dX1_tenthsFrom_9 : decode cX1_tenthsFrom 9 = .ok (.iconst 1, 1) := by decide +kernel
theorem dX1_tenthsFrom_10 : decode cX1_tenthsFrom 10 = .ok (.iload_n 3, 1) := by decide +kernel
theorem dX1_tenthsFrom_11 : decode cX1_tenthsFrom 11 = .ok (.invokestatic 30, 3) := by decide +kernel
theorem dX1_tenthsFrom_14 : decode cX1_tenthsFrom 14 = .ok (.idiv, 1) := by decide +kernel
theorem dX1_tenthsFrom_15 : decode cX1_tenthsFrom 15 = .ok (.ireturn, 1) := by decide +kernel
theorem dX1_moodOf_0 : decode cX1_moodOf 0 = .ok (.iload_n 1, 1) := by decide +kernel
theorem dX1_moodOf_1 : decode cX1_moodOf 1 = .ok (.iconst 0, 1) := by decide +kernel
theorem dX1_moodOf_2 : decode cX1_moodOf 2 = .ok (.aload_n 0, 1) := by decide +kernel
theorem dX1_moodOf_3 : decode cX1_moodOf 3 = .ok (.getfield 22, 3) := by decide +kernel
theorem dX1_moodOf_6 : decode cX1_moodOf 6 = .ok (.iconst 1, 1) := by decide +kernel
theorem dX1_moodOf_7 : decode cX1_moodOf 7 = .ok (.isub, 1) := by decide +kernel
theorem dX1_moodOf_8 : decode cX1_moodOf 8 = .ok (.invokestatic 26, 3) := by decide +kernel
theorem dX1_moodOf_11 : decode cX1_moodOf 11 = .ok (.ifCond .eq 12, 3) := by decide +kernel
theorem dX1_moodOf_14 : decode cX1_moodOf 14 = .ok (.aload_n 0, 1) := by decide +kernel
theorem dX1_moodOf_15 : decode cX1_moodOf 15 = .ok (.getfield 15, 3) := by decide +kernel
theorem dX1_moodOf_18 : decode cX1_moodOf 18 = .ok (.iload_n 1, 1) := by decide +kernel
theorem dX1_moodOf_19 : decode cX1_moodOf 19 = .ok (.iaload, 1) := by decide +kernel
theorem dX1_moodOf_20 : decode cX1_moodOf 20 = .ok (.goto 4, 3) := by decide +kernel
theorem dX1_moodOf_23 : decode cX1_moodOf 23 = .ok (.iconst (-1), 1) := by decide +kernel
theorem dX1_moodOf_24 : decode cX1_moodOf 24 = .ok (.ireturn, 1) := by decide +kernel
theorem dX2_init_0 : decode cX2_init 0 = .ok (.aload_n 0, 1) := by decide +kernel
theorem dX2_init_1 : decode cX2_init 1 = .ok (.invokespecial 3, 3) := by decide +kernel
theorem dX2_init_4 : decode cX2_init 4 = .ok (.aload_n 0, 1) := by decide +kernel
theorem dX2_init_5 : decode cX2_init 5 = .ok (.bipush 8, 2) := by decide +kernel
theorem dX2_init_7 : decode cX2_init 7 = .ok (.newarray .int, 2) := by decide +kernel
theorem dX2_init_9 : decode cX2_init 9 = .ok (.putfield 9, 3) := by decide +kernel
theorem dX2_init_12 : decode cX2_init 12 = .ok (.aload_n 0, 1) := by decide +kernel
theorem dX2_init_13 : decode cX2_init 13 = .ok (.aload_n 1, 1) := by decide +kernel
theorem dX2_init_14 : decode cX2_init 14 = .ok (.putfield 15, 3) := by decide +kernel
theorem dX2_init_17 : decode cX2_init 17 = .ok (.aload_n 0, 1) := by decide +kernel
theorem dX2_init_18 : decode cX2_init 18 = .ok (.aload_n 2, 1) := by decide +kernel
theorem dX2_init_19 : decode cX2_init 19 = .ok (.invokevirtual 19, 3) := by decide +kernel
theorem dX2_init_22 : decode cX2_init 22 = .ok (.return_, 1) := by decide +kernel
theorem dX2_enter_0 : decode cX2_enter 0 = .ok (.aload_n 0, 1) := by decide +kernel
theorem dX2_enter_1 : decode cX2_enter 1 = .ok (.aload_n 1, 1) := by decide +kernel
theorem dX2_enter_2 : decode cX2_enter 2 = .ok (.putfield 23, 3) := by decide +kernel
theorem dX2_enter_5 : decode cX2_enter 5 = .ok (.aload_n 0, 1) := by decide +kernel
theorem dX2_enter_6 : decode cX2_enter 6 = .ok (.getfield 23, 3) := by decide +kernel
theorem dX2_enter_9 : decode cX2_enter 9 = .ok (.getfield 27, 3) := by decide +kernel
theorem dX2_enter_12 : decode cX2_enter 12 = .ok (.dup, 1) := by decide +kernel
theorem dX2_enter_13 : decode cX2_enter 13 = .ok (.getfield 33, 3) := by decide +kernel
theorem dX2_enter_16 : decode cX2_enter 16 = .ok (.iconst 1, 1) := by decide +kernel
theorem dX2_enter_17 : decode cX2_enter 17 = .ok (.iadd, 1) := by decide +kernel
theorem dX2_enter_18 : decode cX2_enter 18 = .ok (.putfield 33, 3) := by decide +kernel
theorem dX2_enter_21 : decode cX2_enter 21 = .ok (.aload_n 0, 1) := by decide +kernel
theorem dX2_enter_22 : decode cX2_enter 22 = .ok (.aload_n 0, 1) := by decide +kernel
theorem dX2_enter_23 : decode cX2_enter 23 = .ok (.getfield 39, 3) := by decide +kernel
theorem dX2_enter_26 : decode cX2_enter 26 = .ok (.putfield 42, 3) := by decide +kernel
theorem dX2_enter_29 : decode cX2_enter 29 = .ok (.aload_n 0, 1) := by decide +kernel
theorem dX2_enter_30 : decode cX2_enter 30 = .ok (.iconst 0, 1) := by decide +kernel
theorem dX2_enter_31 : decode cX2_enter 31 = .ok (.putfield 45, 3) := by decide +kernel
theorem dX2_enter_34 : decode cX2_enter 34 = .ok (.aload_n 0, 1) := by decide +kernel
theorem dX2_enter_35 : decode cX2_enter 35 = .ok (.aload_n 0, 1) := by decide +kernel
theorem dX2_enter_36 : decode cX2_enter 36 = .ok (.getfield 23, 3) := by decide +kernel
theorem dX2_enter_39 : decode cX2_enter 39 = .ok (.iconst 0, 1) := by decide +kernel
theorem dX2_enter_40 : decode cX2_enter 40 = .ok (.invokevirtual 48, 3) := by decide +kernel
theorem dX2_enter_43 : decode cX2_enter 43 = .ok (.putfield 52, 3) := by decide +kernel
theorem dX2_enter_46 : decode cX2_enter 46 = .ok (.return_, 1) := by decide +kernel
theorem dX2_hasEnded_0 : decode cX2_hasEnded 0 = .ok (.aload_n 0, 1) := by decide +kernel
theorem dX2_hasEnded_1 : decode cX2_hasEnded 1 = .ok (.getfield 55, 3) := by decide +kernel
theorem dX2_hasEnded_4 : decode cX2_hasEnded 4 = .ok (.ireturn, 1) := by decide +kernel
theorem dX2_run_0 : decode cX2_run 0 = .ok (.iconst 0, 1) := by decide +kernel
theorem dX2_run_1 : decode cX2_run 1 = .ok (.istore_n 2, 1) := by decide +kernel
theorem dX2_run_2 : decode cX2_run 2 = .ok (.iload_n 2, 1) := by decide +kernel
theorem dX2_run_3 : decode cX2_run 3 = .ok (.iload_n 1, 1) := by decide +kernel
theorem dX2_run_4 : decode cX2_run 4 = .ok (.if_icmp .ge 20, 3) := by decide +kernel
theorem dX2_run_7 : decode cX2_run 7 = .ok (.aload_n 0, 1) := by decide +kernel
theorem dX2_run_8 : decode cX2_run 8 = .ok (.getfield 55, 3) := by decide +kernel
theorem dX2_run_11 : decode cX2_run 11 = .ok (.ifCond .ne 13, 3) := by decide +kernel
theorem dX2_run_14 : decode cX2_run 14 = .ok (.aload_n 0, 1) := by decide +kernel
theorem dX2_run_15 : decode cX2_run 15 = .ok (.invokevirtual 59, 3) := by decide +kernel
theorem dX2_run_18 : decode cX2_run 18 = .ok (.iinc 2 1, 3) := by decide +kernel
theorem dX2_run_21 : decode cX2_run 21 = .ok (.goto (-19), 3) := by decide +kernel
theorem dX2_run_24 : decode cX2_run 24 = .ok (.aload_n 0, 1) := by decide +kernel
theorem dX2_run_25 : decode cX2_run 25 = .ok (.getfield 39, 3) := by decide +kernel
theorem dX2_run_28 : decode cX2_run 28 = .ok (.ireturn, 1) := by decide +kernel
theorem dX2_tick_0 : decode cX2_tick 0 = .ok (.aload_n 0, 1) := by decide +kernel
theorem dX2_tick_1 : decode cX2_tick 1 = .ok (.dup, 1) := by decide +kernel
theorem dX2_tick_2 : decode cX2_tick 2 = .ok (.getfield 39, 3) := by decide +kernel
theorem dX2_tick_5 : decode cX2_tick 5 = .ok (.iconst 1, 1) := by decide +kernel
theorem dX2_tick_6 : decode cX2_tick 6 = .ok (.iadd, 1) := by decide +kernel
theorem dX2_tick_7 : decode cX2_tick 7 = .ok (.putfield 39, 3) := by decide +kernel
theorem dX2_tick_10 : decode cX2_tick 10 = .ok (.iconst 0, 1) := by decide +kernel
theorem dX2_tick_11 : decode cX2_tick 11 = .ok (.istore_n 1, 1) := by decide +kernel
theorem dX2_tick_12 : decode cX2_tick 12 = .ok (.iload_n 1, 1) := by decide +kernel
theorem dX2_tick_13 : decode cX2_tick 13 = .ok (.bipush 64, 2) := by decide +kernel
theorem dX2_tick_15 : decode cX2_tick 15 = .ok (.if_icmp .ge 31, 3) := by decide +kernel
theorem dX2_tick_18 : decode cX2_tick 18 = .ok (.aload_n 0, 1) := by decide +kernel
theorem dX2_tick_19 : decode cX2_tick 19 = .ok (.getfield 55, 3) := by decide +kernel
theorem dX2_tick_22 : decode cX2_tick 22 = .ok (.ifCond .ne 24, 3) := by decide +kernel
theorem dX2_tick_25 : decode cX2_tick 25 = .ok (.aload_n 0, 1) := by decide +kernel
theorem dX2_tick_26 : decode cX2_tick 26 = .ok (.invokevirtual 62, 3) := by decide +kernel
theorem dX2_tick_29 : decode cX2_tick 29 = .ok (.aload_n 0, 1) := by decide +kernel
theorem dX2_tick_30 : decode cX2_tick 30 = .ok (.getfield 52, 3) := by decide +kernel
theorem dX2_tick_33 : decode cX2_tick 33 = .ok (.if_icmp .lt 13, 3) := by decide +kernel
theorem dX2_tick_36 : decode cX2_tick 36 = .ok (.aload_n 0, 1) := by decide +kernel
theorem dX2_tick_37 : decode cX2_tick 37 = .ok (.invokevirtual 66, 3) := by decide +kernel
theorem dX2_tick_40 : decode cX2_tick 40 = .ok (.iinc 1 1, 3) := by decide +kernel
theorem dX2_tick_43 : decode cX2_tick 43 = .ok (.goto (-31), 3) := by decide +kernel
theorem dX2_tick_46 : decode cX2_tick 46 = .ok (.return_, 1) := by decide +kernel
theorem dX2_beatsDone_0 : decode cX2_beatsDone 0 = .ok (.aload_n 0, 1) := by decide +kernel
theorem dX2_beatsDone_1 : decode cX2_beatsDone 1 = .ok (.getfield 23, 3) := by decide +kernel
theorem dX2_beatsDone_4 : decode cX2_beatsDone 4 = .ok (.aload_n 0, 1) := by decide +kernel
theorem dX2_beatsDone_5 : decode cX2_beatsDone 5 = .ok (.getfield 39, 3) := by decide +kernel
theorem dX2_beatsDone_8 : decode cX2_beatsDone 8 = .ok (.aload_n 0, 1) := by decide +kernel
theorem dX2_beatsDone_9 : decode cX2_beatsDone 9 = .ok (.getfield 42, 3) := by decide +kernel
theorem dX2_beatsDone_12 : decode cX2_beatsDone 12 = .ok (.isub, 1) := by decide +kernel
theorem dX2_beatsDone_13 : decode cX2_beatsDone 13 = .ok (.invokevirtual 69, 3) := by decide +kernel
theorem dX2_beatsDone_16 : decode cX2_beatsDone 16 = .ok (.ireturn, 1) := by decide +kernel
theorem dX2_turn_0 : decode cX2_turn 0 = .ok (.aload_n 0, 1) := by decide +kernel
theorem dX2_turn_1 : decode cX2_turn 1 = .ok (.getfield 72, 3) := by decide +kernel
theorem dX2_turn_4 : decode cX2_turn 4 = .ok (.aload_n 0, 1) := by decide +kernel
theorem dX2_turn_5 : decode cX2_turn 5 = .ok (.getfield 75, 3) := by decide +kernel
theorem dX2_turn_8 : decode cX2_turn 8 = .ok (.if_icmp .le 24, 3) := by decide +kernel
theorem dX2_turn_11 : decode cX2_turn 11 = .ok (.aload_n 0, 1) := by decide +kernel
theorem dX2_turn_12 : decode cX2_turn 12 = .ok (.getfield 23, 3) := by decide +kernel
theorem dX2_turn_15 : decode cX2_turn 15 = .ok (.aload_n 0, 1) := by decide +kernel
theorem dX2_turn_16 : decode cX2_turn 16 = .ok (.getfield 45, 3) := by decide +kernel
theorem dX2_turn_19 : decode cX2_turn 19 = .ok (.invokevirtual 78, 3) := by decide +kernel
theorem dX2_turn_22 : decode cX2_turn 22 = .ok (.ifCond .eq 10, 3) := by decide +kernel
theorem dX2_turn_25 : decode cX2_turn 25 = .ok (.aload_n 0, 1) := by decide +kernel
theorem dX2_turn_26 : decode cX2_turn 26 = .ok (.invokevirtual 82, 3) := by decide +kernel
theorem dX2_turn_29 : decode cX2_turn 29 = .ok (.goto 106, 3) := by decide +kernel
theorem dX2_turn_32 : decode cX2_turn 32 = .ok (.aload_n 0, 1) := by decide +kernel
theorem dX2_turn_33 : decode cX2_turn 33 = .ok (.getfield 23, 3) := by decide +kernel
theorem dX2_turn_36 : decode cX2_turn 36 = .ok (.aload_n 0, 1) := by decide +kernel
theorem dX2_turn_37 : decode cX2_turn 37 = .ok (.getfield 45, 3) := by decide +kernel
theorem dX2_turn_40 : decode cX2_turn 40 = .ok (.iconst 1, 1) := by decide +kernel
theorem dX2_turn_41 : decode cX2_turn 41 = .ok (.iadd, 1) := by decide +kernel
theorem dX2_turn_42 : decode cX2_turn 42 = .ok (.invokevirtual 85, 3) := by decide +kernel
theorem dX2_turn_45 : decode cX2_turn 45 = .ok (.ifCond .eq 36, 3) := by decide +kernel
theorem dX2_turn_48 : decode cX2_turn 48 = .ok (.aload_n 0, 1) := by decide +kernel
theorem dX2_turn_49 : decode cX2_turn 49 = .ok (.dup, 1) := by decide +kernel
theorem dX2_turn_50 : decode cX2_turn 50 = .ok (.getfield 45, 3) := by decide +kernel
theorem dX2_turn_53 : decode cX2_turn 53 = .ok (.iconst 1, 1) := by decide +kernel
theorem dX2_turn_54 : decode cX2_turn 54 = .ok (.iadd, 1) := by decide +kernel
theorem dX2_turn_55 : decode cX2_turn 55 = .ok (.putfield 45, 3) := by decide +kernel
theorem dX2_turn_58 : decode cX2_turn 58 = .ok (.aload_n 0, 1) := by decide +kernel
theorem dX2_turn_59 : decode cX2_turn 59 = .ok (.dup, 1) := by decide +kernel
theorem dX2_turn_60 : decode cX2_turn 60 = .ok (.getfield 52, 3) := by decide +kernel
theorem dX2_turn_63 : decode cX2_turn 63 = .ok (.aload_n 0, 1) := by decide +kernel
theorem dX2_turn_64 : decode cX2_turn 64 = .ok (.getfield 23, 3) := by decide +kernel
theorem dX2_turn_67 : decode cX2_turn 67 = .ok (.aload_n 0, 1) := by decide +kernel
theorem dX2_turn_68 : decode cX2_turn 68 = .ok (.getfield 45, 3) := by decide +kernel
theorem dX2_turn_71 : decode cX2_turn 71 = .ok (.invokevirtual 48, 3) := by decide +kernel
theorem dX2_turn_74 : decode cX2_turn 74 = .ok (.iadd, 1) := by decide +kernel
theorem dX2_turn_75 : decode cX2_turn 75 = .ok (.putfield 52, 3) := by decide +kernel
theorem dX2_turn_78 : decode cX2_turn 78 = .ok (.goto 57, 3) := by decide +kernel
theorem dX2_turn_81 : decode cX2_turn 81 = .ok (.aload_n 0, 1) := by decide +kernel
theorem dX2_turn_82 : decode cX2_turn 82 = .ok (.getfield 75, 3) := by decide +kernel
theorem dX2_turn_85 : decode cX2_turn 85 = .ok (.iconst 1, 1) := by decide +kernel
theorem dX2_turn_86 : decode cX2_turn 86 = .ok (.iadd, 1) := by decide +kernel
theorem dX2_turn_87 : decode cX2_turn 87 = .ok (.aload_n 0, 1) := by decide +kernel
theorem dX2_turn_88 : decode cX2_turn 88 = .ok (.getfield 15, 3) := by decide +kernel
theorem dX2_turn_91 : decode cX2_turn 91 = .ok (.invokevirtual 88, 3) := by decide +kernel
theorem dX2_turn_94 : decode cX2_turn 94 = .ok (.if_icmp .lt 11, 3) := by decide +kernel
theorem dX2_turn_97 : decode cX2_turn 97 = .ok (.aload_n 0, 1) := by decide +kernel
theorem dX2_turn_98 : decode cX2_turn 98 = .ok (.iconst 1, 1) := by decide +kernel
theorem dX2_turn_99 : decode cX2_turn 99 = .ok (.putfield 55, 3) := by decide +kernel
theorem dX2_turn_102 : decode cX2_turn 102 = .ok (.goto 33, 3) := by decide +kernel
theorem dX2_turn_105 : decode cX2_turn 105 = .ok (.aload_n 0, 1) := by decide +kernel
theorem dX2_turn_106 : decode cX2_turn 106 = .ok (.dup, 1) := by decide +kernel
theorem dX2_turn_107 : decode cX2_turn 107 = .ok (.getfield 93, 3) := by decide +kernel
theorem dX2_turn_110 : decode cX2_turn 110 = .ok (.iconst 1, 1) := by decide +kernel
theorem dX2_turn_111 : decode cX2_turn 111 = .ok (.iadd, 1) := by decide +kernel
theorem dX2_turn_112 : decode cX2_turn 112 = .ok (.putfield 93, 3) := by decide +kernel
theorem dX2_turn_115 : decode cX2_turn 115 = .ok (.aload_n 0, 1) := by decide +kernel
theorem dX2_turn_116 : decode cX2_turn 116 = .ok (.dup, 1) := by decide +kernel
theorem dX2_turn_117 : decode cX2_turn 117 = .ok (.getfield 52, 3) := by decide +kernel
theorem dX2_turn_120 : decode cX2_turn 120 = .ok (.aload_n 0, 1) := by decide +kernel
theorem dX2_turn_121 : decode cX2_turn 121 = .ok (.getfield 23, 3) := by decide +kernel
theorem dX2_turn_124 : decode cX2_turn 124 = .ok (.aload_n 0, 1) := by decide +kernel
theorem dX2_turn_125 : decode cX2_turn 125 = .ok (.getfield 45, 3) := by decide +kernel
theorem dX2_turn_128 : decode cX2_turn 128 = .ok (.invokevirtual 48, 3) := by decide +kernel
theorem dX2_turn_131 : decode cX2_turn 131 = .ok (.iadd, 1) := by decide +kernel
theorem dX2_turn_132 : decode cX2_turn 132 = .ok (.putfield 52, 3) := by decide +kernel
theorem dX2_turn_135 : decode cX2_turn 135 = .ok (.return_, 1) := by decide +kernel
theorem dX2_takeCue_0 : decode cX2_takeCue 0 = .ok (.aload_n 0, 1) := by decide +kernel
theorem dX2_takeCue_1 : decode cX2_takeCue 1 = .ok (.getfield 75, 3) := by decide +kernel
theorem dX2_takeCue_4 : decode cX2_takeCue 4 = .ok (.iconst 1, 1) := by decide +kernel
theorem dX2_takeCue_5 : decode cX2_takeCue 5 = .ok (.iadd, 1) := by decide +kernel
theorem dX2_takeCue_6 : decode cX2_takeCue 6 = .ok (.istore_n 1, 1) := by decide +kernel
theorem dX2_takeCue_7 : decode cX2_takeCue 7 = .ok (.iload_n 1, 1) := by decide +kernel
theorem dX2_takeCue_8 : decode cX2_takeCue 8 = .ok (.aload_n 0, 1) := by decide +kernel
theorem dX2_takeCue_9 : decode cX2_takeCue 9 = .ok (.getfield 15, 3) := by decide +kernel
theorem dX2_takeCue_12 : decode cX2_takeCue 12 = .ok (.invokevirtual 88, 3) := by decide +kernel
theorem dX2_takeCue_15 : decode cX2_takeCue 15 = .ok (.if_icmp .ge 12, 3) := by decide +kernel
theorem dX2_takeCue_18 : decode cX2_takeCue 18 = .ok (.iload_n 1, 1) := by decide +kernel
theorem dX2_takeCue_19 : decode cX2_takeCue 19 = .ok (.aload_n 0, 1) := by decide +kernel
theorem dX2_takeCue_20 : decode cX2_takeCue 20 = .ok (.getfield 9, 3) := by decide +kernel
theorem dX2_takeCue_23 : decode cX2_takeCue 23 = .ok (.arraylength, 1) := by decide +kernel
theorem dX2_takeCue_24 : decode cX2_takeCue 24 = .ok (.if_icmp .lt 4, 3) := by decide +kernel
theorem dX2_takeCue_27 : decode cX2_takeCue 27 = .ok (.return_, 1) := by decide +kernel
theorem dX2_takeCue_28 : decode cX2_takeCue 28 = .ok (.aload_n 0, 1) := by decide +kernel
theorem dX2_takeCue_29 : decode cX2_takeCue 29 = .ok (.iload_n 1, 1) := by decide +kernel
theorem dX2_takeCue_30 : decode cX2_takeCue 30 = .ok (.putfield 75, 3) := by decide +kernel
theorem dX2_takeCue_33 : decode cX2_takeCue 33 = .ok (.aload_n 0, 1) := by decide +kernel
theorem dX2_takeCue_34 : decode cX2_takeCue 34 = .ok (.dup, 1) := by decide +kernel
theorem dX2_takeCue_35 : decode cX2_takeCue 35 = .ok (.getfield 96, 3) := by decide +kernel
theorem dX2_takeCue_38 : decode cX2_takeCue 38 = .ok (.aload_n 0, 1) := by decide +kernel
theorem dX2_takeCue_39 : decode cX2_takeCue 39 = .ok (.getfield 39, 3) := by decide +kernel
theorem dX2_takeCue_42 : decode cX2_takeCue 42 = .ok (.aload_n 0, 1) := by decide +kernel
theorem dX2_takeCue_43 : decode cX2_takeCue 43 = .ok (.getfield 9, 3) := by decide +kernel
theorem dX2_takeCue_46 : decode cX2_takeCue 46 = .ok (.iload_n 1, 1) := by decide +kernel
theorem dX2_takeCue_47 : decode cX2_takeCue 47 = .ok (.iaload, 1) := by decide +kernel
theorem dX2_takeCue_48 : decode cX2_takeCue 48 = .ok (.isub, 1) := by decide +kernel
theorem dX2_takeCue_49 : decode cX2_takeCue 49 = .ok (.iadd, 1) := by decide +kernel
theorem dX2_takeCue_50 : decode cX2_takeCue 50 = .ok (.putfield 96, 3) := by decide +kernel
theorem dX2_takeCue_53 : decode cX2_takeCue 53 = .ok (.aload_n 0, 1) := by decide +kernel
theorem dX2_takeCue_54 : decode cX2_takeCue 54 = .ok (.aload_n 0, 1) := by decide +kernel
theorem dX2_takeCue_55 : decode cX2_takeCue 55 = .ok (.getfield 15, 3) := by decide +kernel
theorem dX2_takeCue_58 : decode cX2_takeCue 58 = .ok (.iload_n 1, 1) := by decide +kernel
theorem dX2_takeCue_59 : decode cX2_takeCue 59 = .ok (.invokevirtual 99, 3) := by decide +kernel
theorem dX2_takeCue_62 : decode cX2_takeCue 62 = .ok (.checkcast 28, 3) := by decide +kernel
theorem dX2_takeCue_65 : decode cX2_takeCue 65 = .ok (.invokevirtual 19, 3) := by decide +kernel
theorem dX2_takeCue_68 : decode cX2_takeCue 68 = .ok (.return_, 1) := by decide +kernel
theorem dX2_seeCue_0 : decode cX2_seeCue 0 = .ok (.aload_n 0, 1) := by decide +kernel
theorem dX2_seeCue_1 : decode cX2_seeCue 1 = .ok (.getfield 72, 3) := by decide +kernel
theorem dX2_seeCue_4 : decode cX2_seeCue 4 = .ok (.iconst 1, 1) := by decide +kernel
theorem dX2_seeCue_5 : decode cX2_seeCue 5 = .ok (.iadd, 1) := by decide +kernel
theorem dX2_seeCue_6 : decode cX2_seeCue 6 = .ok (.istore_n 1, 1) := by decide +kernel
theorem dX2_seeCue_7 : decode cX2_seeCue 7 = .ok (.aload_n 0, 1) := by decide +kernel
theorem dX2_seeCue_8 : decode cX2_seeCue 8 = .ok (.getfield 55, 3) := by decide +kernel
theorem dX2_seeCue_11 : decode cX2_seeCue 11 = .ok (.ifCond .ne 30, 3) := by decide +kernel
theorem dX2_seeCue_14 : decode cX2_seeCue 14 = .ok (.aload_n 0, 1) := by decide +kernel
theorem dX2_seeCue_15 : decode cX2_seeCue 15 = .ok (.getfield 103, 3) := by decide +kernel
theorem dX2_seeCue_18 : decode cX2_seeCue 18 = .ok (.ifCond .ne 23, 3) := by decide +kernel
theorem dX2_seeCue_21 : decode cX2_seeCue 21 = .ok (.iload_n 1, 1) := by decide +kernel
theorem dX2_seeCue_22 : decode cX2_seeCue 22 = .ok (.aload_n 0, 1) := by decide +kernel
theorem dX2_seeCue_23 : decode cX2_seeCue 23 = .ok (.getfield 15, 3) := by decide +kernel
theorem dX2_seeCue_26 : decode cX2_seeCue 26 = .ok (.invokevirtual 88, 3) := by decide +kernel
theorem dX2_seeCue_29 : decode cX2_seeCue 29 = .ok (.if_icmp .ge 12, 3) := by decide +kernel
theorem dX2_seeCue_32 : decode cX2_seeCue 32 = .ok (.iload_n 1, 1) := by decide +kernel
theorem dX2_seeCue_33 : decode cX2_seeCue 33 = .ok (.aload_n 0, 1) := by decide +kernel
theorem dX2_seeCue_34 : decode cX2_seeCue 34 = .ok (.getfield 9, 3) := by decide +kernel
theorem dX2_seeCue_37 : decode cX2_seeCue 37 = .ok (.arraylength, 1) := by decide +kernel
theorem dX2_seeCue_38 : decode cX2_seeCue 38 = .ok (.if_icmp .lt 6, 3) := by decide +kernel
theorem dX2_seeCue_41 : decode cX2_seeCue 41 = .ok (.bipush (-2), 2) := by decide +kernel
theorem dX2_seeCue_43 : decode cX2_seeCue 43 = .ok (.ireturn, 1) := by decide +kernel
theorem dX2_seeCue_44 : decode cX2_seeCue 44 = .ok (.aload_n 0, 1) := by decide +kernel
theorem dX2_seeCue_45 : decode cX2_seeCue 45 = .ok (.getfield 9, 3) := by decide +kernel
theorem dX2_seeCue_48 : decode cX2_seeCue 48 = .ok (.iload_n 1, 1) := by decide +kernel
theorem dX2_seeCue_49 : decode cX2_seeCue 49 = .ok (.aload_n 0, 1) := by decide +kernel
theorem dX2_seeCue_50 : decode cX2_seeCue 50 = .ok (.getfield 39, 3) := by decide +kernel
theorem dX2_seeCue_53 : decode cX2_seeCue 53 = .ok (.iastore, 1) := by decide +kernel
theorem dX2_seeCue_54 : decode cX2_seeCue 54 = .ok (.aload_n 0, 1) := by decide +kernel
theorem dX2_seeCue_55 : decode cX2_seeCue 55 = .ok (.iload_n 1, 1) := by decide +kernel
theorem dX2_seeCue_56 : decode cX2_seeCue 56 = .ok (.putfield 72, 3) := by decide +kernel
theorem dX2_seeCue_59 : decode cX2_seeCue 59 = .ok (.iload_n 1, 1) := by decide +kernel
theorem dX2_seeCue_60 : decode cX2_seeCue 60 = .ok (.ireturn, 1) := by decide +kernel
theorem dX2_breakReel_0 : decode cX2_breakReel 0 = .ok (.aload_n 0, 1) := by decide +kernel
theorem dX2_breakReel_1 : decode cX2_breakReel 1 = .ok (.getfield 103, 3) := by decide +kernel
theorem dX2_breakReel_4 : decode cX2_breakReel 4 = .ok (.ifCond .eq 7, 3) := by decide +kernel
theorem dX2_breakReel_7 : decode cX2_breakReel 7 = .ok (.iconst 1, 1) := by decide +kernel
theorem dX2_breakReel_8 : decode cX2_breakReel 8 = .ok (.goto 4, 3) := by decide +kernel
theorem dX2_breakReel_11 : decode cX2_breakReel 11 = .ok (.iconst 0, 1) := by decide +kernel
theorem dX2_breakReel_12 : decode cX2_breakReel 12 = .ok (.istore_n 2, 1) := by decide +kernel
theorem dX2_breakReel_13 : decode cX2_breakReel 13 = .ok (.aload_n 0, 1) := by decide +kernel
theorem dX2_breakReel_14 : decode cX2_breakReel 14 = .ok (.iload_n 1, 1) := by decide +kernel
theorem dX2_breakReel_15 : decode cX2_breakReel 15 = .ok (.iconst 1, 1) := by decide +kernel
theorem dX2_breakReel_16 : decode cX2_breakReel 16 = .ok (.if_icmp .ne 7, 3) := by decide +kernel
theorem dX2_breakReel_19 : decode cX2_breakReel 19 = .ok (.iconst 1, 1) := by decide +kernel
theorem dX2_breakReel_20 : decode cX2_breakReel 20 = .ok (.goto 4, 3) := by decide +kernel
theorem dX2_breakReel_23 : decode cX2_breakReel 23 = .ok (.iconst 0, 1) := by decide +kernel
theorem dX2_breakReel_24 : decode cX2_breakReel 24 = .ok (.putfield 103, 3) := by decide +kernel
theorem dX2_breakReel_27 : decode cX2_breakReel 27 = .ok (.iload_n 2, 1) := by decide +kernel
theorem dX2_breakReel_28 : decode cX2_breakReel 28 = .ok (.ireturn, 1) := by decide +kernel
theorem dX2_tell_0 : decode cX2_tell 0 = .ok (.iload_n 1, 1) := by decide +kernel
theorem dX2_tell_1 : decode cX2_tell 1 = .ok (.tableswitch 114 0 8 #[51, 56, 68, 76, 81, 86, 91, 104, 109], 51) := by decide +kernel
theorem dX2_tell_52 : decode cX2_tell 52 = .ok (.aload_n 0, 1) := by decide +kernel
theorem dX2_tell_53 : decode cX2_tell 53 = .ok (.getfield 75, 3) := by decide +kernel
theorem dX2_tell_56 : decode cX2_tell 56 = .ok (.ireturn, 1) := by decide +kernel
theorem dX2_tell_57 : decode cX2_tell 57 = .ok (.aload_n 0, 1) := by decide +kernel
theorem dX2_tell_58 : decode cX2_tell 58 = .ok (.getfield 23, 3) := by decide +kernel
theorem dX2_tell_61 : decode cX2_tell 61 = .ok (.aload_n 0, 1) := by decide +kernel
theorem dX2_tell_62 : decode cX2_tell 62 = .ok (.getfield 45, 3) := by decide +kernel
theorem dX2_tell_65 : decode cX2_tell 65 = .ok (.invokevirtual 106, 3) := by decide +kernel
theorem dX2_tell_68 : decode cX2_tell 68 = .ok (.ireturn, 1) := by decide +kernel
theorem dX2_tell_69 : decode cX2_tell 69 = .ok (.aload_n 0, 1) := by decide +kernel
theorem dX2_tell_70 : decode cX2_tell 70 = .ok (.getfield 23, 3) := by decide +kernel
theorem dX2_tell_73 : decode cX2_tell 73 = .ok (.getfield 109, 3) := by decide +kernel
theorem dX2_tell_76 : decode cX2_tell 76 = .ok (.ireturn, 1) := by decide +kernel
theorem dX2_tell_77 : decode cX2_tell 77 = .ok (.aload_n 0, 1) := by decide +kernel
theorem dX2_tell_78 : decode cX2_tell 78 = .ok (.getfield 93, 3) := by decide +kernel
theorem dX2_tell_81 : decode cX2_tell 81 = .ok (.ireturn, 1) := by decide +kernel
theorem dX2_tell_82 : decode cX2_tell 82 = .ok (.aload_n 0, 1) := by decide +kernel
theorem dX2_tell_83 : decode cX2_tell 83 = .ok (.getfield 96, 3) := by decide +kernel
theorem dX2_tell_86 : decode cX2_tell 86 = .ok (.ireturn, 1) := by decide +kernel
theorem dX2_tell_87 : decode cX2_tell 87 = .ok (.aload_n 0, 1) := by decide +kernel
theorem dX2_tell_88 : decode cX2_tell 88 = .ok (.getfield 39, 3) := by decide +kernel
theorem dX2_tell_91 : decode cX2_tell 91 = .ok (.ireturn, 1) := by decide +kernel
theorem dX2_tell_92 : decode cX2_tell 92 = .ok (.aload_n 0, 1) := by decide +kernel
theorem dX2_tell_93 : decode cX2_tell 93 = .ok (.getfield 55, 3) := by decide +kernel
theorem dX2_tell_96 : decode cX2_tell 96 = .ok (.ifCond .eq 7, 3) := by decide +kernel
theorem dX2_tell_99 : decode cX2_tell 99 = .ok (.iconst 1, 1) := by decide +kernel
theorem dX2_tell_100 : decode cX2_tell 100 = .ok (.goto 4, 3) := by decide +kernel
theorem dX2_tell_103 : decode cX2_tell 103 = .ok (.iconst 0, 1) := by decide +kernel
theorem dX2_tell_104 : decode cX2_tell 104 = .ok (.ireturn, 1) := by decide +kernel
theorem dX2_tell_105 : decode cX2_tell 105 = .ok (.aload_n 0, 1) := by decide +kernel
theorem dX2_tell_106 : decode cX2_tell 106 = .ok (.getfield 72, 3) := by decide +kernel
theorem dX2_tell_109 : decode cX2_tell 109 = .ok (.ireturn, 1) := by decide +kernel
theorem dX2_tell_110 : decode cX2_tell 110 = .ok (.aload_n 0, 1) := by decide +kernel
theorem dX2_tell_111 : decode cX2_tell 111 = .ok (.invokevirtual 62, 3) := by decide +kernel
theorem dX2_tell_114 : decode cX2_tell 114 = .ok (.ireturn, 1) := by decide +kernel
theorem dX2_tell_115 : decode cX2_tell 115 = .ok (.iconst (-1), 1) := by decide +kernel
theorem dX2_tell_116 : decode cX2_tell 116 = .ok (.ireturn, 1) := by decide +kernel
theorem dX3_init_0 : decode cX3_init 0 = .ok (.aload_n 0, 1) := by decide +kernel
theorem dX3_init_1 : decode cX3_init 1 = .ok (.invokespecial 3, 3) := by decide +kernel
theorem dX3_init_4 : decode cX3_init 4 = .ok (.aload_n 0, 1) := by decide +kernel
theorem dX3_init_5 : decode cX3_init 5 = .ok (.aload_n 1, 1) := by decide +kernel
theorem dX3_init_6 : decode cX3_init 6 = .ok (.putfield 9, 3) := by decide +kernel
theorem dX3_init_9 : decode cX3_init 9 = .ok (.aload_n 0, 1) := by decide +kernel
theorem dX3_init_10 : decode cX3_init 10 = .ok (.iload_n 2, 1) := by decide +kernel
theorem dX3_init_11 : decode cX3_init 11 = .ok (.putfield 15, 3) := by decide +kernel
theorem dX3_init_14 : decode cX3_init 14 = .ok (.aload_n 0, 1) := by decide +kernel
theorem dX3_init_15 : decode cX3_init 15 = .ok (.iload_n 3, 1) := by decide +kernel
theorem dX3_init_16 : decode cX3_init 16 = .ok (.putfield 19, 3) := by decide +kernel
theorem dX3_init_19 : decode cX3_init 19 = .ok (.aload_n 0, 1) := by decide +kernel
theorem dX3_init_20 : decode cX3_init 20 = .ok (.aload_n 1, 1) := by decide +kernel
theorem dX3_init_21 : decode cX3_init 21 = .ok (.iload_n 3, 1) := by decide +kernel
theorem dX3_init_22 : decode cX3_init 22 = .ok (.iload 4, 2) := by decide +kernel
theorem dX3_init_24 : decode cX3_init 24 = .ok (.invokevirtual 22, 3) := by decide +kernel
theorem dX3_init_27 : decode cX3_init 27 = .ok (.putfield 28, 3) := by decide +kernel
theorem dX3_init_30 : decode cX3_init 30 = .ok (.aload_n 0, 1) := by decide +kernel
theorem dX3_init_31 : decode cX3_init 31 = .ok (.iload 5, 2) := by decide +kernel
theorem dX3_init_33 : decode cX3_init 33 = .ok (.putfield 31, 3) := by decide +kernel
theorem dX3_init_36 : decode cX3_init 36 = .ok (.aload_n 0, 1) := by decide +kernel
theorem dX3_init_37 : decode cX3_init 37 = .ok (.iconst 1, 1) := by decide +kernel
theorem dX3_init_38 : decode cX3_init 38 = .ok (.aload_n 1, 1) := by decide +kernel
theorem dX3_init_39 : decode cX3_init 39 = .ok (.iload_n 3, 1) := by decide +kernel
theorem dX3_init_40 : decode cX3_init 40 = .ok (.iload 4, 2) := by decide +kernel
theorem dX3_init_42 : decode cX3_init 42 = .ok (.invokevirtual 34, 3) := by decide +kernel
theorem dX3_init_45 : decode cX3_init 45 = .ok (.invokestatic 37, 3) := by decide +kernel
theorem dX3_init_48 : decode cX3_init 48 = .ok (.putfield 42, 3) := by decide +kernel
theorem dX3_init_51 : decode cX3_init 51 = .ok (.aload_n 0, 1) := by decide +kernel
theorem dX3_init_52 : decode cX3_init 52 = .ok (.aload_n 1, 1) := by decide +kernel
theorem dX3_init_53 : decode cX3_init 53 = .ok (.iload_n 3, 1) := by decide +kernel
theorem dX3_init_54 : decode cX3_init 54 = .ok (.invokevirtual 45, 3) := by decide +kernel
theorem dX3_init_57 : decode cX3_init 57 = .ok (.putfield 49, 3) := by decide +kernel
theorem dX3_init_60 : decode cX3_init 60 = .ok (.aload_n 0, 1) := by decide +kernel
theorem dX3_init_61 : decode cX3_init 61 = .ok (.aload_n 0, 1) := by decide +kernel
theorem dX3_init_62 : decode cX3_init 62 = .ok (.getfield 49, 3) := by decide +kernel
theorem dX3_init_65 : decode cX3_init 65 = .ok (.arraylength, 1) := by decide +kernel
theorem dX3_init_66 : decode cX3_init 66 = .ok (.newarray .int, 2) := by decide +kernel
theorem dX3_init_68 : decode cX3_init 68 = .ok (.putfield 53, 3) := by decide +kernel
theorem dX3_init_71 : decode cX3_init 71 = .ok (.iconst 0, 1) := by decide +kernel
theorem dX3_init_72 : decode cX3_init 72 = .ok (.istore 6, 2) := by decide +kernel
theorem dX3_init_74 : decode cX3_init 74 = .ok (.iconst 0, 1) := by decide +kernel
theorem dX3_init_75 : decode cX3_init 75 = .ok (.istore 7, 2) := by decide +kernel
theorem dX3_init_77 : decode cX3_init 77 = .ok (.iload 7, 2) := by decide +kernel
theorem dX3_init_79 : decode cX3_init 79 = .ok (.aload_n 0, 1) := by decide +kernel
theorem dX3_init_80 : decode cX3_init 80 = .ok (.getfield 49, 3) := by decide +kernel
theorem dX3_init_83 : decode cX3_init 83 = .ok (.arraylength, 1) := by decide +kernel
theorem dX3_init_84 : decode cX3_init 84 = .ok (.if_icmp .ge 54, 3) := by decide +kernel
theorem dX3_init_87 : decode cX3_init 87 = .ok (.aload_n 0, 1) := by decide +kernel
theorem dX3_init_88 : decode cX3_init 88 = .ok (.getfield 53, 3) := by decide +kernel
theorem dX3_init_91 : decode cX3_init 91 = .ok (.iload 7, 2) := by decide +kernel
theorem dX3_init_93 : decode cX3_init 93 = .ok (.aload_n 1, 1) := by decide +kernel
theorem dX3_init_94 : decode cX3_init 94 = .ok (.aload_n 0, 1) := by decide +kernel
theorem dX3_init_95 : decode cX3_init 95 = .ok (.getfield 49, 3) := by decide +kernel
theorem dX3_init_98 : decode cX3_init 98 = .ok (.iload 7, 2) := by decide +kernel
theorem dX3_init_100 : decode cX3_init 100 = .ok (.iaload, 1) := by decide +kernel
theorem dX3_init_101 : decode cX3_init 101 = .ok (.invokevirtual 56, 3) := by decide +kernel
theorem dX3_init_104 : decode cX3_init 104 = .ok (.iastore, 1) := by decide +kernel
theorem dX3_init_105 : decode cX3_init 105 = .ok (.iload 6, 2) := by decide +kernel
theorem dX3_init_107 : decode cX3_init 107 = .ok (.aload_n 1, 1) := by decide +kernel
theorem dX3_init_108 : decode cX3_init 108 = .ok (.aload_n 0, 1) := by decide +kernel
theorem dX3_init_109 : decode cX3_init 109 = .ok (.getfield 49, 3) := by decide +kernel
theorem dX3_init_112 : decode cX3_init 112 = .ok (.iload 7, 2) := by decide +kernel
theorem dX3_init_114 : decode cX3_init 114 = .ok (.iaload, 1) := by decide +kernel
theorem dX3_init_115 : decode cX3_init 115 = .ok (.invokevirtual 60, 3) := by decide +kernel
theorem dX3_init_118 : decode cX3_init 118 = .ok (.ifCond .eq 10, 3) := by decide +kernel
theorem dX3_init_121 : decode cX3_init 121 = .ok (.iconst 1, 1) := by decide +kernel
theorem dX3_init_122 : decode cX3_init 122 = .ok (.iload 7, 2) := by decide +kernel
theorem dX3_init_124 : decode cX3_init 124 = .ok (.ishl, 1) := by decide +kernel
theorem dX3_init_125 : decode cX3_init 125 = .ok (.goto 4, 3) := by decide +kernel
theorem dX3_init_128 : decode cX3_init 128 = .ok (.iconst 0, 1) := by decide +kernel
theorem dX3_init_129 : decode cX3_init 129 = .ok (.ior, 1) := by decide +kernel
theorem dX3_init_130 : decode cX3_init 130 = .ok (.istore 6, 2) := by decide +kernel
theorem dX3_init_132 : decode cX3_init 132 = .ok (.iinc 7 1, 3) := by decide +kernel
theorem dX3_init_135 : decode cX3_init 135 = .ok (.goto (-58), 3) := by decide +kernel
theorem dX3_init_138 : decode cX3_init 138 = .ok (.aload_n 0, 1) := by decide +kernel
theorem dX3_init_139 : decode cX3_init 139 = .ok (.iload 6, 2) := by decide +kernel
theorem dX3_init_141 : decode cX3_init 141 = .ok (.putfield 64, 3) := by decide +kernel
theorem dX3_init_144 : decode cX3_init 144 = .ok (.return_, 1) := by decide +kernel
theorem dX3_beatsAfter_0 : decode cX3_beatsAfter 0 = .ok (.iload_n 1, 1) := by decide +kernel
theorem dX3_beatsAfter_1 : decode cX3_beatsAfter 1 = .ok (.aload_n 0, 1) := by decide +kernel
theorem dX3_beatsAfter_2 : decode cX3_beatsAfter 2 = .ok (.getfield 19, 3) := by decide +kernel
theorem dX3_beatsAfter_5 : decode cX3_beatsAfter 5 = .ok (.imul, 1) := by decide +kernel
theorem dX3_beatsAfter_6 : decode cX3_beatsAfter 6 = .ok (.aload_n 0, 1) := by decide +kernel
theorem dX3_beatsAfter_7 : decode cX3_beatsAfter 7 = .ok (.getfield 42, 3) := by decide +kernel
theorem dX3_beatsAfter_10 : decode cX3_beatsAfter 10 = .ok (.idiv, 1) := by decide +kernel
theorem dX3_beatsAfter_11 : decode cX3_beatsAfter 11 = .ok (.ireturn, 1) := by decide +kernel
theorem dX3_hasPlace_0 : decode cX3_hasPlace 0 = .ok (.iload_n 1, 1) := by decide +kernel
theorem dX3_hasPlace_1 : decode cX3_hasPlace 1 = .ok (.ifCond .lt 16, 3) := by decide +kernel
theorem dX3_hasPlace_4 : decode cX3_hasPlace 4 = .ok (.iload_n 1, 1) := by decide +kernel
theorem dX3_hasPlace_5 : decode cX3_hasPlace 5 = .ok (.aload_n 0, 1) := by decide +kernel
theorem dX3_hasPlace_6 : decode cX3_hasPlace 6 = .ok (.getfield 49, 3) := by decide +kernel
theorem dX3_hasPlace_9 : decode cX3_hasPlace 9 = .ok (.arraylength, 1) := by decide +kernel
theorem dX3_hasPlace_10 : decode cX3_hasPlace 10 = .ok (.if_icmp .ge 7, 3) := by decide +kernel
theorem dX3_hasPlace_13 : decode cX3_hasPlace 13 = .ok (.iconst 1, 1) := by decide +kernel
theorem dX3_hasPlace_14 : decode cX3_hasPlace 14 = .ok (.goto 4, 3) := by decide +kernel
theorem dX3_hasPlace_17 : decode cX3_hasPlace 17 = .ok (.iconst 0, 1) := by decide +kernel
theorem dX3_hasPlace_18 : decode cX3_hasPlace 18 = .ok (.ireturn, 1) := by decide +kernel
theorem dX3_blockAt_0 : decode cX3_blockAt 0 = .ok (.aload_n 0, 1) := by decide +kernel
theorem dX3_blockAt_1 : decode cX3_blockAt 1 = .ok (.iload_n 1, 1) := by decide +kernel
theorem dX3_blockAt_2 : decode cX3_blockAt 2 = .ok (.invokevirtual 67, 3) := by decide +kernel
theorem dX3_blockAt_5 : decode cX3_blockAt 5 = .ok (.ifCond .eq 12, 3) := by decide +kernel
theorem dX3_blockAt_8 : decode cX3_blockAt 8 = .ok (.aload_n 0, 1) := by decide +kernel
theorem dX3_blockAt_9 : decode cX3_blockAt 9 = .ok (.getfield 49, 3) := by decide +kernel
theorem dX3_blockAt_12 : decode cX3_blockAt 12 = .ok (.iload_n 1, 1) := by decide +kernel
theorem dX3_blockAt_13 : decode cX3_blockAt 13 = .ok (.iaload, 1) := by decide +kernel
theorem dX3_blockAt_14 : decode cX3_blockAt 14 = .ok (.goto 4, 3) := by decide +kernel
theorem dX3_blockAt_17 : decode cX3_blockAt 17 = .ok (.iconst (-1), 1) := by decide +kernel
theorem dX3_blockAt_18 : decode cX3_blockAt 18 = .ok (.ireturn, 1) := by decide +kernel
theorem dX3_beatsAt_0 : decode cX3_beatsAt 0 = .ok (.aload_n 0, 1) := by decide +kernel
theorem dX3_beatsAt_1 : decode cX3_beatsAt 1 = .ok (.iload_n 1, 1) := by decide +kernel
theorem dX3_beatsAt_2 : decode cX3_beatsAt 2 = .ok (.invokevirtual 67, 3) := by decide +kernel
theorem dX3_beatsAt_5 : decode cX3_beatsAt 5 = .ok (.ifCond .eq 12, 3) := by decide +kernel
theorem dX3_beatsAt_8 : decode cX3_beatsAt 8 = .ok (.aload_n 0, 1) := by decide +kernel
theorem dX3_beatsAt_9 : decode cX3_beatsAt 9 = .ok (.getfield 53, 3) := by decide +kernel
theorem dX3_beatsAt_12 : decode cX3_beatsAt 12 = .ok (.iload_n 1, 1) := by decide +kernel
theorem dX3_beatsAt_13 : decode cX3_beatsAt 13 = .ok (.iaload, 1) := by decide +kernel
theorem dX3_beatsAt_14 : decode cX3_beatsAt 14 = .ok (.goto 4, 3) := by decide +kernel
theorem dX3_beatsAt_17 : decode cX3_beatsAt 17 = .ok (.iconst 0, 1) := by decide +kernel
theorem dX3_beatsAt_18 : decode cX3_beatsAt 18 = .ok (.ireturn, 1) := by decide +kernel
theorem dX3_isExitAt_0 : decode cX3_isExitAt 0 = .ok (.aload_n 0, 1) := by decide +kernel
theorem dX3_isExitAt_1 : decode cX3_isExitAt 1 = .ok (.iload_n 1, 1) := by decide +kernel
theorem dX3_isExitAt_2 : decode cX3_isExitAt 2 = .ok (.invokevirtual 67, 3) := by decide +kernel
theorem dX3_isExitAt_5 : decode cX3_isExitAt 5 = .ok (.ifCond .eq 19, 3) := by decide +kernel
theorem dX3_isExitAt_8 : decode cX3_isExitAt 8 = .ok (.aload_n 0, 1) := by decide +kernel
theorem dX3_isExitAt_9 : decode cX3_isExitAt 9 = .ok (.getfield 64, 3) := by decide +kernel
theorem dX3_isExitAt_12 : decode cX3_isExitAt 12 = .ok (.iload_n 1, 1) := by decide +kernel
theorem dX3_isExitAt_13 : decode cX3_isExitAt 13 = .ok (.ishr, 1) := by decide +kernel
theorem dX3_isExitAt_14 : decode cX3_isExitAt 14 = .ok (.iconst 1, 1) := by decide +kernel
theorem dX3_isExitAt_15 : decode cX3_isExitAt 15 = .ok (.iand, 1) := by decide +kernel
theorem dX3_isExitAt_16 : decode cX3_isExitAt 16 = .ok (.iconst 1, 1) := by decide +kernel
theorem dX3_isExitAt_17 : decode cX3_isExitAt 17 = .ok (.if_icmp .ne 7, 3) := by decide +kernel
theorem dX3_isExitAt_20 : decode cX3_isExitAt 20 = .ok (.iconst 1, 1) := by decide +kernel
theorem dX3_isExitAt_21 : decode cX3_isExitAt 21 = .ok (.goto 4, 3) := by decide +kernel
theorem dX3_isExitAt_24 : decode cX3_isExitAt 24 = .ok (.iconst 0, 1) := by decide +kernel
theorem dX3_isExitAt_25 : decode cX3_isExitAt 25 = .ok (.ireturn, 1) := by decide +kernel
theorem dX4_init_0 : decode cX4_init 0 = .ok (.aload_n 0, 1) := by decide +kernel
theorem dX4_init_1 : decode cX4_init 1 = .ok (.invokespecial 3, 3) := by decide +kernel
theorem dX4_init_4 : decode cX4_init 4 = .ok (.aload_n 0, 1) := by decide +kernel
theorem dX4_init_5 : decode cX4_init 5 = .ok (.bipush 8, 2) := by decide +kernel
theorem dX4_init_7 : decode cX4_init 7 = .ok (.newarray .int, 2) := by decide +kernel
theorem dX4_init_9 : decode cX4_init 9 = .ok (.putfield 9, 3) := by decide +kernel
theorem dX4_init_12 : decode cX4_init 12 = .ok (.aload_n 0, 1) := by decide +kernel
theorem dX4_init_13 : decode cX4_init 13 = .ok (.bipush 8, 2) := by decide +kernel
theorem dX4_init_15 : decode cX4_init 15 = .ok (.newarray .int, 2) := by decide +kernel
theorem dX4_init_17 : decode cX4_init 17 = .ok (.putfield 15, 3) := by decide +kernel
theorem dX4_init_20 : decode cX4_init 20 = .ok (.aload_n 0, 1) := by decide +kernel
theorem dX4_init_21 : decode cX4_init 21 = .ok (.sipush 3208, 3) := by decide +kernel
theorem dX4_init_24 : decode cX4_init 24 = .ok (.newarray .int, 2) := by decide +kernel
theorem dX4_init_26 : decode cX4_init 26 = .ok (.putfield 18, 3) := by decide +kernel
theorem dX4_init_29 : decode cX4_init 29 = .ok (.aload_n 0, 1) := by decide +kernel
theorem dX4_init_30 : decode cX4_init 30 = .ok (.sipush 401, 3) := by decide +kernel
theorem dX4_init_33 : decode cX4_init 33 = .ok (.newarray .int, 2) := by decide +kernel
theorem dX4_init_35 : decode cX4_init 35 = .ok (.putfield 21, 3) := by decide +kernel
theorem dX4_init_38 : decode cX4_init 38 = .ok (.aload_n 0, 1) := by decide +kernel
theorem dX4_init_39 : decode cX4_init 39 = .ok (.iload_n 1, 1) := by decide +kernel
theorem dX4_init_40 : decode cX4_init 40 = .ok (.putfield 24, 3) := by decide +kernel
theorem dX4_init_43 : decode cX4_init 43 = .ok (.aload_n 0, 1) := by decide +kernel
theorem dX4_init_44 : decode cX4_init 44 = .ok (.iload_n 2, 1) := by decide +kernel
theorem dX4_init_45 : decode cX4_init 45 = .ok (.putfield 28, 3) := by decide +kernel
theorem dX4_init_48 : decode cX4_init 48 = .ok (.aload_n 0, 1) := by decide +kernel
theorem dX4_init_49 : decode cX4_init 49 = .ok (.iconst 1, 1) := by decide +kernel
theorem dX4_init_50 : decode cX4_init 50 = .ok (.iload_n 3, 1) := by decide +kernel
theorem dX4_init_51 : decode cX4_init 51 = .ok (.invokestatic 31, 3) := by decide +kernel
theorem dX4_init_54 : decode cX4_init 54 = .ok (.putfield 37, 3) := by decide +kernel
theorem dX4_init_57 : decode cX4_init 57 = .ok (.aload_n 0, 1) := by decide +kernel
theorem dX4_init_58 : decode cX4_init 58 = .ok (.iconst 1, 1) := by decide +kernel
theorem dX4_init_59 : decode cX4_init 59 = .ok (.iload 4, 2) := by decide +kernel
theorem dX4_init_61 : decode cX4_init 61 = .ok (.invokestatic 31, 3) := by decide +kernel
theorem dX4_init_64 : decode cX4_init 64 = .ok (.putfield 40, 3) := by decide +kernel
theorem dX4_init_67 : decode cX4_init 67 = .ok (.aload_n 0, 1) := by decide +kernel
theorem dX4_init_68 : decode cX4_init 68 = .ok (.iload 5, 2) := by decide +kernel
theorem dX4_init_70 : decode cX4_init 70 = .ok (.putfield 43, 3) := by decide +kernel
theorem dX4_init_73 : decode cX4_init 73 = .ok (.aload_n 0, 1) := by decide +kernel
theorem dX4_init_74 : decode cX4_init 74 = .ok (.iload 6, 2) := by decide +kernel
theorem dX4_init_76 : decode cX4_init 76 = .ok (.putfield 47, 3) := by decide +kernel
theorem dX4_init_79 : decode cX4_init 79 = .ok (.aload_n 0, 1) := by decide +kernel
theorem dX4_init_80 : decode cX4_init 80 = .ok (.getfield 21, 3) := by decide +kernel
theorem dX4_init_83 : decode cX4_init 83 = .ok (.bipush 17, 2) := by decide +kernel
theorem dX4_init_85 : decode cX4_init 85 = .ok (.invokestatic 50, 3) := by decide +kernel
theorem dX4_init_88 : decode cX4_init 88 = .ok (.return_, 1) := by decide +kernel
theorem dX4_add_0 : decode cX4_add 0 = .ok (.aload_n 0, 1) := by decide +kernel
theorem dX4_add_1 : decode cX4_add 1 = .ok (.getfield 56, 3) := by decide +kernel
theorem dX4_add_4 : decode cX4_add 4 = .ok (.bipush 8, 2) := by decide +kernel
theorem dX4_add_6 : decode cX4_add 6 = .ok (.if_icmp .lt 6, 3) := by decide +kernel
theorem dX4_add_9 : decode cX4_add 9 = .ok (.bipush (-3), 2) := by decide +kernel
theorem dX4_add_11 : decode cX4_add 11 = .ok (.ireturn, 1) := by decide +kernel
theorem dX4_add_12 : decode cX4_add 12 = .ok (.aload_n 0, 1) := by decide +kernel
theorem dX4_add_13 : decode cX4_add 13 = .ok (.getfield 9, 3) := by decide +kernel
theorem dX4_add_16 : decode cX4_add 16 = .ok (.aload_n 0, 1) := by decide +kernel
theorem dX4_add_17 : decode cX4_add 17 = .ok (.getfield 56, 3) := by decide +kernel
theorem dX4_add_20 : decode cX4_add 20 = .ok (.iload_n 1, 1) := by decide +kernel
theorem dX4_add_21 : decode cX4_add 21 = .ok (.iastore, 1) := by decide +kernel
theorem dX4_add_22 : decode cX4_add 22 = .ok (.aload_n 0, 1) := by decide +kernel
theorem dX4_add_23 : decode cX4_add 23 = .ok (.getfield 15, 3) := by decide +kernel
theorem dX4_add_26 : decode cX4_add 26 = .ok (.aload_n 0, 1) := by decide +kernel
theorem dX4_add_27 : decode cX4_add 27 = .ok (.getfield 56, 3) := by decide +kernel
theorem dX4_add_30 : decode cX4_add 30 = .ok (.iload_n 3, 1) := by decide +kernel
theorem dX4_add_31 : decode cX4_add 31 = .ok (.iastore, 1) := by decide +kernel
theorem dX4_add_32 : decode cX4_add 32 = .ok (.iload_n 2, 1) := by decide +kernel
theorem dX4_add_33 : decode cX4_add 33 = .ok (.iconst 2, 1) := by decide +kernel
theorem dX4_add_34 : decode cX4_add 34 = .ok (.iand, 1) := by decide +kernel
theorem dX4_add_35 : decode cX4_add 35 = .ok (.ifCond .eq 18, 3) := by decide +kernel
theorem dX4_add_38 : decode cX4_add 38 = .ok (.aload_n 0, 1) := by decide +kernel
theorem dX4_add_39 : decode cX4_add 39 = .ok (.dup, 1) := by decide +kernel
theorem dX4_add_40 : decode cX4_add 40 = .ok (.getfield 59, 3) := by decide +kernel
theorem dX4_add_43 : decode cX4_add 43 = .ok (.iconst 1, 1) := by decide +kernel
theorem dX4_add_44 : decode cX4_add 44 = .ok (.aload_n 0, 1) := by decide +kernel
theorem dX4_add_45 : decode cX4_add 45 = .ok (.getfield 56, 3) := by decide +kernel
theorem dX4_add_48 : decode cX4_add 48 = .ok (.ishl, 1) := by decide +kernel
theorem dX4_add_49 : decode cX4_add 49 = .ok (.ior, 1) := by decide +kernel
theorem dX4_add_50 : decode cX4_add 50 = .ok (.putfield 59, 3) := by decide +kernel
theorem dX4_add_53 : decode cX4_add 53 = .ok (.iload_n 2, 1) := by decide +kernel
theorem dX4_add_54 : decode cX4_add 54 = .ok (.iconst 1, 1) := by decide +kernel
theorem dX4_add_55 : decode cX4_add 55 = .ok (.iand, 1) := by decide +kernel
theorem dX4_add_56 : decode cX4_add 56 = .ok (.ifCond .eq 18, 3) := by decide +kernel
theorem dX4_add_59 : decode cX4_add 59 = .ok (.aload_n 0, 1) := by decide +kernel
theorem dX4_add_60 : decode cX4_add 60 = .ok (.dup, 1) := by decide +kernel
theorem dX4_add_61 : decode cX4_add 61 = .ok (.getfield 62, 3) := by decide +kernel
theorem dX4_add_64 : decode cX4_add 64 = .ok (.iconst 1, 1) := by decide +kernel
theorem dX4_add_65 : decode cX4_add 65 = .ok (.aload_n 0, 1) := by decide +kernel
theorem dX4_add_66 : decode cX4_add 66 = .ok (.getfield 56, 3) := by decide +kernel
theorem dX4_add_69 : decode cX4_add 69 = .ok (.ishl, 1) := by decide +kernel
theorem dX4_add_70 : decode cX4_add 70 = .ok (.ior, 1) := by decide +kernel
theorem dX4_add_71 : decode cX4_add 71 = .ok (.putfield 62, 3) := by decide +kernel
theorem dX4_add_74 : decode cX4_add 74 = .ok (.aload_n 0, 1) := by decide +kernel
theorem dX4_add_75 : decode cX4_add 75 = .ok (.dup, 1) := by decide +kernel
theorem dX4_add_76 : decode cX4_add 76 = .ok (.getfield 56, 3) := by decide +kernel
theorem dX4_add_79 : decode cX4_add 79 = .ok (.iconst 1, 1) := by decide +kernel
theorem dX4_add_80 : decode cX4_add 80 = .ok (.iadd, 1) := by decide +kernel
theorem dX4_add_81 : decode cX4_add 81 = .ok (.putfield 56, 3) := by decide +kernel
theorem dX4_add_84 : decode cX4_add 84 = .ok (.aload_n 0, 1) := by decide +kernel
theorem dX4_add_85 : decode cX4_add 85 = .ok (.invokevirtual 65, 3) := by decide +kernel
theorem dX4_add_88 : decode cX4_add 88 = .ok (.aload_n 0, 1) := by decide +kernel
theorem dX4_add_89 : decode cX4_add 89 = .ok (.getfield 56, 3) := by decide +kernel
theorem dX4_add_92 : decode cX4_add 92 = .ok (.iconst 1, 1) := by decide +kernel
theorem dX4_add_93 : decode cX4_add 93 = .ok (.isub, 1) := by decide +kernel
theorem dX4_add_94 : decode cX4_add 94 = .ok (.ireturn, 1) := by decide +kernel
theorem dX4_beatsOf_0 : decode cX4_beatsOf 0 = .ok (.iload_n 1, 1) := by decide +kernel
theorem dX4_beatsOf_1 : decode cX4_beatsOf 1 = .ok (.iconst 0, 1) := by decide +kernel
theorem dX4_beatsOf_2 : decode cX4_beatsOf 2 = .ok (.bipush 7, 2) := by decide +kernel
theorem dX4_beatsOf_4 : decode cX4_beatsOf 4 = .ok (.invokestatic 68, 3) := by decide +kernel
theorem dX4_beatsOf_7 : decode cX4_beatsOf 7 = .ok (.ifCond .eq 12, 3) := by decide +kernel
theorem dX4_beatsOf_10 : decode cX4_beatsOf 10 = .ok (.aload_n 0, 1) := by decide +kernel
theorem dX4_beatsOf_11 : decode cX4_beatsOf 11 = .ok (.getfield 9, 3) := by decide +kernel
theorem dX4_beatsOf_14 : decode cX4_beatsOf 14 = .ok (.iload_n 1, 1) := by decide +kernel
theorem dX4_beatsOf_15 : decode cX4_beatsOf 15 = .ok (.iaload, 1) := by decide +kernel
theorem dX4_beatsOf_16 : decode cX4_beatsOf 16 = .ok (.goto 4, 3) := by decide +kernel
theorem dX4_beatsOf_19 : decode cX4_beatsOf 19 = .ok (.iconst 0, 1) := by decide +kernel
theorem dX4_beatsOf_20 : decode cX4_beatsOf 20 = .ok (.ireturn, 1) := by decide +kernel
theorem dX4_isExit_0 : decode cX4_isExit 0 = .ok (.iload_n 1, 1) := by decide +kernel
theorem dX4_isExit_1 : decode cX4_isExit 1 = .ok (.iconst 0, 1) := by decide +kernel
theorem dX4_isExit_2 : decode cX4_isExit 2 = .ok (.bipush 7, 2) := by decide +kernel
theorem dX4_isExit_4 : decode cX4_isExit 4 = .ok (.invokestatic 68, 3) := by decide +kernel
theorem dX4_isExit_7 : decode cX4_isExit 7 = .ok (.ifCond .eq 19, 3) := by decide +kernel
theorem dX4_isExit_10 : decode cX4_isExit 10 = .ok (.aload_n 0, 1) := by decide +kernel
theorem dX4_isExit_11 : decode cX4_isExit 11 = .ok (.getfield 62, 3) := by decide +kernel
theorem dX4_isExit_14 : decode cX4_isExit 14 = .ok (.iload_n 1, 1) := by decide +kernel
theorem dX4_isExit_15 : decode cX4_isExit 15 = .ok (.ishr, 1) := by decide +kernel
theorem dX4_isExit_16 : decode cX4_isExit 16 = .ok (.iconst 1, 1) := by decide +kernel
theorem dX4_isExit_17 : decode cX4_isExit 17 = .ok (.iand, 1) := by decide +kernel
theorem dX4_isExit_18 : decode cX4_isExit 18 = .ok (.iconst 1, 1) := by decide +kernel
theorem dX4_isExit_19 : decode cX4_isExit 19 = .ok (.if_icmp .ne 7, 3) := by decide +kernel
theorem dX4_isExit_22 : decode cX4_isExit 22 = .ok (.iconst 1, 1) := by decide +kernel
theorem dX4_isExit_23 : decode cX4_isExit 23 = .ok (.goto 4, 3) := by decide +kernel
theorem dX4_isExit_26 : decode cX4_isExit 26 = .ok (.iconst 0, 1) := by decide +kernel
theorem dX4_isExit_27 : decode cX4_isExit 27 = .ok (.ireturn, 1) := by decide +kernel
theorem dX4_hasMood_0 : decode cX4_hasMood 0 = .ok (.iload_n 1, 1) := by decide +kernel
theorem dX4_hasMood_1 : decode cX4_hasMood 1 = .ok (.iconst 0, 1) := by decide +kernel
theorem dX4_hasMood_2 : decode cX4_hasMood 2 = .ok (.iconst 5, 1) := by decide +kernel
theorem dX4_hasMood_3 : decode cX4_hasMood 3 = .ok (.invokestatic 68, 3) := by decide +kernel
theorem dX4_hasMood_6 : decode cX4_hasMood 6 = .ok (.ifCond .eq 19, 3) := by decide +kernel
theorem dX4_hasMood_9 : decode cX4_hasMood 9 = .ok (.aload_n 0, 1) := by decide +kernel
theorem dX4_hasMood_10 : decode cX4_hasMood 10 = .ok (.getfield 28, 3) := by decide +kernel
theorem dX4_hasMood_13 : decode cX4_hasMood 13 = .ok (.iload_n 1, 1) := by decide +kernel
theorem dX4_hasMood_14 : decode cX4_hasMood 14 = .ok (.ishr, 1) := by decide +kernel
theorem dX4_hasMood_15 : decode cX4_hasMood 15 = .ok (.iconst 1, 1) := by decide +kernel
theorem dX4_hasMood_16 : decode cX4_hasMood 16 = .ok (.iand, 1) := by decide +kernel
theorem dX4_hasMood_17 : decode cX4_hasMood 17 = .ok (.iconst 1, 1) := by decide +kernel
theorem dX4_hasMood_18 : decode cX4_hasMood 18 = .ok (.if_icmp .ne 7, 3) := by decide +kernel
theorem dX4_hasMood_21 : decode cX4_hasMood 21 = .ok (.iconst 1, 1) := by decide +kernel
theorem dX4_hasMood_22 : decode cX4_hasMood 22 = .ok (.goto 4, 3) := by decide +kernel
theorem dX4_hasMood_25 : decode cX4_hasMood 25 = .ok (.iconst 0, 1) := by decide +kernel
theorem dX4_hasMood_26 : decode cX4_hasMood 26 = .ok (.ireturn, 1) := by decide +kernel
theorem dX4_wayLength_0 : decode cX4_wayLength 0 = .ok (.iload_n 1, 1) := by decide +kernel
theorem dX4_wayLength_1 : decode cX4_wayLength 1 = .ok (.iconst 1, 1) := by decide +kernel
theorem dX4_wayLength_2 : decode cX4_wayLength 2 = .ok (.sipush 400, 3) := by decide +kernel
theorem dX4_wayLength_5 : decode cX4_wayLength 5 = .ok (.invokestatic 68, 3) := by decide +kernel
theorem dX4_wayLength_8 : decode cX4_wayLength 8 = .ok (.ifCond .eq 12, 3) := by decide +kernel
theorem dX4_wayLength_11 : decode cX4_wayLength 11 = .ok (.aload_n 0, 1) := by decide +kernel
theorem dX4_wayLength_12 : decode cX4_wayLength 12 = .ok (.getfield 21, 3) := by decide +kernel
theorem dX4_wayLength_15 : decode cX4_wayLength 15 = .ok (.iload_n 1, 1) := by decide +kernel
theorem dX4_wayLength_16 : decode cX4_wayLength 16 = .ok (.iaload, 1) := by decide +kernel
theorem dX4_wayLength_17 : decode cX4_wayLength 17 = .ok (.goto 5, 3) := by decide +kernel
theorem dX4_wayLength_20 : decode cX4_wayLength 20 = .ok (.bipush 17, 2) := by decide +kernel
theorem dX4_wayLength_22 : decode cX4_wayLength 22 = .ok (.ireturn, 1) := by decide +kernel
theorem dX4_wayFor_0 : decode cX4_wayFor 0 = .ok (.aload_n 0, 1) := by decide +kernel
theorem dX4_wayFor_1 : decode cX4_wayFor 1 = .ok (.iload_n 1, 1) := by decide +kernel
theorem dX4_wayFor_2 : decode cX4_wayFor 2 = .ok (.invokevirtual 72, 3) := by decide +kernel
theorem dX4_wayFor_5 : decode cX4_wayFor 5 = .ok (.istore_n 2, 1) := by decide +kernel
theorem dX4_wayFor_6 : decode cX4_wayFor 6 = .ok (.iload_n 2, 1) := by decide +kernel
theorem dX4_wayFor_7 : decode cX4_wayFor 7 = .ok (.bipush 17, 2) := by decide +kernel
theorem dX4_wayFor_9 : decode cX4_wayFor 9 = .ok (.if_icmp .ne 7, 3) := by decide +kernel
theorem dX4_wayFor_12 : decode cX4_wayFor 12 = .ok (.iconst 0, 1) := by decide +kernel
theorem dX4_wayFor_13 : decode cX4_wayFor 13 = .ok (.goto 4, 3) := by decide +kernel
theorem dX4_wayFor_16 : decode cX4_wayFor 16 = .ok (.iload_n 2, 1) := by decide +kernel
theorem dX4_wayFor_17 : decode cX4_wayFor 17 = .ok (.newarray .int, 2) := by decide +kernel
theorem dX4_wayFor_19 : decode cX4_wayFor 19 = .ok (.astore_n 3, 1) := by decide +kernel
theorem dX4_wayFor_20 : decode cX4_wayFor 20 = .ok (.aload_n 0, 1) := by decide +kernel
theorem dX4_wayFor_21 : decode cX4_wayFor 21 = .ok (.getfield 59, 3) := by decide +kernel
theorem dX4_wayFor_24 : decode cX4_wayFor 24 = .ok (.istore 4, 2) := by decide +kernel
theorem dX4_wayFor_26 : decode cX4_wayFor 26 = .ok (.iload_n 1, 1) := by decide +kernel
theorem dX4_wayFor_27 : decode cX4_wayFor 27 = .ok (.istore 5, 2) := by decide +kernel
theorem dX4_wayFor_29 : decode cX4_wayFor 29 = .ok (.iconst 0, 1) := by decide +kernel
theorem dX4_wayFor_30 : decode cX4_wayFor 30 = .ok (.istore 6, 2) := by decide +kernel
theorem dX4_wayFor_32 : decode cX4_wayFor 32 = .ok (.iload 6, 2) := by decide +kernel
theorem dX4_wayFor_34 : decode cX4_wayFor 34 = .ok (.aload_n 3, 1) := by decide +kernel
theorem dX4_wayFor_35 : decode cX4_wayFor 35 = .ok (.arraylength, 1) := by decide +kernel
theorem dX4_wayFor_36 : decode cX4_wayFor 36 = .ok (.if_icmp .ge 44, 3) := by decide +kernel
theorem dX4_wayFor_39 : decode cX4_wayFor 39 = .ok (.aload_n 3, 1) := by decide +kernel
theorem dX4_wayFor_40 : decode cX4_wayFor 40 = .ok (.iload 6, 2) := by decide +kernel
theorem dX4_wayFor_42 : decode cX4_wayFor 42 = .ok (.aload_n 0, 1) := by decide +kernel
theorem dX4_wayFor_43 : decode cX4_wayFor 43 = .ok (.iload 4, 2) := by decide +kernel
theorem dX4_wayFor_45 : decode cX4_wayFor 45 = .ok (.iload 5, 2) := by decide +kernel
theorem dX4_wayFor_47 : decode cX4_wayFor 47 = .ok (.invokevirtual 76, 3) := by decide +kernel
theorem dX4_wayFor_50 : decode cX4_wayFor 50 = .ok (.iastore, 1) := by decide +kernel
theorem dX4_wayFor_51 : decode cX4_wayFor 51 = .ok (.iload 5, 2) := by decide +kernel
theorem dX4_wayFor_53 : decode cX4_wayFor 53 = .ok (.aload_n 0, 1) := by decide +kernel
theorem dX4_wayFor_54 : decode cX4_wayFor 54 = .ok (.aload_n 3, 1) := by decide +kernel
theorem dX4_wayFor_55 : decode cX4_wayFor 55 = .ok (.iload 6, 2) := by decide +kernel
theorem dX4_wayFor_57 : decode cX4_wayFor 57 = .ok (.iaload, 1) := by decide +kernel
theorem dX4_wayFor_58 : decode cX4_wayFor 58 = .ok (.invokevirtual 79, 3) := by decide +kernel
theorem dX4_wayFor_61 : decode cX4_wayFor 61 = .ok (.isub, 1) := by decide +kernel
theorem dX4_wayFor_62 : decode cX4_wayFor 62 = .ok (.istore 5, 2) := by decide +kernel
theorem dX4_wayFor_64 : decode cX4_wayFor 64 = .ok (.aload_n 0, 1) := by decide +kernel
theorem dX4_wayFor_65 : decode cX4_wayFor 65 = .ok (.aload_n 3, 1) := by decide +kernel
theorem dX4_wayFor_66 : decode cX4_wayFor 66 = .ok (.iload 6, 2) := by decide +kernel
theorem dX4_wayFor_68 : decode cX4_wayFor 68 = .ok (.iaload, 1) := by decide +kernel
theorem dX4_wayFor_69 : decode cX4_wayFor 69 = .ok (.invokevirtual 82, 3) := by decide +kernel
theorem dX4_wayFor_72 : decode cX4_wayFor 72 = .ok (.istore 4, 2) := by decide +kernel
theorem dX4_wayFor_74 : decode cX4_wayFor 74 = .ok (.iinc 6 1, 3) := by decide +kernel
theorem dX4_wayFor_77 : decode cX4_wayFor 77 = .ok (.goto (-45), 3) := by decide +kernel
theorem dX4_wayFor_80 : decode cX4_wayFor 80 = .ok (.aload_n 3, 1) := by decide +kernel
theorem dX4_wayFor_81 : decode cX4_wayFor 81 = .ok (.areturn, 1) := by decide +kernel
theorem dX4_nextOf_0 : decode cX4_nextOf 0 = .ok (.iload_n 1, 1) := by decide +kernel
theorem dX4_nextOf_1 : decode cX4_nextOf 1 = .ok (.iconst 0, 1) := by decide +kernel
theorem dX4_nextOf_2 : decode cX4_nextOf 2 = .ok (.bipush 7, 2) := by decide +kernel
theorem dX4_nextOf_4 : decode cX4_nextOf 4 = .ok (.invokestatic 68, 3) := by decide +kernel
theorem dX4_nextOf_7 : decode cX4_nextOf 7 = .ok (.ifCond .eq 12, 3) := by decide +kernel
theorem dX4_nextOf_10 : decode cX4_nextOf 10 = .ok (.aload_n 0, 1) := by decide +kernel
theorem dX4_nextOf_11 : decode cX4_nextOf 11 = .ok (.getfield 15, 3) := by decide +kernel
theorem dX4_nextOf_14 : decode cX4_nextOf 14 = .ok (.iload_n 1, 1) := by decide +kernel
theorem dX4_nextOf_15 : decode cX4_nextOf 15 = .ok (.iaload, 1) := by decide +kernel
theorem dX4_nextOf_16 : decode cX4_nextOf 16 = .ok (.goto 4, 3) := by decide +kernel
theorem dX4_nextOf_19 : decode cX4_nextOf 19 = .ok (.iconst 0, 1) := by decide +kernel
theorem dX4_nextOf_20 : decode cX4_nextOf 20 = .ok (.ireturn, 1) := by decide +kernel
theorem dX4_findWays_0 : decode cX4_findWays 0 = .ok (.iconst 1, 1) := by decide +kernel
theorem dX4_findWays_1 : decode cX4_findWays 1 = .ok (.istore_n 1, 1) := by decide +kernel
theorem dX4_findWays_2 : decode cX4_findWays 2 = .ok (.iload_n 1, 1) := by decide +kernel
theorem dX4_findWays_3 : decode cX4_findWays 3 = .ok (.sipush 400, 3) := by decide +kernel
theorem dX4_findWays_6 : decode cX4_findWays 6 = .ok (.if_icmp .gt 57, 3) := by decide +kernel
theorem dX4_findWays_9 : decode cX4_findWays 9 = .ok (.iconst 0, 1) := by decide +kernel
theorem dX4_findWays_10 : decode cX4_findWays 10 = .ok (.istore_n 2, 1) := by decide +kernel
theorem dX4_findWays_11 : decode cX4_findWays 11 = .ok (.iload_n 2, 1) := by decide +kernel
theorem dX4_findWays_12 : decode cX4_findWays 12 = .ok (.aload_n 0, 1) := by decide +kernel
theorem dX4_findWays_13 : decode cX4_findWays 13 = .ok (.getfield 56, 3) := by decide +kernel
theorem dX4_findWays_16 : decode cX4_findWays 16 = .ok (.if_icmp .ge 26, 3) := by decide +kernel
theorem dX4_findWays_19 : decode cX4_findWays 19 = .ok (.aload_n 0, 1) := by decide +kernel
theorem dX4_findWays_20 : decode cX4_findWays 20 = .ok (.getfield 18, 3) := by decide +kernel
theorem dX4_findWays_23 : decode cX4_findWays 23 = .ok (.iload_n 1, 1) := by decide +kernel
theorem dX4_findWays_24 : decode cX4_findWays 24 = .ok (.bipush 8, 2) := by decide +kernel
theorem dX4_findWays_26 : decode cX4_findWays 26 = .ok (.imul, 1) := by decide +kernel
theorem dX4_findWays_27 : decode cX4_findWays 27 = .ok (.iload_n 2, 1) := by decide +kernel
theorem dX4_findWays_28 : decode cX4_findWays 28 = .ok (.iadd, 1) := by decide +kernel
theorem dX4_findWays_29 : decode cX4_findWays 29 = .ok (.aload_n 0, 1) := by decide +kernel
theorem dX4_findWays_30 : decode cX4_findWays 30 = .ok (.iload_n 2, 1) := by decide +kernel
theorem dX4_findWays_31 : decode cX4_findWays 31 = .ok (.iload_n 1, 1) := by decide +kernel
theorem dX4_findWays_32 : decode cX4_findWays 32 = .ok (.invokevirtual 85, 3) := by decide +kernel
theorem dX4_findWays_35 : decode cX4_findWays 35 = .ok (.iastore, 1) := by decide +kernel
theorem dX4_findWays_36 : decode cX4_findWays 36 = .ok (.iinc 2 1, 3) := by decide +kernel
theorem dX4_findWays_39 : decode cX4_findWays 39 = .ok (.goto (-28), 3) := by decide +kernel
theorem dX4_findWays_42 : decode cX4_findWays 42 = .ok (.aload_n 0, 1) := by decide +kernel
theorem dX4_findWays_43 : decode cX4_findWays 43 = .ok (.getfield 21, 3) := by decide +kernel
theorem dX4_findWays_46 : decode cX4_findWays 46 = .ok (.iload_n 1, 1) := by decide +kernel
theorem dX4_findWays_47 : decode cX4_findWays 47 = .ok (.aload_n 0, 1) := by decide +kernel
theorem dX4_findWays_48 : decode cX4_findWays 48 = .ok (.aload_n 0, 1) := by decide +kernel
theorem dX4_findWays_49 : decode cX4_findWays 49 = .ok (.getfield 59, 3) := by decide +kernel
theorem dX4_findWays_52 : decode cX4_findWays 52 = .ok (.iload_n 1, 1) := by decide +kernel
theorem dX4_findWays_53 : decode cX4_findWays 53 = .ok (.invokevirtual 88, 3) := by decide +kernel
theorem dX4_findWays_56 : decode cX4_findWays 56 = .ok (.iastore, 1) := by decide +kernel
theorem dX4_findWays_57 : decode cX4_findWays 57 = .ok (.iinc 1 1, 3) := by decide +kernel
theorem dX4_findWays_60 : decode cX4_findWays 60 = .ok (.goto (-58), 3) := by decide +kernel
theorem dX4_findWays_63 : decode cX4_findWays 63 = .ok (.return_, 1) := by decide +kernel
theorem dX4_fewestFrom_0 : decode cX4_fewestFrom 0 = .ok (.iload_n 2, 1) := by decide +kernel
theorem dX4_fewestFrom_1 : decode cX4_fewestFrom 1 = .ok (.aload_n 0, 1) := by decide +kernel
theorem dX4_fewestFrom_2 : decode cX4_fewestFrom 2 = .ok (.iload_n 1, 1) := by decide +kernel
theorem dX4_fewestFrom_3 : decode cX4_fewestFrom 3 = .ok (.invokevirtual 79, 3) := by decide +kernel
theorem dX4_fewestFrom_6 : decode cX4_fewestFrom 6 = .ok (.isub, 1) := by decide +kernel
theorem dX4_fewestFrom_7 : decode cX4_fewestFrom 7 = .ok (.istore_n 3, 1) := by decide +kernel
theorem dX4_fewestFrom_8 : decode cX4_fewestFrom 8 = .ok (.iload_n 3, 1) := by decide +kernel
theorem dX4_fewestFrom_9 : decode cX4_fewestFrom 9 = .ok (.ifCond .ge 6, 3) := by decide +kernel
theorem dX4_fewestFrom_12 : decode cX4_fewestFrom 12 = .ok (.bipush 17, 2) := by decide +kernel
theorem dX4_fewestFrom_14 : decode cX4_fewestFrom 14 = .ok (.ireturn, 1) := by decide +kernel
theorem dX4_fewestFrom_15 : decode cX4_fewestFrom 15 = .ok (.iload_n 3, 1) := by decide +kernel
theorem dX4_fewestFrom_16 : decode cX4_fewestFrom 16 = .ok (.ifCond .ne 18, 3) := by decide +kernel
theorem dX4_fewestFrom_19 : decode cX4_fewestFrom 19 = .ok (.aload_n 0, 1) := by decide +kernel
theorem dX4_fewestFrom_20 : decode cX4_fewestFrom 20 = .ok (.iload_n 1, 1) := by decide +kernel
theorem dX4_fewestFrom_21 : decode cX4_fewestFrom 21 = .ok (.invokevirtual 91, 3) := by decide +kernel
theorem dX4_fewestFrom_24 : decode cX4_fewestFrom 24 = .ok (.ifCond .eq 7, 3) := by decide +kernel
theorem dX4_fewestFrom_27 : decode cX4_fewestFrom 27 = .ok (.iconst 1, 1) := by decide +kernel
theorem dX4_fewestFrom_28 : decode cX4_fewestFrom 28 = .ok (.goto 5, 3) := by decide +kernel
theorem dX4_fewestFrom_31 : decode cX4_fewestFrom 31 = .ok (.bipush 17, 2) := by decide +kernel
theorem dX4_fewestFrom_33 : decode cX4_fewestFrom 33 = .ok (.ireturn, 1) := by decide +kernel
theorem dX4_fewestFrom_34 : decode cX4_fewestFrom 34 = .ok (.bipush 17, 2) := by decide +kernel
theorem dX4_fewestFrom_36 : decode cX4_fewestFrom 36 = .ok (.iconst 1, 1) := by decide +kernel
theorem dX4_fewestFrom_37 : decode cX4_fewestFrom 37 = .ok (.aload_n 0, 1) := by decide +kernel
theorem dX4_fewestFrom_38 : decode cX4_fewestFrom 38 = .ok (.aload_n 0, 1) := by decide +kernel
theorem dX4_fewestFrom_39 : decode cX4_fewestFrom 39 = .ok (.iload_n 1, 1) := by decide +kernel
theorem dX4_fewestFrom_40 : decode cX4_fewestFrom 40 = .ok (.invokevirtual 82, 3) := by decide +kernel
theorem dX4_fewestFrom_43 : decode cX4_fewestFrom 43 = .ok (.iload_n 3, 1) := by decide +kernel
theorem dX4_fewestFrom_44 : decode cX4_fewestFrom 44 = .ok (.invokevirtual 88, 3) := by decide +kernel
theorem dX4_fewestFrom_47 : decode cX4_fewestFrom 47 = .ok (.iadd, 1) := by decide +kernel
theorem dX4_fewestFrom_48 : decode cX4_fewestFrom 48 = .ok (.invokestatic 95, 3) := by decide +kernel
theorem dX4_fewestFrom_51 : decode cX4_fewestFrom 51 = .ok (.ireturn, 1) := by decide +kernel
theorem dX4_fewestAmong_0 : decode cX4_fewestAmong 0 = .ok (.aload_n 0, 1) := by decide +kernel
theorem dX4_fewestAmong_1 : decode cX4_fewestAmong 1 = .ok (.iload_n 1, 1) := by decide +kernel
theorem dX4_fewestAmong_2 : decode cX4_fewestAmong 2 = .ok (.iload_n 2, 1) := by decide +kernel
theorem dX4_fewestAmong_3 : decode cX4_fewestAmong 3 = .ok (.invokevirtual 76, 3) := by decide +kernel
theorem dX4_fewestAmong_6 : decode cX4_fewestAmong 6 = .ok (.istore_n 3, 1) := by decide +kernel
theorem dX4_fewestAmong_7 : decode cX4_fewestAmong 7 = .ok (.iload_n 3, 1) := by decide +kernel
theorem dX4_fewestAmong_8 : decode cX4_fewestAmong 8 = .ok (.ifCond .ge 8, 3) := by decide +kernel
theorem dX4_fewestAmong_11 : decode cX4_fewestAmong 11 = .ok (.bipush 17, 2) := by decide +kernel
theorem dX4_fewestAmong_13 : decode cX4_fewestAmong 13 = .ok (.goto 14, 3) := by decide +kernel
theorem dX4_fewestAmong_16 : decode cX4_fewestAmong 16 = .ok (.aload_n 0, 1) := by decide +kernel
theorem dX4_fewestAmong_17 : decode cX4_fewestAmong 17 = .ok (.getfield 18, 3) := by decide +kernel
theorem dX4_fewestAmong_20 : decode cX4_fewestAmong 20 = .ok (.iload_n 2, 1) := by decide +kernel
theorem dX4_fewestAmong_21 : decode cX4_fewestAmong 21 = .ok (.bipush 8, 2) := by decide +kernel
theorem dX4_fewestAmong_23 : decode cX4_fewestAmong 23 = .ok (.imul, 1) := by decide +kernel
theorem dX4_fewestAmong_24 : decode cX4_fewestAmong 24 = .ok (.iload_n 3, 1) := by decide +kernel
theorem dX4_fewestAmong_25 : decode cX4_fewestAmong 25 = .ok (.iadd, 1) := by decide +kernel
theorem dX4_fewestAmong_26 : decode cX4_fewestAmong 26 = .ok (.iaload, 1) := by decide +kernel
theorem dX4_fewestAmong_27 : decode cX4_fewestAmong 27 = .ok (.ireturn, 1) := by decide +kernel
theorem dX4_leader_0 : decode cX4_leader 0 = .ok (.iconst (-1), 1) := by decide +kernel
theorem dX4_leader_1 : decode cX4_leader 1 = .ok (.istore_n 3, 1) := by decide +kernel
theorem dX4_leader_2 : decode cX4_leader 2 = .ok (.bipush 17, 2) := by decide +kernel
theorem dX4_leader_4 : decode cX4_leader 4 = .ok (.istore 4, 2) := by decide +kernel
theorem dX4_leader_6 : decode cX4_leader 6 = .ok (.iload_n 2, 1) := by decide +kernel
theorem dX4_leader_7 : decode cX4_leader 7 = .ok (.iconst 1, 1) := by decide +kernel
theorem dX4_leader_8 : decode cX4_leader 8 = .ok (.sipush 400, 3) := by decide +kernel
theorem dX4_leader_11 : decode cX4_leader 11 = .ok (.invokestatic 68, 3) := by decide +kernel
theorem dX4_leader_14 : decode cX4_leader 14 = .ok (.ifCond .ne 5, 3) := by decide +kernel
theorem dX4_leader_17 : decode cX4_leader 17 = .ok (.iload_n 3, 1) := by decide +kernel
theorem dX4_leader_18 : decode cX4_leader 18 = .ok (.ireturn, 1) := by decide +kernel
theorem dX4_leader_19 : decode cX4_leader 19 = .ok (.iconst 0, 1) := by decide +kernel
theorem dX4_leader_20 : decode cX4_leader 20 = .ok (.istore 5, 2) := by decide +kernel
theorem dX4_leader_22 : decode cX4_leader 22 = .ok (.iload 5, 2) := by decide +kernel
theorem dX4_leader_24 : decode cX4_leader 24 = .ok (.aload_n 0, 1) := by decide +kernel
theorem dX4_leader_25 : decode cX4_leader 25 = .ok (.getfield 56, 3) := by decide +kernel
theorem dX4_leader_28 : decode cX4_leader 28 = .ok (.if_icmp .ge 47, 3) := by decide +kernel
theorem dX4_leader_31 : decode cX4_leader 31 = .ok (.aload_n 0, 1) := by decide +kernel
theorem dX4_leader_32 : decode cX4_leader 32 = .ok (.getfield 18, 3) := by decide +kernel
theorem dX4_leader_35 : decode cX4_leader 35 = .ok (.iload_n 2, 1) := by decide +kernel
theorem dX4_leader_36 : decode cX4_leader 36 = .ok (.bipush 8, 2) := by decide +kernel
theorem dX4_leader_38 : decode cX4_leader 38 = .ok (.imul, 1) := by decide +kernel
theorem dX4_leader_39 : decode cX4_leader 39 = .ok (.iload 5, 2) := by decide +kernel
theorem dX4_leader_41 : decode cX4_leader 41 = .ok (.iadd, 1) := by decide +kernel
theorem dX4_leader_42 : decode cX4_leader 42 = .ok (.iaload, 1) := by decide +kernel
theorem dX4_leader_43 : decode cX4_leader 43 = .ok (.istore 6, 2) := by decide +kernel
theorem dX4_leader_45 : decode cX4_leader 45 = .ok (.iload_n 1, 1) := by decide +kernel
theorem dX4_leader_46 : decode cX4_leader 46 = .ok (.iload 5, 2) := by decide +kernel
theorem dX4_leader_48 : decode cX4_leader 48 = .ok (.ishr, 1) := by decide +kernel
theorem dX4_leader_49 : decode cX4_leader 49 = .ok (.iconst 1, 1) := by decide +kernel
theorem dX4_leader_50 : decode cX4_leader 50 = .ok (.iand, 1) := by decide +kernel
theorem dX4_leader_51 : decode cX4_leader 51 = .ok (.iconst 1, 1) := by decide +kernel
theorem dX4_leader_52 : decode cX4_leader 52 = .ok (.if_icmp .ne 17, 3) := by decide +kernel
theorem dX4_leader_55 : decode cX4_leader 55 = .ok (.iload 6, 2) := by decide +kernel
theorem dX4_leader_57 : decode cX4_leader 57 = .ok (.iload 4, 2) := by decide +kernel
theorem dX4_leader_59 : decode cX4_leader 59 = .ok (.if_icmp .ge 10, 3) := by decide +kernel
theorem dX4_leader_62 : decode cX4_leader 62 = .ok (.iload 6, 2) := by decide +kernel
theorem dX4_leader_64 : decode cX4_leader 64 = .ok (.istore 4, 2) := by decide +kernel
theorem dX4_leader_66 : decode cX4_leader 66 = .ok (.iload 5, 2) := by decide +kernel
theorem dX4_leader_68 : decode cX4_leader 68 = .ok (.istore_n 3, 1) := by decide +kernel
theorem dX4_leader_69 : decode cX4_leader 69 = .ok (.iinc 5 1, 3) := by decide +kernel
theorem dX4_leader_72 : decode cX4_leader 72 = .ok (.goto (-50), 3) := by decide +kernel
theorem dX4_leader_75 : decode cX4_leader 75 = .ok (.iload_n 3, 1) := by decide +kernel
theorem dX4_leader_76 : decode cX4_leader 76 = .ok (.ireturn, 1) := by decide +kernel
theorem dX4_held_0 : decode cX4_held 0 = .ok (.sipush 600, 3) := by decide +kernel
theorem dX4_held_3 : decode cX4_held 3 = .ok (.iload_n 1, 1) := by decide +kernel
theorem dX4_held_4 : decode cX4_held 4 = .ok (.imul, 1) := by decide +kernel
theorem dX4_held_5 : decode cX4_held 5 = .ok (.aload_n 0, 1) := by decide +kernel
theorem dX4_held_6 : decode cX4_held 6 = .ok (.getfield 40, 3) := by decide +kernel
theorem dX4_held_9 : decode cX4_held 9 = .ok (.idiv, 1) := by decide +kernel
theorem dX4_held_10 : decode cX4_held 10 = .ok (.sipush 600, 3) := by decide +kernel
theorem dX4_held_13 : decode cX4_held 13 = .ok (.iload_n 1, 1) := by decide +kernel
theorem dX4_held_14 : decode cX4_held 14 = .ok (.imul, 1) := by decide +kernel
theorem dX4_held_15 : decode cX4_held 15 = .ok (.aload_n 0, 1) := by decide +kernel
theorem dX4_held_16 : decode cX4_held 16 = .ok (.getfield 37, 3) := by decide +kernel
theorem dX4_held_19 : decode cX4_held 19 = .ok (.idiv, 1) := by decide +kernel
theorem dX4_held_20 : decode cX4_held 20 = .ok (.iload_n 2, 1) := by decide +kernel
theorem dX4_held_21 : decode cX4_held 21 = .ok (.invokestatic 95, 3) := by decide +kernel
theorem dX4_held_24 : decode cX4_held 24 = .ok (.invokestatic 31, 3) := by decide +kernel
theorem dX4_held_27 : decode cX4_held 27 = .ok (.ireturn, 1) := by decide +kernel
theorem dX4_misses_0 : decode cX4_misses 0 = .ok (.iload_n 2, 1) := by decide +kernel
theorem dX4_misses_1 : decode cX4_misses 1 = .ok (.aload_n 0, 1) := by decide +kernel
theorem dX4_misses_2 : decode cX4_misses 2 = .ok (.iload_n 1, 1) := by decide +kernel
theorem dX4_misses_3 : decode cX4_misses 3 = .ok (.iload_n 2, 1) := by decide +kernel
theorem dX4_misses_4 : decode cX4_misses 4 = .ok (.invokevirtual 98, 3) := by decide +kernel
theorem dX4_misses_7 : decode cX4_misses 7 = .ok (.isub, 1) := by decide +kernel
theorem dX4_misses_8 : decode cX4_misses 8 = .ok (.invokestatic 101, 3) := by decide +kernel
theorem dX4_misses_11 : decode cX4_misses 11 = .ok (.ireturn, 1) := by decide +kernel
theorem dX4_bestBeats_0 : decode cX4_bestBeats 0 = .ok (.bipush (-2), 2) := by decide +kernel
theorem dX4_bestBeats_2 : decode cX4_bestBeats 2 = .ok (.istore_n 2, 1) := by decide +kernel
theorem dX4_bestBeats_3 : decode cX4_bestBeats 3 = .ok (.iconst 0, 1) := by decide +kernel
theorem dX4_bestBeats_4 : decode cX4_bestBeats 4 = .ok (.istore_n 3, 1) := by decide +kernel
theorem dX4_bestBeats_5 : decode cX4_bestBeats 5 = .ok (.iconst 1, 1) := by decide +kernel
theorem dX4_bestBeats_6 : decode cX4_bestBeats 6 = .ok (.istore 4, 2) := by decide +kernel
theorem dX4_bestBeats_8 : decode cX4_bestBeats 8 = .ok (.iload 4, 2) := by decide +kernel
theorem dX4_bestBeats_10 : decode cX4_bestBeats 10 = .ok (.sipush 400, 3) := by decide +kernel
theorem dX4_bestBeats_13 : decode cX4_bestBeats 13 = .ok (.if_icmp .gt 48, 3) := by decide +kernel
theorem dX4_bestBeats_16 : decode cX4_bestBeats 16 = .ok (.aload_n 0, 1) := by decide +kernel
theorem dX4_bestBeats_17 : decode cX4_bestBeats 17 = .ok (.iload 4, 2) := by decide +kernel
theorem dX4_bestBeats_19 : decode cX4_bestBeats 19 = .ok (.iload_n 1, 1) := by decide +kernel
theorem dX4_bestBeats_20 : decode cX4_bestBeats 20 = .ok (.invokevirtual 104, 3) := by decide +kernel
theorem dX4_bestBeats_23 : decode cX4_bestBeats 23 = .ok (.istore 5, 2) := by decide +kernel
theorem dX4_bestBeats_25 : decode cX4_bestBeats 25 = .ok (.aload_n 0, 1) := by decide +kernel
theorem dX4_bestBeats_26 : decode cX4_bestBeats 26 = .ok (.getfield 21, 3) := by decide +kernel
theorem dX4_bestBeats_29 : decode cX4_bestBeats 29 = .ok (.iload 4, 2) := by decide +kernel
theorem dX4_bestBeats_31 : decode cX4_bestBeats 31 = .ok (.iaload, 1) := by decide +kernel
theorem dX4_bestBeats_32 : decode cX4_bestBeats 32 = .ok (.bipush 17, 2) := by decide +kernel
theorem dX4_bestBeats_34 : decode cX4_bestBeats 34 = .ok (.if_icmp .eq 21, 3) := by decide +kernel
theorem dX4_bestBeats_37 : decode cX4_bestBeats 37 = .ok (.iload_n 2, 1) := by decide +kernel
theorem dX4_bestBeats_38 : decode cX4_bestBeats 38 = .ok (.bipush (-2), 2) := by decide +kernel
theorem dX4_bestBeats_40 : decode cX4_bestBeats 40 = .ok (.if_icmp .eq 9, 3) := by decide +kernel
theorem dX4_bestBeats_43 : decode cX4_bestBeats 43 = .ok (.iload 5, 2) := by decide +kernel
theorem dX4_bestBeats_45 : decode cX4_bestBeats 45 = .ok (.iload_n 3, 1) := by decide +kernel
theorem dX4_bestBeats_46 : decode cX4_bestBeats 46 = .ok (.if_icmp .ge 9, 3) := by decide +kernel
theorem dX4_bestBeats_49 : decode cX4_bestBeats 49 = .ok (.iload 5, 2) := by decide +kernel
theorem dX4_bestBeats_51 : decode cX4_bestBeats 51 = .ok (.istore_n 3, 1) := by decide +kernel
theorem dX4_bestBeats_52 : decode cX4_bestBeats 52 = .ok (.iload 4, 2) := by decide +kernel
theorem dX4_bestBeats_54 : decode cX4_bestBeats 54 = .ok (.istore_n 2, 1) := by decide +kernel
theorem dX4_bestBeats_55 : decode cX4_bestBeats 55 = .ok (.iinc 4 1, 3) := by decide +kernel
theorem dX4_bestBeats_58 : decode cX4_bestBeats 58 = .ok (.goto (-50), 3) := by decide +kernel
theorem dX4_bestBeats_61 : decode cX4_bestBeats 61 = .ok (.iload_n 2, 1) := by decide +kernel
theorem dX4_bestBeats_62 : decode cX4_bestBeats 62 = .ok (.ireturn, 1) := by decide +kernel
theorem dJ6_bitCount_0f7a4_0 : decode cJ6_bitCount_0f7a4 0 = .ok (.iload_n 0, 1) := by decide +kernel
theorem dJ6_bitCount_0f7a4_1 : decode cJ6_bitCount_0f7a4 1 = .ok (.iload_n 0, 1) := by decide +kernel
theorem dJ6_bitCount_0f7a4_2 : decode cJ6_bitCount_0f7a4 2 = .ok (.iconst 1, 1) := by decide +kernel
theorem dJ6_bitCount_0f7a4_3 : decode cJ6_bitCount_0f7a4 3 = .ok (.iushr, 1) := by decide +kernel
theorem dJ6_bitCount_0f7a4_4 : decode cJ6_bitCount_0f7a4 4 = .ok (.ldc_w 265, 3) := by decide +kernel
theorem dJ6_bitCount_0f7a4_7 : decode cJ6_bitCount_0f7a4 7 = .ok (.iand, 1) := by decide +kernel
theorem dJ6_bitCount_0f7a4_8 : decode cJ6_bitCount_0f7a4 8 = .ok (.isub, 1) := by decide +kernel
theorem dJ6_bitCount_0f7a4_9 : decode cJ6_bitCount_0f7a4 9 = .ok (.istore_n 0, 1) := by decide +kernel
theorem dJ6_bitCount_0f7a4_10 : decode cJ6_bitCount_0f7a4 10 = .ok (.iload_n 0, 1) := by decide +kernel
theorem dJ6_bitCount_0f7a4_11 : decode cJ6_bitCount_0f7a4 11 = .ok (.ldc_w 266, 3) := by decide +kernel
theorem dJ6_bitCount_0f7a4_14 : decode cJ6_bitCount_0f7a4 14 = .ok (.iand, 1) := by decide +kernel
theorem dJ6_bitCount_0f7a4_15 : decode cJ6_bitCount_0f7a4 15 = .ok (.iload_n 0, 1) := by decide +kernel
theorem dJ6_bitCount_0f7a4_16 : decode cJ6_bitCount_0f7a4 16 = .ok (.iconst 2, 1) := by decide +kernel
theorem dJ6_bitCount_0f7a4_17 : decode cJ6_bitCount_0f7a4 17 = .ok (.iushr, 1) := by decide +kernel
theorem dJ6_bitCount_0f7a4_18 : decode cJ6_bitCount_0f7a4 18 = .ok (.ldc_w 266, 3) := by decide +kernel
theorem dJ6_bitCount_0f7a4_21 : decode cJ6_bitCount_0f7a4 21 = .ok (.iand, 1) := by decide +kernel
theorem dJ6_bitCount_0f7a4_22 : decode cJ6_bitCount_0f7a4 22 = .ok (.iadd, 1) := by decide +kernel
theorem dJ6_bitCount_0f7a4_23 : decode cJ6_bitCount_0f7a4 23 = .ok (.istore_n 0, 1) := by decide +kernel
theorem dJ6_bitCount_0f7a4_24 : decode cJ6_bitCount_0f7a4 24 = .ok (.iload_n 0, 1) := by decide +kernel
theorem dJ6_bitCount_0f7a4_25 : decode cJ6_bitCount_0f7a4 25 = .ok (.iload_n 0, 1) := by decide +kernel
theorem dJ6_bitCount_0f7a4_26 : decode cJ6_bitCount_0f7a4 26 = .ok (.iconst 4, 1) := by decide +kernel
theorem dJ6_bitCount_0f7a4_27 : decode cJ6_bitCount_0f7a4 27 = .ok (.iushr, 1) := by decide +kernel
theorem dJ6_bitCount_0f7a4_28 : decode cJ6_bitCount_0f7a4 28 = .ok (.iadd, 1) := by decide +kernel
theorem dJ6_bitCount_0f7a4_29 : decode cJ6_bitCount_0f7a4 29 = .ok (.ldc_w 267, 3) := by decide +kernel
theorem dJ6_bitCount_0f7a4_32 : decode cJ6_bitCount_0f7a4 32 = .ok (.iand, 1) := by decide +kernel
theorem dJ6_bitCount_0f7a4_33 : decode cJ6_bitCount_0f7a4 33 = .ok (.istore_n 0, 1) := by decide +kernel
theorem dJ6_bitCount_0f7a4_34 : decode cJ6_bitCount_0f7a4 34 = .ok (.iload_n 0, 1) := by decide +kernel
theorem dJ6_bitCount_0f7a4_35 : decode cJ6_bitCount_0f7a4 35 = .ok (.iload_n 0, 1) := by decide +kernel
theorem dJ6_bitCount_0f7a4_36 : decode cJ6_bitCount_0f7a4 36 = .ok (.bipush 8, 2) := by decide +kernel
theorem dJ6_bitCount_0f7a4_38 : decode cJ6_bitCount_0f7a4 38 = .ok (.iushr, 1) := by decide +kernel
theorem dJ6_bitCount_0f7a4_39 : decode cJ6_bitCount_0f7a4 39 = .ok (.iadd, 1) := by decide +kernel
theorem dJ6_bitCount_0f7a4_40 : decode cJ6_bitCount_0f7a4 40 = .ok (.istore_n 0, 1) := by decide +kernel
theorem dJ6_bitCount_0f7a4_41 : decode cJ6_bitCount_0f7a4 41 = .ok (.iload_n 0, 1) := by decide +kernel
theorem dJ6_bitCount_0f7a4_42 : decode cJ6_bitCount_0f7a4 42 = .ok (.iload_n 0, 1) := by decide +kernel
theorem dJ6_bitCount_0f7a4_43 : decode cJ6_bitCount_0f7a4 43 = .ok (.bipush 16, 2) := by decide +kernel
theorem dJ6_bitCount_0f7a4_45 : decode cJ6_bitCount_0f7a4 45 = .ok (.iushr, 1) := by decide +kernel
theorem dJ6_bitCount_0f7a4_46 : decode cJ6_bitCount_0f7a4 46 = .ok (.iadd, 1) := by decide +kernel
theorem dJ6_bitCount_0f7a4_47 : decode cJ6_bitCount_0f7a4 47 = .ok (.istore_n 0, 1) := by decide +kernel
theorem dJ6_bitCount_0f7a4_48 : decode cJ6_bitCount_0f7a4 48 = .ok (.iload_n 0, 1) := by decide +kernel
theorem dJ6_bitCount_0f7a4_49 : decode cJ6_bitCount_0f7a4 49 = .ok (.bipush 63, 2) := by decide +kernel
theorem dJ6_bitCount_0f7a4_51 : decode cJ6_bitCount_0f7a4 51 = .ok (.iand, 1) := by decide +kernel
theorem dJ6_bitCount_0f7a4_52 : decode cJ6_bitCount_0f7a4 52 = .ok (.ireturn, 1) := by decide +kernel
theorem dJ9_floorMod_7cf53_0 : decode cJ9_floorMod_7cf53 0 = .ok (.iload_n 0, 1) := by decide +kernel
theorem dJ9_floorMod_7cf53_1 : decode cJ9_floorMod_7cf53 1 = .ok (.iload_n 1, 1) := by decide +kernel
theorem dJ9_floorMod_7cf53_2 : decode cJ9_floorMod_7cf53 2 = .ok (.irem, 1) := by decide +kernel
theorem dJ9_floorMod_7cf53_3 : decode cJ9_floorMod_7cf53 3 = .ok (.istore_n 2, 1) := by decide +kernel
theorem dJ9_floorMod_7cf53_4 : decode cJ9_floorMod_7cf53 4 = .ok (.iload_n 0, 1) := by decide +kernel
theorem dJ9_floorMod_7cf53_5 : decode cJ9_floorMod_7cf53 5 = .ok (.iload_n 1, 1) := by decide +kernel
theorem dJ9_floorMod_7cf53_6 : decode cJ9_floorMod_7cf53 6 = .ok (.ixor, 1) := by decide +kernel
theorem dJ9_floorMod_7cf53_7 : decode cJ9_floorMod_7cf53 7 = .ok (.ifCond .ge 11, 3) := by decide +kernel
theorem dJ9_floorMod_7cf53_10 : decode cJ9_floorMod_7cf53 10 = .ok (.iload_n 2, 1) := by decide +kernel
theorem dJ9_floorMod_7cf53_11 : decode cJ9_floorMod_7cf53 11 = .ok (.ifCond .eq 7, 3) := by decide +kernel
theorem dJ9_floorMod_7cf53_14 : decode cJ9_floorMod_7cf53 14 = .ok (.iload_n 2, 1) := by decide +kernel
theorem dJ9_floorMod_7cf53_15 : decode cJ9_floorMod_7cf53 15 = .ok (.iload_n 1, 1) := by decide +kernel
theorem dJ9_floorMod_7cf53_16 : decode cJ9_floorMod_7cf53 16 = .ok (.iadd, 1) := by decide +kernel
theorem dJ9_floorMod_7cf53_17 : decode cJ9_floorMod_7cf53 17 = .ok (.ireturn, 1) := by decide +kernel
theorem dJ9_floorMod_7cf53_18 : decode cJ9_floorMod_7cf53 18 = .ok (.iload_n 2, 1) := by decide +kernel
theorem dJ9_floorMod_7cf53_19 : decode cJ9_floorMod_7cf53 19 = .ok (.ireturn, 1) := by decide +kernel
theorem dJ9_abs_0f7a4_0 : decode cJ9_abs_0f7a4 0 = .ok (.iload_n 0, 1) := by decide +kernel
theorem dJ9_abs_0f7a4_1 : decode cJ9_abs_0f7a4 1 = .ok (.ifCond .ge 8, 3) := by decide +kernel
theorem dJ9_abs_0f7a4_4 : decode cJ9_abs_0f7a4 4 = .ok (.iload_n 0, 1) := by decide +kernel
theorem dJ9_abs_0f7a4_5 : decode cJ9_abs_0f7a4 5 = .ok (.ineg, 1) := by decide +kernel
theorem dJ9_abs_0f7a4_6 : decode cJ9_abs_0f7a4 6 = .ok (.goto 4, 3) := by decide +kernel
theorem dJ9_abs_0f7a4_9 : decode cJ9_abs_0f7a4 9 = .ok (.iload_n 0, 1) := by decide +kernel
theorem dJ9_abs_0f7a4_10 : decode cJ9_abs_0f7a4 10 = .ok (.ireturn, 1) := by decide +kernel
theorem dJ9_max_7cf53_0 : decode cJ9_max_7cf53 0 = .ok (.iload_n 0, 1) := by decide +kernel
theorem dJ9_max_7cf53_1 : decode cJ9_max_7cf53 1 = .ok (.iload_n 1, 1) := by decide +kernel
theorem dJ9_max_7cf53_2 : decode cJ9_max_7cf53 2 = .ok (.if_icmp .lt 7, 3) := by decide +kernel
theorem dJ9_max_7cf53_5 : decode cJ9_max_7cf53 5 = .ok (.iload_n 0, 1) := by decide +kernel
theorem dJ9_max_7cf53_6 : decode cJ9_max_7cf53 6 = .ok (.goto 4, 3) := by decide +kernel
theorem dJ9_max_7cf53_9 : decode cJ9_max_7cf53 9 = .ok (.iload_n 1, 1) := by decide +kernel
theorem dJ9_max_7cf53_10 : decode cJ9_max_7cf53 10 = .ok (.ireturn, 1) := by decide +kernel
theorem dJ9_min_7cf53_0 : decode cJ9_min_7cf53 0 = .ok (.iload_n 0, 1) := by decide +kernel
theorem dJ9_min_7cf53_1 : decode cJ9_min_7cf53 1 = .ok (.iload_n 1, 1) := by decide +kernel
theorem dJ9_min_7cf53_2 : decode cJ9_min_7cf53 2 = .ok (.if_icmp .gt 7, 3) := by decide +kernel
theorem dJ9_min_7cf53_5 : decode cJ9_min_7cf53 5 = .ok (.iload_n 0, 1) := by decide +kernel
theorem dJ9_min_7cf53_6 : decode cJ9_min_7cf53 6 = .ok (.goto 4, 3) := by decide +kernel
theorem dJ9_min_7cf53_9 : decode cJ9_min_7cf53 9 = .ok (.iload_n 1, 1) := by decide +kernel
theorem dJ9_min_7cf53_10 : decode cJ9_min_7cf53 10 = .ok (.ireturn, 1) := by decide +kernel
theorem dJxa1e45_init_da8c8_0 : decode cJxa1e45_init_da8c8 0 = .ok (.aload_n 0, 1) := by decide +kernel
theorem dJxa1e45_init_da8c8_1 : decode cJxa1e45_init_da8c8 1 = .ok (.invokespecial 1, 3) := by decide +kernel
theorem dJxa1e45_init_da8c8_4 : decode cJxa1e45_init_da8c8 4 = .ok (.return_, 1) := by decide +kernel
theorem dJxc12de_init_da8c8_0 : decode cJxc12de_init_da8c8 0 = .ok (.aload_n 0, 1) := by decide +kernel
theorem dJxc12de_init_da8c8_1 : decode cJxc12de_init_da8c8 1 = .ok (.invokespecial 1, 3) := by decide +kernel
theorem dJxc12de_init_da8c8_4 : decode cJxc12de_init_da8c8 4 = .ok (.aload_n 0, 1) := by decide +kernel
theorem dJxc12de_init_da8c8_5 : decode cJxc12de_init_da8c8 5 = .ok (.iconst 0, 1) := by decide +kernel
theorem dJxc12de_init_da8c8_6 : decode cJxc12de_init_da8c8 6 = .ok (.putfield 7, 3) := by decide +kernel
theorem dJxc12de_init_da8c8_9 : decode cJxc12de_init_da8c8 9 = .ok (.return_, 1) := by decide +kernel
theorem dJx4a65c_init_da8c8_0 : decode cJx4a65c_init_da8c8 0 = .ok (.aload_n 0, 1) := by decide +kernel
theorem dJx4a65c_init_da8c8_1 : decode cJx4a65c_init_da8c8 1 = .ok (.invokespecial 1, 3) := by decide +kernel
theorem dJx4a65c_init_da8c8_4 : decode cJx4a65c_init_da8c8 4 = .ok (.aload_n 0, 1) := by decide +kernel
theorem dJx4a65c_init_da8c8_5 : decode cJx4a65c_init_da8c8 5 = .ok (.getstatic 39, 3) := by decide +kernel
theorem dJx4a65c_init_da8c8_8 : decode cJx4a65c_init_da8c8 8 = .ok (.putfield 9, 3) := by decide +kernel
theorem dJx4a65c_init_da8c8_11 : decode cJx4a65c_init_da8c8 11 = .ok (.return_, 1) := by decide +kernel
theorem dJx4a65c_grow_92f84_0 : decode cJx4a65c_grow_92f84 0 = .ok (.aload_n 0, 1) := by decide +kernel
theorem dJx4a65c_grow_92f84_1 : decode cJx4a65c_grow_92f84 1 = .ok (.getfield 9, 3) := by decide +kernel
theorem dJx4a65c_grow_92f84_4 : decode cJx4a65c_grow_92f84 4 = .ok (.arraylength, 1) := by decide +kernel
theorem dJx4a65c_grow_92f84_5 : decode cJx4a65c_grow_92f84 5 = .ok (.istore_n 2, 1) := by decide +kernel
theorem dJx4a65c_grow_92f84_6 : decode cJx4a65c_grow_92f84 6 = .ok (.iload_n 2, 1) := by decide +kernel
theorem dJx4a65c_grow_92f84_7 : decode cJx4a65c_grow_92f84 7 = .ok (.ifCond .gt 13, 3) := by decide +kernel
theorem dJx4a65c_grow_92f84_10 : decode cJx4a65c_grow_92f84 10 = .ok (.aload_n 0, 1) := by decide +kernel
theorem dJx4a65c_grow_92f84_11 : decode cJx4a65c_grow_92f84 11 = .ok (.getfield 9, 3) := by decide +kernel
theorem dJx4a65c_grow_92f84_14 : decode cJx4a65c_grow_92f84 14 = .ok (.getstatic 39, 3) := by decide +kernel
theorem dJx4a65c_grow_92f84_17 : decode cJx4a65c_grow_92f84 17 = .ok (.if_acmp .eq 28, 3) := by decide +kernel
theorem dJx4a65c_grow_92f84_20 : decode cJx4a65c_grow_92f84 20 = .ok (.iload_n 2, 1) := by decide +kernel
theorem dJx4a65c_grow_92f84_21 : decode cJx4a65c_grow_92f84 21 = .ok (.iload_n 1, 1) := by decide +kernel
theorem dJx4a65c_grow_92f84_22 : decode cJx4a65c_grow_92f84 22 = .ok (.iload_n 2, 1) := by decide +kernel
theorem dJx4a65c_grow_92f84_23 : decode cJx4a65c_grow_92f84 23 = .ok (.isub, 1) := by decide +kernel
theorem dJx4a65c_grow_92f84_24 : decode cJx4a65c_grow_92f84 24 = .ok (.iload_n 2, 1) := by decide +kernel
theorem dJx4a65c_grow_92f84_25 : decode cJx4a65c_grow_92f84 25 = .ok (.iconst 1, 1) := by decide +kernel
theorem dJx4a65c_grow_92f84_26 : decode cJx4a65c_grow_92f84 26 = .ok (.ishr, 1) := by decide +kernel
theorem dJx4a65c_grow_92f84_27 : decode cJx4a65c_grow_92f84 27 = .ok (.invokestatic 73, 3) := by decide +kernel
theorem dJx4a65c_grow_92f84_30 : decode cJx4a65c_grow_92f84 30 = .ok (.istore_n 3, 1) := by decide +kernel
theorem dJx4a65c_grow_92f84_31 : decode cJx4a65c_grow_92f84 31 = .ok (.aload_n 0, 1) := by decide +kernel
theorem dJx4a65c_grow_92f84_32 : decode cJx4a65c_grow_92f84 32 = .ok (.aload_n 0, 1) := by decide +kernel
theorem dJx4a65c_grow_92f84_33 : decode cJx4a65c_grow_92f84 33 = .ok (.getfield 9, 3) := by decide +kernel
theorem dJx4a65c_grow_92f84_36 : decode cJx4a65c_grow_92f84 36 = .ok (.iload_n 3, 1) := by decide +kernel
theorem dJx4a65c_grow_92f84_37 : decode cJx4a65c_grow_92f84 37 = .ok (.invokestatic 66, 3) := by decide +kernel
theorem dJx4a65c_grow_92f84_40 : decode cJx4a65c_grow_92f84 40 = .ok (.dup_x1, 1) := by decide +kernel
theorem dJx4a65c_grow_92f84_41 : decode cJx4a65c_grow_92f84 41 = .ok (.putfield 9, 3) := by decide +kernel
theorem dJx4a65c_grow_92f84_44 : decode cJx4a65c_grow_92f84 44 = .ok (.areturn, 1) := by decide +kernel
theorem dJx4a65c_grow_92f84_45 : decode cJx4a65c_grow_92f84 45 = .ok (.aload_n 0, 1) := by decide +kernel
theorem dJx4a65c_grow_92f84_46 : decode cJx4a65c_grow_92f84 46 = .ok (.bipush 10, 2) := by decide +kernel
theorem dJx4a65c_grow_92f84_48 : decode cJx4a65c_grow_92f84 48 = .ok (.iload_n 1, 1) := by decide +kernel
theorem dJx4a65c_grow_92f84_49 : decode cJx4a65c_grow_92f84 49 = .ok (.invokestatic 79, 3) := by decide +kernel
theorem dJx4a65c_grow_92f84_52 : decode cJx4a65c_grow_92f84 52 = .ok (.anewarray 7, 3) := by decide +kernel
theorem dJx4a65c_grow_92f84_55 : decode cJx4a65c_grow_92f84 55 = .ok (.dup_x1, 1) := by decide +kernel
theorem dJx4a65c_grow_92f84_56 : decode cJx4a65c_grow_92f84 56 = .ok (.putfield 9, 3) := by decide +kernel
theorem dJx4a65c_grow_92f84_59 : decode cJx4a65c_grow_92f84 59 = .ok (.areturn, 1) := by decide +kernel
theorem dJx4a65c_grow_d5877_0 : decode cJx4a65c_grow_d5877 0 = .ok (.aload_n 0, 1) := by decide +kernel
theorem dJx4a65c_grow_d5877_1 : decode cJx4a65c_grow_d5877 1 = .ok (.aload_n 0, 1) := by decide +kernel
theorem dJx4a65c_grow_d5877_2 : decode cJx4a65c_grow_d5877 2 = .ok (.getfield 48, 3) := by decide +kernel
theorem dJx4a65c_grow_d5877_5 : decode cJx4a65c_grow_d5877 5 = .ok (.iconst 1, 1) := by decide +kernel
theorem dJx4a65c_grow_d5877_6 : decode cJx4a65c_grow_d5877 6 = .ok (.iadd, 1) := by decide +kernel
theorem dJx4a65c_grow_d5877_7 : decode cJx4a65c_grow_d5877 7 = .ok (.invokevirtual 69, 3) := by decide +kernel
theorem dJx4a65c_grow_d5877_10 : decode cJx4a65c_grow_d5877 10 = .ok (.areturn, 1) := by decide +kernel
theorem dJx4a65c_size_8abf5_0 : decode cJx4a65c_size_8abf5 0 = .ok (.aload_n 0, 1) := by decide +kernel
theorem dJx4a65c_size_8abf5_1 : decode cJx4a65c_size_8abf5 1 = .ok (.getfield 48, 3) := by decide +kernel
theorem dJx4a65c_size_8abf5_4 : decode cJx4a65c_size_8abf5 4 = .ok (.ireturn, 1) := by decide +kernel
theorem dJx4a65c_isEmpty_aae02_0 : decode cJx4a65c_isEmpty_aae02 0 = .ok (.aload_n 0, 1) := by decide +kernel
theorem dJx4a65c_isEmpty_aae02_1 : decode cJx4a65c_isEmpty_aae02 1 = .ok (.getfield 48, 3) := by decide +kernel
theorem dJx4a65c_isEmpty_aae02_4 : decode cJx4a65c_isEmpty_aae02 4 = .ok (.ifCond .ne 7, 3) := by decide +kernel
theorem dJx4a65c_isEmpty_aae02_7 : decode cJx4a65c_isEmpty_aae02 7 = .ok (.iconst 1, 1) := by decide +kernel
theorem dJx4a65c_isEmpty_aae02_8 : decode cJx4a65c_isEmpty_aae02 8 = .ok (.goto 4, 3) := by decide +kernel
theorem dJx4a65c_isEmpty_aae02_11 : decode cJx4a65c_isEmpty_aae02 11 = .ok (.iconst 0, 1) := by decide +kernel
theorem dJx4a65c_isEmpty_aae02_12 : decode cJx4a65c_isEmpty_aae02 12 = .ok (.ireturn, 1) := by decide +kernel
theorem dJx4a65c_elementData_915e3_0 : decode cJx4a65c_elementData_915e3 0 = .ok (.aload_n 0, 1) := by decide +kernel
theorem dJx4a65c_elementData_915e3_1 : decode cJx4a65c_elementData_915e3 1 = .ok (.getfield 9, 3) := by decide +kernel
theorem dJx4a65c_elementData_915e3_4 : decode cJx4a65c_elementData_915e3 4 = .ok (.iload_n 1, 1) := by decide +kernel
theorem dJx4a65c_elementData_915e3_5 : decode cJx4a65c_elementData_915e3 5 = .ok (.aaload, 1) := by decide +kernel
theorem dJx4a65c_elementData_915e3_6 : decode cJx4a65c_elementData_915e3 6 = .ok (.areturn, 1) := by decide +kernel
theorem dJx4a65c_get_915e3_0 : decode cJx4a65c_get_915e3 0 = .ok (.iload_n 1, 1) := by decide +kernel
theorem dJx4a65c_get_915e3_1 : decode cJx4a65c_get_915e3 1 = .ok (.aload_n 0, 1) := by decide +kernel
theorem dJx4a65c_get_915e3_2 : decode cJx4a65c_get_915e3 2 = .ok (.getfield 48, 3) := by decide +kernel
theorem dJx4a65c_get_915e3_5 : decode cJx4a65c_get_915e3 5 = .ok (.invokestatic 118, 3) := by decide +kernel
theorem dJx4a65c_get_915e3_8 : decode cJx4a65c_get_915e3 8 = .ok (.pop, 1) := by decide +kernel
theorem dJx4a65c_get_915e3_9 : decode cJx4a65c_get_915e3 9 = .ok (.aload_n 0, 1) := by decide +kernel
theorem dJx4a65c_get_915e3_10 : decode cJx4a65c_get_915e3 10 = .ok (.iload_n 1, 1) := by decide +kernel
theorem dJx4a65c_get_915e3_11 : decode cJx4a65c_get_915e3 11 = .ok (.invokevirtual 123, 3) := by decide +kernel
theorem dJx4a65c_get_915e3_14 : decode cJx4a65c_get_915e3 14 = .ok (.areturn, 1) := by decide +kernel
theorem dJx4a65c_add_72be8_0 : decode cJx4a65c_add_72be8 0 = .ok (.iload_n 3, 1) := by decide +kernel
theorem dJx4a65c_add_72be8_1 : decode cJx4a65c_add_72be8 1 = .ok (.aload_n 2, 1) := by decide +kernel
theorem dJx4a65c_add_72be8_2 : decode cJx4a65c_add_72be8 2 = .ok (.arraylength, 1) := by decide +kernel
theorem dJx4a65c_add_72be8_3 : decode cJx4a65c_add_72be8 3 = .ok (.if_icmp .ne 8, 3) := by decide +kernel
theorem dJx4a65c_add_72be8_6 : decode cJx4a65c_add_72be8 6 = .ok (.aload_n 0, 1) := by decide +kernel
theorem dJx4a65c_add_72be8_7 : decode cJx4a65c_add_72be8 7 = .ok (.invokevirtual 129, 3) := by decide +kernel
theorem dJx4a65c_add_72be8_10 : decode cJx4a65c_add_72be8 10 = .ok (.astore_n 2, 1) := by decide +kernel
theorem dJx4a65c_add_72be8_11 : decode cJx4a65c_add_72be8 11 = .ok (.aload_n 2, 1) := by decide +kernel
theorem dJx4a65c_add_72be8_12 : decode cJx4a65c_add_72be8 12 = .ok (.iload_n 3, 1) := by decide +kernel
theorem dJx4a65c_add_72be8_13 : decode cJx4a65c_add_72be8 13 = .ok (.aload_n 1, 1) := by decide +kernel
theorem dJx4a65c_add_72be8_14 : decode cJx4a65c_add_72be8 14 = .ok (.aastore, 1) := by decide +kernel
theorem dJx4a65c_add_72be8_15 : decode cJx4a65c_add_72be8 15 = .ok (.aload_n 0, 1) := by decide +kernel
theorem dJx4a65c_add_72be8_16 : decode cJx4a65c_add_72be8 16 = .ok (.iload_n 3, 1) := by decide +kernel
theorem dJx4a65c_add_72be8_17 : decode cJx4a65c_add_72be8 17 = .ok (.iconst 1, 1) := by decide +kernel
theorem dJx4a65c_add_72be8_18 : decode cJx4a65c_add_72be8 18 = .ok (.iadd, 1) := by decide +kernel
theorem dJx4a65c_add_72be8_19 : decode cJx4a65c_add_72be8 19 = .ok (.putfield 48, 3) := by decide +kernel
theorem dJx4a65c_add_72be8_22 : decode cJx4a65c_add_72be8 22 = .ok (.return_, 1) := by decide +kernel
theorem dJx4a65c_add_9ea2d_0 : decode cJx4a65c_add_9ea2d 0 = .ok (.aload_n 0, 1) := by decide +kernel
theorem dJx4a65c_add_9ea2d_1 : decode cJx4a65c_add_9ea2d 1 = .ok (.dup, 1) := by decide +kernel
theorem dJx4a65c_add_9ea2d_2 : decode cJx4a65c_add_9ea2d 2 = .ok (.getfield 63, 3) := by decide +kernel
theorem dJx4a65c_add_9ea2d_5 : decode cJx4a65c_add_9ea2d 5 = .ok (.iconst 1, 1) := by decide +kernel
theorem dJx4a65c_add_9ea2d_6 : decode cJx4a65c_add_9ea2d 6 = .ok (.iadd, 1) := by decide +kernel
theorem dJx4a65c_add_9ea2d_7 : decode cJx4a65c_add_9ea2d 7 = .ok (.putfield 63, 3) := by decide +kernel
theorem dJx4a65c_add_9ea2d_10 : decode cJx4a65c_add_9ea2d 10 = .ok (.aload_n 0, 1) := by decide +kernel
theorem dJx4a65c_add_9ea2d_11 : decode cJx4a65c_add_9ea2d 11 = .ok (.aload_n 1, 1) := by decide +kernel
theorem dJx4a65c_add_9ea2d_12 : decode cJx4a65c_add_9ea2d 12 = .ok (.aload_n 0, 1) := by decide +kernel
theorem dJx4a65c_add_9ea2d_13 : decode cJx4a65c_add_9ea2d 13 = .ok (.getfield 9, 3) := by decide +kernel
theorem dJx4a65c_add_9ea2d_16 : decode cJx4a65c_add_9ea2d 16 = .ok (.aload_n 0, 1) := by decide +kernel
theorem dJx4a65c_add_9ea2d_17 : decode cJx4a65c_add_9ea2d 17 = .ok (.getfield 48, 3) := by decide +kernel
theorem dJx4a65c_add_9ea2d_20 : decode cJx4a65c_add_9ea2d 20 = .ok (.invokevirtual 131, 3) := by decide +kernel
theorem dJx4a65c_add_9ea2d_23 : decode cJx4a65c_add_9ea2d 23 = .ok (.iconst 1, 1) := by decide +kernel
theorem dJx4a65c_add_9ea2d_24 : decode cJx4a65c_add_9ea2d 24 = .ok (.ireturn, 1) := by decide +kernel
theorem dJ7_fill_53178_0 : decode cJ7_fill_53178 0 = .ok (.iconst 0, 1) := by decide +kernel
theorem dJ7_fill_53178_1 : decode cJ7_fill_53178 1 = .ok (.istore_n 2, 1) := by decide +kernel
theorem dJ7_fill_53178_2 : decode cJ7_fill_53178 2 = .ok (.aload_n 0, 1) := by decide +kernel
theorem dJ7_fill_53178_3 : decode cJ7_fill_53178 3 = .ok (.arraylength, 1) := by decide +kernel
theorem dJ7_fill_53178_4 : decode cJ7_fill_53178 4 = .ok (.istore_n 3, 1) := by decide +kernel
theorem dJ7_fill_53178_5 : decode cJ7_fill_53178 5 = .ok (.iload_n 2, 1) := by decide +kernel
theorem dJ7_fill_53178_6 : decode cJ7_fill_53178 6 = .ok (.iload_n 3, 1) := by decide +kernel
theorem dJ7_fill_53178_7 : decode cJ7_fill_53178 7 = .ok (.if_icmp .ge 13, 3) := by decide +kernel
theorem dJ7_fill_53178_10 : decode cJ7_fill_53178 10 = .ok (.aload_n 0, 1) := by decide +kernel
theorem dJ7_fill_53178_11 : decode cJ7_fill_53178 11 = .ok (.iload_n 2, 1) := by decide +kernel
theorem dJ7_fill_53178_12 : decode cJ7_fill_53178 12 = .ok (.iload_n 1, 1) := by decide +kernel
theorem dJ7_fill_53178_13 : decode cJ7_fill_53178 13 = .ok (.iastore, 1) := by decide +kernel
theorem dJ7_fill_53178_14 : decode cJ7_fill_53178 14 = .ok (.iinc 2 1, 3) := by decide +kernel
theorem dJ7_fill_53178_17 : decode cJ7_fill_53178 17 = .ok (.goto (-12), 3) := by decide +kernel
theorem dJ7_fill_53178_20 : decode cJ7_fill_53178 20 = .ok (.return_, 1) := by decide +kernel
theorem dJ7_copyOf_1904c_0 : decode cJ7_copyOf_1904c 0 = .ok (.aload_n 0, 1) := by decide +kernel
theorem dJ7_copyOf_1904c_1 : decode cJ7_copyOf_1904c 1 = .ok (.iload_n 1, 1) := by decide +kernel
theorem dJ7_copyOf_1904c_2 : decode cJ7_copyOf_1904c 2 = .ok (.aload_n 0, 1) := by decide +kernel
theorem dJ7_copyOf_1904c_3 : decode cJ7_copyOf_1904c 3 = .ok (.invokevirtual 86, 3) := by decide +kernel
theorem dJ7_copyOf_1904c_6 : decode cJ7_copyOf_1904c 6 = .ok (.invokestatic 300, 3) := by decide +kernel
theorem dJ7_copyOf_1904c_9 : decode cJ7_copyOf_1904c 9 = .ok (.areturn, 1) := by decide +kernel
theorem dJ7_copyOf_6403c_0 : decode cJ7_copyOf_6403c 0 = .ok (.aload_n 2, 1) := by decide +kernel
theorem dJ7_copyOf_6403c_1 : decode cJ7_copyOf_6403c 1 = .ok (.ldc 110, 2) := by decide +kernel
theorem dJ7_copyOf_6403c_3 : decode cJ7_copyOf_6403c 3 = .ok (.if_acmp .ne 10, 3) := by decide +kernel
theorem dJ7_copyOf_6403c_6 : decode cJ7_copyOf_6403c 6 = .ok (.iload_n 1, 1) := by decide +kernel
theorem dJ7_copyOf_6403c_7 : decode cJ7_copyOf_6403c 7 = .ok (.anewarray 2, 3) := by decide +kernel
theorem dJ7_copyOf_6403c_10 : decode cJ7_copyOf_6403c 10 = .ok (.goto 14, 3) := by decide +kernel
theorem dJ7_copyOf_6403c_13 : decode cJ7_copyOf_6403c 13 = .ok (.aload_n 2, 1) := by decide +kernel
theorem dJ7_copyOf_6403c_14 : decode cJ7_copyOf_6403c 14 = .ok (.invokevirtual 90, 3) := by decide +kernel
theorem dJ7_copyOf_6403c_17 : decode cJ7_copyOf_6403c 17 = .ok (.iload_n 1, 1) := by decide +kernel
theorem dJ7_copyOf_6403c_18 : decode cJ7_copyOf_6403c 18 = .ok (.invokestatic 95, 3) := by decide +kernel
theorem dJ7_copyOf_6403c_21 : decode cJ7_copyOf_6403c 21 = .ok (.checkcast 110, 3) := by decide +kernel
theorem dJ7_copyOf_6403c_24 : decode cJ7_copyOf_6403c 24 = .ok (.astore_n 3, 1) := by decide +kernel
theorem dJ7_copyOf_6403c_25 : decode cJ7_copyOf_6403c 25 = .ok (.aload_n 0, 1) := by decide +kernel
theorem dJ7_copyOf_6403c_26 : decode cJ7_copyOf_6403c 26 = .ok (.iconst 0, 1) := by decide +kernel
theorem dJ7_copyOf_6403c_27 : decode cJ7_copyOf_6403c 27 = .ok (.aload_n 3, 1) := by decide +kernel
theorem dJ7_copyOf_6403c_28 : decode cJ7_copyOf_6403c 28 = .ok (.iconst 0, 1) := by decide +kernel
theorem dJ7_copyOf_6403c_29 : decode cJ7_copyOf_6403c 29 = .ok (.aload_n 0, 1) := by decide +kernel
theorem dJ7_copyOf_6403c_30 : decode cJ7_copyOf_6403c 30 = .ok (.arraylength, 1) := by decide +kernel
theorem dJ7_copyOf_6403c_31 : decode cJ7_copyOf_6403c 31 = .ok (.iload_n 1, 1) := by decide +kernel
theorem dJ7_copyOf_6403c_32 : decode cJ7_copyOf_6403c 32 = .ok (.invokestatic 304, 3) := by decide +kernel
theorem dJ7_copyOf_6403c_35 : decode cJ7_copyOf_6403c 35 = .ok (.invokestatic 150, 3) := by decide +kernel
theorem dJ7_copyOf_6403c_38 : decode cJ7_copyOf_6403c 38 = .ok (.aload_n 3, 1) := by decide +kernel
theorem dJ7_copyOf_6403c_39 : decode cJ7_copyOf_6403c 39 = .ok (.areturn, 1) := by decide +kernel
theorem dJ15_checkIndex_7cf53_0 : decode cJ15_checkIndex_7cf53 0 = .ok (.iload_n 0, 1) := by decide +kernel
theorem dJ15_checkIndex_7cf53_1 : decode cJ15_checkIndex_7cf53 1 = .ok (.iload_n 1, 1) := by decide +kernel
theorem dJ15_checkIndex_7cf53_2 : decode cJ15_checkIndex_7cf53 2 = .ok (.aconst_null, 1) := by decide +kernel
theorem dJ15_checkIndex_7cf53_3 : decode cJ15_checkIndex_7cf53 3 = .ok (.invokestatic 105, 3) := by decide +kernel
theorem dJ15_checkIndex_7cf53_6 : decode cJ15_checkIndex_7cf53 6 = .ok (.ireturn, 1) := by decide +kernel
theorem dJ8_newLength_cabcc_0 : decode cJ8_newLength_cabcc 0 = .ok (.iload_n 0, 1) := by decide +kernel
theorem dJ8_newLength_cabcc_1 : decode cJ8_newLength_cabcc 1 = .ok (.iload_n 1, 1) := by decide +kernel
theorem dJ8_newLength_cabcc_2 : decode cJ8_newLength_cabcc 2 = .ok (.iload_n 2, 1) := by decide +kernel
theorem dJ8_newLength_cabcc_3 : decode cJ8_newLength_cabcc 3 = .ok (.invokestatic 194, 3) := by decide +kernel
theorem dJ8_newLength_cabcc_6 : decode cJ8_newLength_cabcc 6 = .ok (.iadd, 1) := by decide +kernel
theorem dJ8_newLength_cabcc_7 : decode cJ8_newLength_cabcc 7 = .ok (.istore_n 3, 1) := by decide +kernel
theorem dJ8_newLength_cabcc_8 : decode cJ8_newLength_cabcc 8 = .ok (.iconst 0, 1) := by decide +kernel
theorem dJ8_newLength_cabcc_9 : decode cJ8_newLength_cabcc 9 = .ok (.iload_n 3, 1) := by decide +kernel
theorem dJ8_newLength_cabcc_10 : decode cJ8_newLength_cabcc 10 = .ok (.if_icmp .ge 11, 3) := by decide +kernel
theorem dJ8_newLength_cabcc_13 : decode cJ8_newLength_cabcc 13 = .ok (.iload_n 3, 1) := by decide +kernel
theorem dJ8_newLength_cabcc_14 : decode cJ8_newLength_cabcc 14 = .ok (.ldc 200, 2) := by decide +kernel
theorem dJ8_newLength_cabcc_16 : decode cJ8_newLength_cabcc 16 = .ok (.if_icmp .gt 5, 3) := by decide +kernel
theorem dJ8_newLength_cabcc_19 : decode cJ8_newLength_cabcc 19 = .ok (.iload_n 3, 1) := by decide +kernel
theorem dJ8_newLength_cabcc_20 : decode cJ8_newLength_cabcc 20 = .ok (.ireturn, 1) := by decide +kernel
theorem dJ8_newLength_cabcc_21 : decode cJ8_newLength_cabcc 21 = .ok (.iload_n 0, 1) := by decide +kernel
theorem dJ8_newLength_cabcc_22 : decode cJ8_newLength_cabcc 22 = .ok (.iload_n 1, 1) := by decide +kernel
theorem dJ8_newLength_cabcc_23 : decode cJ8_newLength_cabcc 23 = .ok (.invokestatic 201, 3) := by decide +kernel
theorem dJ8_newLength_cabcc_26 : decode cJ8_newLength_cabcc 26 = .ok (.ireturn, 1) := by decide +kernel
theorem dJ8_hugeLength_7cf53_0 : decode cJ8_hugeLength_7cf53 0 = .ok (.iload_n 0, 1) := by decide +kernel
theorem dJ8_hugeLength_7cf53_1 : decode cJ8_hugeLength_7cf53 1 = .ok (.iload_n 1, 1) := by decide +kernel
theorem dJ8_hugeLength_7cf53_2 : decode cJ8_hugeLength_7cf53 2 = .ok (.iadd, 1) := by decide +kernel
theorem dJ8_hugeLength_7cf53_3 : decode cJ8_hugeLength_7cf53 3 = .ok (.istore_n 2, 1) := by decide +kernel
theorem dJ8_hugeLength_7cf53_4 : decode cJ8_hugeLength_7cf53 4 = .ok (.iload_n 2, 1) := by decide +kernel
theorem dJ8_hugeLength_7cf53_5 : decode cJ8_hugeLength_7cf53 5 = .ok (.ifCond .ge 44, 3) := by decide +kernel
theorem dJ8_hugeLength_7cf53_8 : decode cJ8_hugeLength_7cf53 8 = .ok (.new 204, 3) := by decide +kernel
theorem dJ8_hugeLength_7cf53_11 : decode cJ8_hugeLength_7cf53 11 = .ok (.dup, 1) := by decide +kernel
theorem dJ8_hugeLength_7cf53_12 : decode cJ8_hugeLength_7cf53 12 = .ok (.new 89, 3) := by decide +kernel
theorem dJ8_hugeLength_7cf53_15 : decode cJ8_hugeLength_7cf53 15 = .ok (.dup, 1) := by decide +kernel
theorem dJ8_hugeLength_7cf53_16 : decode cJ8_hugeLength_7cf53 16 = .ok (.invokespecial 91, 3) := by decide +kernel
theorem dJ8_hugeLength_7cf53_19 : decode cJ8_hugeLength_7cf53 19 = .ok (.ldc 206, 2) := by decide +kernel
theorem dJ8_hugeLength_7cf53_21 : decode cJ8_hugeLength_7cf53 21 = .ok (.invokevirtual 94, 3) := by decide +kernel
theorem dJ8_hugeLength_7cf53_24 : decode cJ8_hugeLength_7cf53 24 = .ok (.iload_n 0, 1) := by decide +kernel
theorem dJ8_hugeLength_7cf53_25 : decode cJ8_hugeLength_7cf53 25 = .ok (.invokevirtual 98, 3) := by decide +kernel
theorem dJ8_hugeLength_7cf53_28 : decode cJ8_hugeLength_7cf53 28 = .ok (.ldc 208, 2) := by decide +kernel
theorem dJ8_hugeLength_7cf53_30 : decode cJ8_hugeLength_7cf53 30 = .ok (.invokevirtual 94, 3) := by decide +kernel
theorem dJ8_hugeLength_7cf53_33 : decode cJ8_hugeLength_7cf53 33 = .ok (.iload_n 1, 1) := by decide +kernel
theorem dJ8_hugeLength_7cf53_34 : decode cJ8_hugeLength_7cf53 34 = .ok (.invokevirtual 98, 3) := by decide +kernel
theorem dJ8_hugeLength_7cf53_37 : decode cJ8_hugeLength_7cf53 37 = .ok (.ldc 210, 2) := by decide +kernel
theorem dJ8_hugeLength_7cf53_39 : decode cJ8_hugeLength_7cf53 39 = .ok (.invokevirtual 94, 3) := by decide +kernel
theorem dJ8_hugeLength_7cf53_42 : decode cJ8_hugeLength_7cf53 42 = .ok (.invokevirtual 101, 3) := by decide +kernel
theorem dJ8_hugeLength_7cf53_45 : decode cJ8_hugeLength_7cf53 45 = .ok (.invokespecial 212, 3) := by decide +kernel
theorem dJ8_hugeLength_7cf53_48 : decode cJ8_hugeLength_7cf53 48 = .ok (.athrow, 1) := by decide +kernel
theorem dJ8_hugeLength_7cf53_49 : decode cJ8_hugeLength_7cf53 49 = .ok (.iload_n 2, 1) := by decide +kernel
theorem dJ8_hugeLength_7cf53_50 : decode cJ8_hugeLength_7cf53 50 = .ok (.ldc 200, 2) := by decide +kernel
theorem dJ8_hugeLength_7cf53_52 : decode cJ8_hugeLength_7cf53 52 = .ok (.if_icmp .gt 6, 3) := by decide +kernel
theorem dJ8_hugeLength_7cf53_55 : decode cJ8_hugeLength_7cf53 55 = .ok (.ldc 200, 2) := by decide +kernel
theorem dJ8_hugeLength_7cf53_57 : decode cJ8_hugeLength_7cf53 57 = .ok (.ireturn, 1) := by decide +kernel
theorem dJ8_hugeLength_7cf53_58 : decode cJ8_hugeLength_7cf53 58 = .ok (.iload_n 2, 1) := by decide +kernel
theorem dJ8_hugeLength_7cf53_59 : decode cJ8_hugeLength_7cf53 59 = .ok (.ireturn, 1) := by decide +kernel
theorem dJ3_checkIndex_8e157_0 : decode cJ3_checkIndex_8e157 0 = .ok (.iload_n 0, 1) := by decide +kernel
theorem dJ3_checkIndex_8e157_1 : decode cJ3_checkIndex_8e157 1 = .ok (.ifCond .lt 8, 3) := by decide +kernel
theorem dJ3_checkIndex_8e157_4 : decode cJ3_checkIndex_8e157 4 = .ok (.iload_n 0, 1) := by decide +kernel
theorem dJ3_checkIndex_8e157_5 : decode cJ3_checkIndex_8e157 5 = .ok (.iload_n 1, 1) := by decide +kernel
theorem dJ3_checkIndex_8e157_6 : decode cJ3_checkIndex_8e157 6 = .ok (.if_icmp .lt 10, 3) := by decide +kernel
theorem dJ3_checkIndex_8e157_9 : decode cJ3_checkIndex_8e157 9 = .ok (.aload_n 2, 1) := by decide +kernel
theorem dJ3_checkIndex_8e157_10 : decode cJ3_checkIndex_8e157 10 = .ok (.iload_n 0, 1) := by decide +kernel
theorem dJ3_checkIndex_8e157_11 : decode cJ3_checkIndex_8e157 11 = .ok (.iload_n 1, 1) := by decide +kernel
theorem dJ3_checkIndex_8e157_12 : decode cJ3_checkIndex_8e157 12 = .ok (.invokestatic 95, 3) := by decide +kernel
theorem dJ3_checkIndex_8e157_15 : decode cJ3_checkIndex_8e157 15 = .ok (.athrow, 1) := by decide +kernel
theorem dJ3_checkIndex_8e157_16 : decode cJ3_checkIndex_8e157 16 = .ok (.iload_n 0, 1) := by decide +kernel
theorem dJ3_checkIndex_8e157_17 : decode cJ3_checkIndex_8e157 17 = .ok (.ireturn, 1) := by decide +kernel
