theorem dX5_init_0 : decode cX5_init 0 = .ok (.aload_n 0, 1) := by decide +kernel
theorem dX5_init_1 : decode cX5_init 1 = .ok (.invokespecial 3, 3) := by decide +kernel
theorem dX5_init_4 : decode cX5_init 4 = .ok (.aload_n 0, 1) := by decide +kernel
theorem dX5_init_5 : decode cX5_init 5 = .ok (.iconst 1, 1) := by decide +kernel
theorem dX5_init_6 : decode cX5_init 6 = .ok (.putfield 9, 3) := by decide +kernel
theorem dX5_init_9 : decode cX5_init 9 = .ok (.aload_n 0, 1) := by decide +kernel
theorem dX5_init_10 : decode cX5_init 10 = .ok (.bipush 6, 2) := by decide +kernel
theorem dX5_init_12 : decode cX5_init 12 = .ok (.putfield 15, 3) := by decide +kernel
theorem dX5_init_15 : decode cX5_init 15 = .ok (.aload_n 0, 1) := by decide +kernel
theorem dX5_init_16 : decode cX5_init 16 = .ok (.bipush 8, 2) := by decide +kernel
theorem dX5_init_18 : decode cX5_init 18 = .ok (.newarray .int, 2) := by decide +kernel
theorem dX5_init_20 : decode cX5_init 20 = .ok (.putfield 18, 3) := by decide +kernel
theorem dX5_init_23 : decode cX5_init 23 = .ok (.aload_n 0, 1) := by decide +kernel
theorem dX5_init_24 : decode cX5_init 24 = .ok (.bipush 96, 2) := by decide +kernel
theorem dX5_init_26 : decode cX5_init 26 = .ok (.newarray .int, 2) := by decide +kernel
theorem dX5_init_28 : decode cX5_init 28 = .ok (.putfield 22, 3) := by decide +kernel
theorem dX5_init_31 : decode cX5_init 31 = .ok (.aload_n 0, 1) := by decide +kernel
theorem dX5_init_32 : decode cX5_init 32 = .ok (.bipush 96, 2) := by decide +kernel
theorem dX5_init_34 : decode cX5_init 34 = .ok (.newarray .int, 2) := by decide +kernel
theorem dX5_init_36 : decode cX5_init 36 = .ok (.putfield 25, 3) := by decide +kernel
theorem dX5_init_39 : decode cX5_init 39 = .ok (.aload_n 0, 1) := by decide +kernel
theorem dX5_init_40 : decode cX5_init 40 = .ok (.sipush 144, 3) := by decide +kernel
theorem dX5_init_43 : decode cX5_init 43 = .ok (.newarray .int, 2) := by decide +kernel
theorem dX5_init_45 : decode cX5_init 45 = .ok (.putfield 28, 3) := by decide +kernel
theorem dX5_init_48 : decode cX5_init 48 = .ok (.aload_n 0, 1) := by decide +kernel
theorem dX5_init_49 : decode cX5_init 49 = .ok (.bipush 12, 2) := by decide +kernel
theorem dX5_init_51 : decode cX5_init 51 = .ok (.newarray .int, 2) := by decide +kernel
theorem dX5_init_53 : decode cX5_init 53 = .ok (.putfield 31, 3) := by decide +kernel
theorem dX5_init_56 : decode cX5_init 56 = .ok (.aload_n 0, 1) := by decide +kernel
theorem dX5_init_57 : decode cX5_init 57 = .ok (.iconst 0, 1) := by decide +kernel
theorem dX5_init_58 : decode cX5_init 58 = .ok (.newarray .int, 2) := by decide +kernel
theorem dX5_init_60 : decode cX5_init 60 = .ok (.putfield 34, 3) := by decide +kernel
theorem dX5_init_63 : decode cX5_init 63 = .ok (.return_, 1) := by decide +kernel
theorem dX5_changeWeight_0 : decode cX5_changeWeight 0 = .ok (.aload_n 0, 1) := by decide +kernel
theorem dX5_changeWeight_1 : decode cX5_changeWeight 1 = .ok (.getfield 9, 3) := by decide +kernel
theorem dX5_changeWeight_4 : decode cX5_changeWeight 4 = .ok (.istore_n 2, 1) := by decide +kernel
theorem dX5_changeWeight_5 : decode cX5_changeWeight 5 = .ok (.aload_n 0, 1) := by decide +kernel
theorem dX5_changeWeight_6 : decode cX5_changeWeight 6 = .ok (.iload_n 1, 1) := by decide +kernel
theorem dX5_changeWeight_7 : decode cX5_changeWeight 7 = .ok (.putfield 9, 3) := by decide +kernel
theorem dX5_changeWeight_10 : decode cX5_changeWeight 10 = .ok (.iload_n 2, 1) := by decide +kernel
theorem dX5_changeWeight_11 : decode cX5_changeWeight 11 = .ok (.ireturn, 1) := by decide +kernel
theorem dX5_changeMost_0 : decode cX5_changeMost 0 = .ok (.aload_n 0, 1) := by decide +kernel
theorem dX5_changeMost_1 : decode cX5_changeMost 1 = .ok (.getfield 15, 3) := by decide +kernel
theorem dX5_changeMost_4 : decode cX5_changeMost 4 = .ok (.istore_n 2, 1) := by decide +kernel
theorem dX5_changeMost_5 : decode cX5_changeMost 5 = .ok (.aload_n 0, 1) := by decide +kernel
theorem dX5_changeMost_6 : decode cX5_changeMost 6 = .ok (.iload_n 1, 1) := by decide +kernel
theorem dX5_changeMost_7 : decode cX5_changeMost 7 = .ok (.putfield 15, 3) := by decide +kernel
theorem dX5_changeMost_10 : decode cX5_changeMost 10 = .ok (.iload_n 2, 1) := by decide +kernel
theorem dX5_changeMost_11 : decode cX5_changeMost 11 = .ok (.ireturn, 1) := by decide +kernel
theorem dX5_prepare_0 : decode cX5_prepare 0 = .ok (.aload_n 0, 1) := by decide +kernel
theorem dX5_prepare_1 : decode cX5_prepare 1 = .ok (.aload_n 1, 1) := by decide +kernel
theorem dX5_prepare_2 : decode cX5_prepare 2 = .ok (.invokevirtual 37, 3) := by decide +kernel
theorem dX5_prepare_5 : decode cX5_prepare 5 = .ok (.bipush 8, 2) := by decide +kernel
theorem dX5_prepare_7 : decode cX5_prepare 7 = .ok (.invokestatic 43, 3) := by decide +kernel
theorem dX5_prepare_10 : decode cX5_prepare 10 = .ok (.putfield 49, 3) := by decide +kernel
theorem dX5_prepare_13 : decode cX5_prepare 13 = .ok (.aload_n 0, 1) := by decide +kernel
theorem dX5_prepare_14 : decode cX5_prepare 14 = .ok (.aload_n 2, 1) := by decide +kernel
theorem dX5_prepare_15 : decode cX5_prepare 15 = .ok (.invokevirtual 51, 3) := by decide +kernel
theorem dX5_prepare_18 : decode cX5_prepare 18 = .ok (.bipush 12, 2) := by decide +kernel
theorem dX5_prepare_20 : decode cX5_prepare 20 = .ok (.invokestatic 43, 3) := by decide +kernel
theorem dX5_prepare_23 : decode cX5_prepare 23 = .ok (.putfield 56, 3) := by decide +kernel
theorem dX5_prepare_26 : decode cX5_prepare 26 = .ok (.iconst 0, 1) := by decide +kernel
theorem dX5_prepare_27 : decode cX5_prepare 27 = .ok (.istore 4, 2) := by decide +kernel
theorem dX5_prepare_29 : decode cX5_prepare 29 = .ok (.iload 4, 2) := by decide +kernel
theorem dX5_prepare_31 : decode cX5_prepare 31 = .ok (.aload_n 0, 1) := by decide +kernel
theorem dX5_prepare_32 : decode cX5_prepare 32 = .ok (.getfield 49, 3) := by decide +kernel
theorem dX5_prepare_35 : decode cX5_prepare 35 = .ok (.if_icmp .ge 50, 3) := by decide +kernel
theorem dX5_prepare_38 : decode cX5_prepare 38 = .ok (.aload_n 1, 1) := by decide +kernel
theorem dX5_prepare_39 : decode cX5_prepare 39 = .ok (.iload 4, 2) := by decide +kernel
theorem dX5_prepare_41 : decode cX5_prepare 41 = .ok (.invokevirtual 59, 3) := by decide +kernel
theorem dX5_prepare_44 : decode cX5_prepare 44 = .ok (.istore 5, 2) := by decide +kernel
theorem dX5_prepare_46 : decode cX5_prepare 46 = .ok (.aload_n 0, 1) := by decide +kernel
theorem dX5_prepare_47 : decode cX5_prepare 47 = .ok (.getfield 18, 3) := by decide +kernel
theorem dX5_prepare_50 : decode cX5_prepare 50 = .ok (.iload 4, 2) := by decide +kernel
theorem dX5_prepare_52 : decode cX5_prepare 52 = .ok (.aload_n 1, 1) := by decide +kernel
theorem dX5_prepare_53 : decode cX5_prepare 53 = .ok (.iload 5, 2) := by decide +kernel
theorem dX5_prepare_55 : decode cX5_prepare 55 = .ok (.aload_n 1, 1) := by decide +kernel
theorem dX5_prepare_56 : decode cX5_prepare 56 = .ok (.iload 5, 2) := by decide +kernel
theorem dX5_prepare_58 : decode cX5_prepare 58 = .ok (.invokevirtual 63, 3) := by decide +kernel
theorem dX5_prepare_61 : decode cX5_prepare 61 = .ok (.iload_n 3, 1) := by decide +kernel
theorem dX5_prepare_62 : decode cX5_prepare 62 = .ok (.invokevirtual 66, 3) := by decide +kernel
theorem dX5_prepare_65 : decode cX5_prepare 65 = .ok (.iastore, 1) := by decide +kernel
theorem dX5_prepare_66 : decode cX5_prepare 66 = .ok (.aload_n 0, 1) := by decide +kernel
theorem dX5_prepare_67 : decode cX5_prepare 67 = .ok (.iload 4, 2) := by decide +kernel
theorem dX5_prepare_69 : decode cX5_prepare 69 = .ok (.aload_n 1, 1) := by decide +kernel
theorem dX5_prepare_70 : decode cX5_prepare 70 = .ok (.iload 5, 2) := by decide +kernel
theorem dX5_prepare_72 : decode cX5_prepare 72 = .ok (.invokevirtual 70, 3) := by decide +kernel
theorem dX5_prepare_75 : decode cX5_prepare 75 = .ok (.aload_n 2, 1) := by decide +kernel
theorem dX5_prepare_76 : decode cX5_prepare 76 = .ok (.invokevirtual 73, 3) := by decide +kernel
theorem dX5_prepare_79 : decode cX5_prepare 79 = .ok (.iinc 4 1, 3) := by decide +kernel
theorem dX5_prepare_82 : decode cX5_prepare 82 = .ok (.goto (-53), 3) := by decide +kernel
theorem dX5_prepare_85 : decode cX5_prepare 85 = .ok (.aload_n 0, 1) := by decide +kernel
theorem dX5_prepare_86 : decode cX5_prepare 86 = .ok (.aload_n 2, 1) := by decide +kernel
theorem dX5_prepare_87 : decode cX5_prepare 87 = .ok (.invokevirtual 77, 3) := by decide +kernel
theorem dX5_prepare_90 : decode cX5_prepare 90 = .ok (.aload_n 0, 1) := by decide +kernel
theorem dX5_prepare_91 : decode cX5_prepare 91 = .ok (.aload_n 2, 1) := by decide +kernel
theorem dX5_prepare_92 : decode cX5_prepare 92 = .ok (.invokevirtual 81, 3) := by decide +kernel
theorem dX5_prepare_95 : decode cX5_prepare 95 = .ok (.aload_n 0, 1) := by decide +kernel
theorem dX5_prepare_96 : decode cX5_prepare 96 = .ok (.invokevirtual 84, 3) := by decide +kernel
theorem dX5_prepare_99 : decode cX5_prepare 99 = .ok (.return_, 1) := by decide +kernel
theorem dX5_fitPieces_0 : decode cX5_fitPieces 0 = .ok (.iconst 0, 1) := by decide +kernel
theorem dX5_fitPieces_1 : decode cX5_fitPieces 1 = .ok (.istore 4, 2) := by decide +kernel
theorem dX5_fitPieces_3 : decode cX5_fitPieces 3 = .ok (.iload 4, 2) := by decide +kernel
theorem dX5_fitPieces_5 : decode cX5_fitPieces 5 = .ok (.aload_n 0, 1) := by decide +kernel
theorem dX5_fitPieces_6 : decode cX5_fitPieces 6 = .ok (.getfield 56, 3) := by decide +kernel
theorem dX5_fitPieces_9 : decode cX5_fitPieces 9 = .ok (.if_icmp .ge 98, 3) := by decide +kernel
theorem dX5_fitPieces_12 : decode cX5_fitPieces 12 = .ok (.aload_n 3, 1) := by decide +kernel
theorem dX5_fitPieces_13 : decode cX5_fitPieces 13 = .ok (.iload 4, 2) := by decide +kernel
theorem dX5_fitPieces_15 : decode cX5_fitPieces 15 = .ok (.invokevirtual 87, 3) := by decide +kernel
theorem dX5_fitPieces_18 : decode cX5_fitPieces 18 = .ok (.checkcast 91, 3) := by decide +kernel
theorem dX5_fitPieces_21 : decode cX5_fitPieces 21 = .ok (.astore 5, 2) := by decide +kernel
theorem dX5_fitPieces_23 : decode cX5_fitPieces 23 = .ok (.aload 5, 2) := by decide +kernel
theorem dX5_fitPieces_25 : decode cX5_fitPieces 25 = .ok (.iload_n 2, 1) := by decide +kernel
theorem dX5_fitPieces_26 : decode cX5_fitPieces 26 = .ok (.invokevirtual 93, 3) := by decide +kernel
theorem dX5_fitPieces_29 : decode cX5_fitPieces 29 = .ok (.ifCond .eq 17, 3) := by decide +kernel
theorem dX5_fitPieces_32 : decode cX5_fitPieces 32 = .ok (.aload 5, 2) := by decide +kernel
theorem dX5_fitPieces_34 : decode cX5_fitPieces 34 = .ok (.aload_n 0, 1) := by decide +kernel
theorem dX5_fitPieces_35 : decode cX5_fitPieces 35 = .ok (.getfield 18, 3) := by decide +kernel
theorem dX5_fitPieces_38 : decode cX5_fitPieces 38 = .ok (.iload_n 1, 1) := by decide +kernel
theorem dX5_fitPieces_39 : decode cX5_fitPieces 39 = .ok (.iaload, 1) := by decide +kernel
theorem dX5_fitPieces_40 : decode cX5_fitPieces 40 = .ok (.invokevirtual 97, 3) := by decide +kernel
theorem dX5_fitPieces_43 : decode cX5_fitPieces 43 = .ok (.goto 5, 3) := by decide +kernel
theorem dX5_fitPieces_46 : decode cX5_fitPieces 46 = .ok (.bipush (-2), 2) := by decide +kernel
theorem dX5_fitPieces_48 : decode cX5_fitPieces 48 = .ok (.istore 6, 2) := by decide +kernel
theorem dX5_fitPieces_50 : decode cX5_fitPieces 50 = .ok (.aload_n 0, 1) := by decide +kernel
theorem dX5_fitPieces_51 : decode cX5_fitPieces 51 = .ok (.getfield 22, 3) := by decide +kernel
theorem dX5_fitPieces_54 : decode cX5_fitPieces 54 = .ok (.iload_n 1, 1) := by decide +kernel
theorem dX5_fitPieces_55 : decode cX5_fitPieces 55 = .ok (.bipush 12, 2) := by decide +kernel
theorem dX5_fitPieces_57 : decode cX5_fitPieces 57 = .ok (.imul, 1) := by decide +kernel
theorem dX5_fitPieces_58 : decode cX5_fitPieces 58 = .ok (.iload 4, 2) := by decide +kernel
theorem dX5_fitPieces_60 : decode cX5_fitPieces 60 = .ok (.iadd, 1) := by decide +kernel
theorem dX5_fitPieces_61 : decode cX5_fitPieces 61 = .ok (.iload 6, 2) := by decide +kernel
theorem dX5_fitPieces_63 : decode cX5_fitPieces 63 = .ok (.iastore, 1) := by decide +kernel
theorem dX5_fitPieces_64 : decode cX5_fitPieces 64 = .ok (.aload_n 0, 1) := by decide +kernel
theorem dX5_fitPieces_65 : decode cX5_fitPieces 65 = .ok (.getfield 25, 3) := by decide +kernel
theorem dX5_fitPieces_68 : decode cX5_fitPieces 68 = .ok (.iload_n 1, 1) := by decide +kernel
theorem dX5_fitPieces_69 : decode cX5_fitPieces 69 = .ok (.bipush 12, 2) := by decide +kernel
theorem dX5_fitPieces_71 : decode cX5_fitPieces 71 = .ok (.imul, 1) := by decide +kernel
theorem dX5_fitPieces_72 : decode cX5_fitPieces 72 = .ok (.iload 4, 2) := by decide +kernel
theorem dX5_fitPieces_74 : decode cX5_fitPieces 74 = .ok (.iadd, 1) := by decide +kernel
theorem dX5_fitPieces_75 : decode cX5_fitPieces 75 = .ok (.iload 6, 2) := by decide +kernel
theorem dX5_fitPieces_77 : decode cX5_fitPieces 77 = .ok (.bipush (-2), 2) := by decide +kernel
theorem dX5_fitPieces_79 : decode cX5_fitPieces 79 = .ok (.if_icmp .ne 8, 3) := by decide +kernel
theorem dX5_fitPieces_82 : decode cX5_fitPieces 82 = .ok (.bipush (-2), 2) := by decide +kernel
theorem dX5_fitPieces_84 : decode cX5_fitPieces 84 = .ok (.goto 16, 3) := by decide +kernel
theorem dX5_fitPieces_87 : decode cX5_fitPieces 87 = .ok (.aload 5, 2) := by decide +kernel
theorem dX5_fitPieces_89 : decode cX5_fitPieces 89 = .ok (.iload 6, 2) := by decide +kernel
theorem dX5_fitPieces_91 : decode cX5_fitPieces 91 = .ok (.aload_n 0, 1) := by decide +kernel
theorem dX5_fitPieces_92 : decode cX5_fitPieces 92 = .ok (.getfield 18, 3) := by decide +kernel
theorem dX5_fitPieces_95 : decode cX5_fitPieces 95 = .ok (.iload_n 1, 1) := by decide +kernel
theorem dX5_fitPieces_96 : decode cX5_fitPieces 96 = .ok (.iaload, 1) := by decide +kernel
theorem dX5_fitPieces_97 : decode cX5_fitPieces 97 = .ok (.invokevirtual 100, 3) := by decide +kernel
theorem dX5_fitPieces_100 : decode cX5_fitPieces 100 = .ok (.iastore, 1) := by decide +kernel
theorem dX5_fitPieces_101 : decode cX5_fitPieces 101 = .ok (.iinc 4 1, 3) := by decide +kernel
theorem dX5_fitPieces_104 : decode cX5_fitPieces 104 = .ok (.goto (-101), 3) := by decide +kernel
theorem dX5_fitPieces_107 : decode cX5_fitPieces 107 = .ok (.return_, 1) := by decide +kernel
theorem dX5_weighJoins_0 : decode cX5_weighJoins 0 = .ok (.iconst 0, 1) := by decide +kernel
theorem dX5_weighJoins_1 : decode cX5_weighJoins 1 = .ok (.istore_n 2, 1) := by decide +kernel
theorem dX5_weighJoins_2 : decode cX5_weighJoins 2 = .ok (.iload_n 2, 1) := by decide +kernel
theorem dX5_weighJoins_3 : decode cX5_weighJoins 3 = .ok (.aload_n 0, 1) := by decide +kernel
theorem dX5_weighJoins_4 : decode cX5_weighJoins 4 = .ok (.getfield 56, 3) := by decide +kernel
theorem dX5_weighJoins_7 : decode cX5_weighJoins 7 = .ok (.if_icmp .ge 84, 3) := by decide +kernel
theorem dX5_weighJoins_10 : decode cX5_weighJoins 10 = .ok (.iconst 0, 1) := by decide +kernel
theorem dX5_weighJoins_11 : decode cX5_weighJoins 11 = .ok (.istore_n 3, 1) := by decide +kernel
theorem dX5_weighJoins_12 : decode cX5_weighJoins 12 = .ok (.iload_n 3, 1) := by decide +kernel
theorem dX5_weighJoins_13 : decode cX5_weighJoins 13 = .ok (.aload_n 0, 1) := by decide +kernel
theorem dX5_weighJoins_14 : decode cX5_weighJoins 14 = .ok (.getfield 56, 3) := by decide +kernel
theorem dX5_weighJoins_17 : decode cX5_weighJoins 17 = .ok (.if_icmp .ge 68, 3) := by decide +kernel
theorem dX5_weighJoins_20 : decode cX5_weighJoins 20 = .ok (.aload_n 1, 1) := by decide +kernel
theorem dX5_weighJoins_21 : decode cX5_weighJoins 21 = .ok (.iload_n 2, 1) := by decide +kernel
theorem dX5_weighJoins_22 : decode cX5_weighJoins 22 = .ok (.invokevirtual 87, 3) := by decide +kernel
theorem dX5_weighJoins_25 : decode cX5_weighJoins 25 = .ok (.checkcast 91, 3) := by decide +kernel
theorem dX5_weighJoins_28 : decode cX5_weighJoins 28 = .ok (.getfield 103, 3) := by decide +kernel
theorem dX5_weighJoins_31 : decode cX5_weighJoins 31 = .ok (.aload_n 1, 1) := by decide +kernel
theorem dX5_weighJoins_32 : decode cX5_weighJoins 32 = .ok (.iload_n 3, 1) := by decide +kernel
theorem dX5_weighJoins_33 : decode cX5_weighJoins 33 = .ok (.invokevirtual 87, 3) := by decide +kernel
theorem dX5_weighJoins_36 : decode cX5_weighJoins 36 = .ok (.checkcast 91, 3) := by decide +kernel
theorem dX5_weighJoins_39 : decode cX5_weighJoins 39 = .ok (.getfield 103, 3) := by decide +kernel
theorem dX5_weighJoins_42 : decode cX5_weighJoins 42 = .ok (.invokestatic 106, 3) := by decide +kernel
theorem dX5_weighJoins_45 : decode cX5_weighJoins 45 = .ok (.istore 4, 2) := by decide +kernel
theorem dX5_weighJoins_47 : decode cX5_weighJoins 47 = .ok (.aload_n 0, 1) := by decide +kernel
theorem dX5_weighJoins_48 : decode cX5_weighJoins 48 = .ok (.getfield 28, 3) := by decide +kernel
theorem dX5_weighJoins_51 : decode cX5_weighJoins 51 = .ok (.iload_n 2, 1) := by decide +kernel
theorem dX5_weighJoins_52 : decode cX5_weighJoins 52 = .ok (.bipush 12, 2) := by decide +kernel
theorem dX5_weighJoins_54 : decode cX5_weighJoins 54 = .ok (.imul, 1) := by decide +kernel
theorem dX5_weighJoins_55 : decode cX5_weighJoins 55 = .ok (.iload_n 3, 1) := by decide +kernel
theorem dX5_weighJoins_56 : decode cX5_weighJoins 56 = .ok (.iadd, 1) := by decide +kernel
theorem dX5_weighJoins_57 : decode cX5_weighJoins 57 = .ok (.iload 4, 2) := by decide +kernel
theorem dX5_weighJoins_59 : decode cX5_weighJoins 59 = .ok (.aload_n 0, 1) := by decide +kernel
theorem dX5_weighJoins_60 : decode cX5_weighJoins 60 = .ok (.getfield 15, 3) := by decide +kernel
theorem dX5_weighJoins_63 : decode cX5_weighJoins 63 = .ok (.if_icmp .le 8, 3) := by decide +kernel
theorem dX5_weighJoins_66 : decode cX5_weighJoins 66 = .ok (.ldc 109, 2) := by decide +kernel
theorem dX5_weighJoins_68 : decode cX5_weighJoins 68 = .ok (.goto 10, 3) := by decide +kernel
theorem dX5_weighJoins_71 : decode cX5_weighJoins 71 = .ok (.iload 4, 2) := by decide +kernel
theorem dX5_weighJoins_73 : decode cX5_weighJoins 73 = .ok (.aload_n 0, 1) := by decide +kernel
theorem dX5_weighJoins_74 : decode cX5_weighJoins 74 = .ok (.getfield 9, 3) := by decide +kernel
theorem dX5_weighJoins_77 : decode cX5_weighJoins 77 = .ok (.imul, 1) := by decide +kernel
theorem dX5_weighJoins_78 : decode cX5_weighJoins 78 = .ok (.iastore, 1) := by decide +kernel
theorem dX5_weighJoins_79 : decode cX5_weighJoins 79 = .ok (.iinc 3 1, 3) := by decide +kernel
theorem dX5_weighJoins_82 : decode cX5_weighJoins 82 = .ok (.goto (-70), 3) := by decide +kernel
theorem dX5_weighJoins_85 : decode cX5_weighJoins 85 = .ok (.iinc 2 1, 3) := by decide +kernel
theorem dX5_weighJoins_88 : decode cX5_weighJoins 88 = .ok (.goto (-86), 3) := by decide +kernel
theorem dX5_weighJoins_91 : decode cX5_weighJoins 91 = .ok (.return_, 1) := by decide +kernel
theorem dX5_shareBits_0 : decode cX5_shareBits 0 = .ok (.aload_n 0, 1) := by decide +kernel
theorem dX5_shareBits_1 : decode cX5_shareBits 1 = .ok (.iconst 1, 1) := by decide +kernel
theorem dX5_shareBits_2 : decode cX5_shareBits 2 = .ok (.putfield 110, 3) := by decide +kernel
theorem dX5_shareBits_5 : decode cX5_shareBits 5 = .ok (.aload_n 0, 1) := by decide +kernel
theorem dX5_shareBits_6 : decode cX5_shareBits 6 = .ok (.iconst 1, 1) := by decide +kernel
theorem dX5_shareBits_7 : decode cX5_shareBits 7 = .ok (.putfield 113, 3) := by decide +kernel
theorem dX5_shareBits_10 : decode cX5_shareBits 10 = .ok (.iconst 0, 1) := by decide +kernel
theorem dX5_shareBits_11 : decode cX5_shareBits 11 = .ok (.istore_n 2, 1) := by decide +kernel
theorem dX5_shareBits_12 : decode cX5_shareBits 12 = .ok (.iload_n 2, 1) := by decide +kernel
theorem dX5_shareBits_13 : decode cX5_shareBits 13 = .ok (.aload_n 0, 1) := by decide +kernel
theorem dX5_shareBits_14 : decode cX5_shareBits 14 = .ok (.getfield 56, 3) := by decide +kernel
theorem dX5_shareBits_17 : decode cX5_shareBits 17 = .ok (.if_icmp .ge 88, 3) := by decide +kernel
theorem dX5_shareBits_20 : decode cX5_shareBits 20 = .ok (.aload_n 1, 1) := by decide +kernel
theorem dX5_shareBits_21 : decode cX5_shareBits 21 = .ok (.iload_n 2, 1) := by decide +kernel
theorem dX5_shareBits_22 : decode cX5_shareBits 22 = .ok (.invokevirtual 87, 3) := by decide +kernel
theorem dX5_shareBits_25 : decode cX5_shareBits 25 = .ok (.checkcast 91, 3) := by decide +kernel
theorem dX5_shareBits_28 : decode cX5_shareBits 28 = .ok (.getfield 117, 3) := by decide +kernel
theorem dX5_shareBits_31 : decode cX5_shareBits 31 = .ok (.ifCond .ne 7, 3) := by decide +kernel
theorem dX5_shareBits_34 : decode cX5_shareBits 34 = .ok (.iconst 1, 1) := by decide +kernel
theorem dX5_shareBits_35 : decode cX5_shareBits 35 = .ok (.goto 4, 3) := by decide +kernel
theorem dX5_shareBits_38 : decode cX5_shareBits 38 = .ok (.iconst 0, 1) := by decide +kernel
theorem dX5_shareBits_39 : decode cX5_shareBits 39 = .ok (.istore_n 3, 1) := by decide +kernel
theorem dX5_shareBits_40 : decode cX5_shareBits 40 = .ok (.aload_n 0, 1) := by decide +kernel
theorem dX5_shareBits_41 : decode cX5_shareBits 41 = .ok (.getfield 31, 3) := by decide +kernel
theorem dX5_shareBits_44 : decode cX5_shareBits 44 = .ok (.iload_n 2, 1) := by decide +kernel
theorem dX5_shareBits_45 : decode cX5_shareBits 45 = .ok (.iconst 0, 1) := by decide +kernel
theorem dX5_shareBits_46 : decode cX5_shareBits 46 = .ok (.iastore, 1) := by decide +kernel
theorem dX5_shareBits_47 : decode cX5_shareBits 47 = .ok (.iload_n 3, 1) := by decide +kernel
theorem dX5_shareBits_48 : decode cX5_shareBits 48 = .ok (.ifCond .eq 31, 3) := by decide +kernel
theorem dX5_shareBits_51 : decode cX5_shareBits 51 = .ok (.aload_n 0, 1) := by decide +kernel
theorem dX5_shareBits_52 : decode cX5_shareBits 52 = .ok (.iload_n 2, 1) := by decide +kernel
theorem dX5_shareBits_53 : decode cX5_shareBits 53 = .ok (.invokevirtual 120, 3) := by decide +kernel
theorem dX5_shareBits_56 : decode cX5_shareBits 56 = .ok (.ifCond .eq 23, 3) := by decide +kernel
theorem dX5_shareBits_59 : decode cX5_shareBits 59 = .ok (.aload_n 0, 1) := by decide +kernel
theorem dX5_shareBits_60 : decode cX5_shareBits 60 = .ok (.getfield 31, 3) := by decide +kernel
theorem dX5_shareBits_63 : decode cX5_shareBits 63 = .ok (.iload_n 2, 1) := by decide +kernel
theorem dX5_shareBits_64 : decode cX5_shareBits 64 = .ok (.aload_n 0, 1) := by decide +kernel
theorem dX5_shareBits_65 : decode cX5_shareBits 65 = .ok (.getfield 110, 3) := by decide +kernel
theorem dX5_shareBits_68 : decode cX5_shareBits 68 = .ok (.iastore, 1) := by decide +kernel
theorem dX5_shareBits_69 : decode cX5_shareBits 69 = .ok (.aload_n 0, 1) := by decide +kernel
theorem dX5_shareBits_70 : decode cX5_shareBits 70 = .ok (.dup, 1) := by decide +kernel
theorem dX5_shareBits_71 : decode cX5_shareBits 71 = .ok (.getfield 110, 3) := by decide +kernel
theorem dX5_shareBits_74 : decode cX5_shareBits 74 = .ok (.iconst 2, 1) := by decide +kernel
theorem dX5_shareBits_75 : decode cX5_shareBits 75 = .ok (.imul, 1) := by decide +kernel
theorem dX5_shareBits_76 : decode cX5_shareBits 76 = .ok (.putfield 110, 3) := by decide +kernel
theorem dX5_shareBits_79 : decode cX5_shareBits 79 = .ok (.aload_n 0, 1) := by decide +kernel
theorem dX5_shareBits_80 : decode cX5_shareBits 80 = .ok (.aload_n 0, 1) := by decide +kernel
theorem dX5_shareBits_81 : decode cX5_shareBits 81 = .ok (.getfield 113, 3) := by decide +kernel
theorem dX5_shareBits_84 : decode cX5_shareBits 84 = .ok (.ifCond .eq 11, 3) := by decide +kernel
theorem dX5_shareBits_87 : decode cX5_shareBits 87 = .ok (.iload_n 3, 1) := by decide +kernel
theorem dX5_shareBits_88 : decode cX5_shareBits 88 = .ok (.ifCond .eq 7, 3) := by decide +kernel
theorem dX5_shareBits_91 : decode cX5_shareBits 91 = .ok (.iconst 1, 1) := by decide +kernel
theorem dX5_shareBits_92 : decode cX5_shareBits 92 = .ok (.goto 4, 3) := by decide +kernel
theorem dX5_shareBits_95 : decode cX5_shareBits 95 = .ok (.iconst 0, 1) := by decide +kernel
theorem dX5_shareBits_96 : decode cX5_shareBits 96 = .ok (.putfield 113, 3) := by decide +kernel
theorem dX5_shareBits_99 : decode cX5_shareBits 99 = .ok (.iinc 2 1, 3) := by decide +kernel
theorem dX5_shareBits_102 : decode cX5_shareBits 102 = .ok (.goto (-90), 3) := by decide +kernel
theorem dX5_shareBits_105 : decode cX5_shareBits 105 = .ok (.return_, 1) := by decide +kernel
theorem dX5_canBePlayed_0 : decode cX5_canBePlayed 0 = .ok (.iconst 0, 1) := by decide +kernel
theorem dX5_canBePlayed_1 : decode cX5_canBePlayed 1 = .ok (.istore_n 2, 1) := by decide +kernel
theorem dX5_canBePlayed_2 : decode cX5_canBePlayed 2 = .ok (.iload_n 2, 1) := by decide +kernel
theorem dX5_canBePlayed_3 : decode cX5_canBePlayed 3 = .ok (.aload_n 0, 1) := by decide +kernel
theorem dX5_canBePlayed_4 : decode cX5_canBePlayed 4 = .ok (.getfield 49, 3) := by decide +kernel
theorem dX5_canBePlayed_7 : decode cX5_canBePlayed 7 = .ok (.if_icmp .ge 27, 3) := by decide +kernel
theorem dX5_canBePlayed_10 : decode cX5_canBePlayed 10 = .ok (.aload_n 0, 1) := by decide +kernel
theorem dX5_canBePlayed_11 : decode cX5_canBePlayed 11 = .ok (.getfield 22, 3) := by decide +kernel
theorem dX5_canBePlayed_14 : decode cX5_canBePlayed 14 = .ok (.iload_n 2, 1) := by decide +kernel
theorem dX5_canBePlayed_15 : decode cX5_canBePlayed 15 = .ok (.bipush 12, 2) := by decide +kernel
theorem dX5_canBePlayed_17 : decode cX5_canBePlayed 17 = .ok (.imul, 1) := by decide +kernel
theorem dX5_canBePlayed_18 : decode cX5_canBePlayed 18 = .ok (.iload_n 1, 1) := by decide +kernel
theorem dX5_canBePlayed_19 : decode cX5_canBePlayed 19 = .ok (.iadd, 1) := by decide +kernel
theorem dX5_canBePlayed_20 : decode cX5_canBePlayed 20 = .ok (.iaload, 1) := by decide +kernel
theorem dX5_canBePlayed_21 : decode cX5_canBePlayed 21 = .ok (.bipush (-2), 2) := by decide +kernel
theorem dX5_canBePlayed_23 : decode cX5_canBePlayed 23 = .ok (.if_icmp .eq 5, 3) := by decide +kernel
theorem dX5_canBePlayed_26 : decode cX5_canBePlayed 26 = .ok (.iconst 1, 1) := by decide +kernel
theorem dX5_canBePlayed_27 : decode cX5_canBePlayed 27 = .ok (.ireturn, 1) := by decide +kernel
theorem dX5_canBePlayed_28 : decode cX5_canBePlayed 28 = .ok (.iinc 2 1, 3) := by decide +kernel
theorem dX5_canBePlayed_31 : decode cX5_canBePlayed 31 = .ok (.goto (-29), 3) := by decide +kernel
theorem dX5_canBePlayed_34 : decode cX5_canBePlayed 34 = .ok (.iconst 0, 1) := by decide +kernel
theorem dX5_canBePlayed_35 : decode cX5_canBePlayed 35 = .ok (.ireturn, 1) := by decide +kernel
theorem dX5_makeRoom_0 : decode cX5_makeRoom 0 = .ok (.aload_n 0, 1) := by decide +kernel
theorem dX5_makeRoom_1 : decode cX5_makeRoom 1 = .ok (.getfield 113, 3) := by decide +kernel
theorem dX5_makeRoom_4 : decode cX5_makeRoom 4 = .ok (.ifCond .eq 7, 3) := by decide +kernel
theorem dX5_makeRoom_7 : decode cX5_makeRoom 7 = .ok (.iconst 1, 1) := by decide +kernel
theorem dX5_makeRoom_8 : decode cX5_makeRoom 8 = .ok (.goto 7, 3) := by decide +kernel
theorem dX5_makeRoom_11 : decode cX5_makeRoom 11 = .ok (.aload_n 0, 1) := by decide +kernel
theorem dX5_makeRoom_12 : decode cX5_makeRoom 12 = .ok (.getfield 49, 3) := by decide +kernel
theorem dX5_makeRoom_15 : decode cX5_makeRoom 15 = .ok (.istore_n 1, 1) := by decide +kernel
theorem dX5_makeRoom_16 : decode cX5_makeRoom 16 = .ok (.iload_n 1, 1) := by decide +kernel
theorem dX5_makeRoom_17 : decode cX5_makeRoom 17 = .ok (.aload_n 0, 1) := by decide +kernel
theorem dX5_makeRoom_18 : decode cX5_makeRoom 18 = .ok (.getfield 110, 3) := by decide +kernel
theorem dX5_makeRoom_21 : decode cX5_makeRoom 21 = .ok (.imul, 1) := by decide +kernel
theorem dX5_makeRoom_22 : decode cX5_makeRoom 22 = .ok (.bipush 12, 2) := by decide +kernel
theorem dX5_makeRoom_24 : decode cX5_makeRoom 24 = .ok (.imul, 1) := by decide +kernel
theorem dX5_makeRoom_25 : decode cX5_makeRoom 25 = .ok (.istore_n 2, 1) := by decide +kernel
theorem dX5_makeRoom_26 : decode cX5_makeRoom 26 = .ok (.aload_n 0, 1) := by decide +kernel
theorem dX5_makeRoom_27 : decode cX5_makeRoom 27 = .ok (.getfield 34, 3) := by decide +kernel
theorem dX5_makeRoom_30 : decode cX5_makeRoom 30 = .ok (.arraylength, 1) := by decide +kernel
theorem dX5_makeRoom_31 : decode cX5_makeRoom 31 = .ok (.iload_n 2, 1) := by decide +kernel
theorem dX5_makeRoom_32 : decode cX5_makeRoom 32 = .ok (.if_icmp .ge 20, 3) := by decide +kernel
theorem dX5_makeRoom_35 : decode cX5_makeRoom 35 = .ok (.aload_n 0, 1) := by decide +kernel
theorem dX5_makeRoom_36 : decode cX5_makeRoom 36 = .ok (.iload_n 2, 1) := by decide +kernel
theorem dX5_makeRoom_37 : decode cX5_makeRoom 37 = .ok (.iconst 2, 1) := by decide +kernel
theorem dX5_makeRoom_38 : decode cX5_makeRoom 38 = .ok (.aload_n 0, 1) := by decide +kernel
theorem dX5_makeRoom_39 : decode cX5_makeRoom 39 = .ok (.getfield 34, 3) := by decide +kernel
theorem dX5_makeRoom_42 : decode cX5_makeRoom 42 = .ok (.arraylength, 1) := by decide +kernel
theorem dX5_makeRoom_43 : decode cX5_makeRoom 43 = .ok (.imul, 1) := by decide +kernel
theorem dX5_makeRoom_44 : decode cX5_makeRoom 44 = .ok (.invokestatic 123, 3) := by decide +kernel
theorem dX5_makeRoom_47 : decode cX5_makeRoom 47 = .ok (.newarray .int, 2) := by decide +kernel
theorem dX5_makeRoom_49 : decode cX5_makeRoom 49 = .ok (.putfield 34, 3) := by decide +kernel
theorem dX5_makeRoom_52 : decode cX5_makeRoom 52 = .ok (.aload_n 0, 1) := by decide +kernel
theorem dX5_makeRoom_53 : decode cX5_makeRoom 53 = .ok (.aload_n 0, 1) := by decide +kernel
theorem dX5_makeRoom_54 : decode cX5_makeRoom 54 = .ok (.getfield 126, 3) := by decide +kernel
theorem dX5_makeRoom_57 : decode cX5_makeRoom 57 = .ok (.iconst 1, 1) := by decide +kernel
theorem dX5_makeRoom_58 : decode cX5_makeRoom 58 = .ok (.iadd, 1) := by decide +kernel
theorem dX5_makeRoom_59 : decode cX5_makeRoom 59 = .ok (.sipush 4095, 3) := by decide +kernel
theorem dX5_makeRoom_62 : decode cX5_makeRoom 62 = .ok (.iand, 1) := by decide +kernel
theorem dX5_makeRoom_63 : decode cX5_makeRoom 63 = .ok (.putfield 126, 3) := by decide +kernel
theorem dX5_makeRoom_66 : decode cX5_makeRoom 66 = .ok (.return_, 1) := by decide +kernel
theorem dX5_leastCost_0 : decode cX5_leastCost 0 = .ok (.aload_n 0, 1) := by decide +kernel
theorem dX5_leastCost_1 : decode cX5_leastCost 1 = .ok (.iconst 0, 1) := by decide +kernel
theorem dX5_leastCost_2 : decode cX5_leastCost 2 = .ok (.iconst 0, 1) := by decide +kernel
theorem dX5_leastCost_3 : decode cX5_leastCost 3 = .ok (.iconst (-1), 1) := by decide +kernel
theorem dX5_leastCost_4 : decode cX5_leastCost 4 = .ok (.invokevirtual 129, 3) := by decide +kernel
theorem dX5_leastCost_7 : decode cX5_leastCost 7 = .ok (.ireturn, 1) := by decide +kernel
theorem dX5_leastFrom_0 : decode cX5_leastFrom 0 = .ok (.iload_n 1, 1) := by decide +kernel
theorem dX5_leastFrom_1 : decode cX5_leastFrom 1 = .ok (.aload_n 0, 1) := by decide +kernel
theorem dX5_leastFrom_2 : decode cX5_leastFrom 2 = .ok (.getfield 49, 3) := by decide +kernel
theorem dX5_leastFrom_5 : decode cX5_leastFrom 5 = .ok (.if_icmp .lt 5, 3) := by decide +kernel
theorem dX5_leastFrom_8 : decode cX5_leastFrom 8 = .ok (.iconst 0, 1) := by decide +kernel
theorem dX5_leastFrom_9 : decode cX5_leastFrom 9 = .ok (.ireturn, 1) := by decide +kernel
theorem dX5_leastFrom_10 : decode cX5_leastFrom 10 = .ok (.aload_n 0, 1) := by decide +kernel
theorem dX5_leastFrom_11 : decode cX5_leastFrom 11 = .ok (.iload_n 1, 1) := by decide +kernel
theorem dX5_leastFrom_12 : decode cX5_leastFrom 12 = .ok (.iload_n 2, 1) := by decide +kernel
theorem dX5_leastFrom_13 : decode cX5_leastFrom 13 = .ok (.iload_n 3, 1) := by decide +kernel
theorem dX5_leastFrom_14 : decode cX5_leastFrom 14 = .ok (.invokevirtual 132, 3) := by decide +kernel
theorem dX5_leastFrom_17 : decode cX5_leastFrom 17 = .ok (.istore 4, 2) := by decide +kernel
theorem dX5_leastFrom_19 : decode cX5_leastFrom 19 = .ok (.iload 4, 2) := by decide +kernel
theorem dX5_leastFrom_21 : decode cX5_leastFrom 21 = .ok (.ifCond .lt 31, 3) := by decide +kernel
theorem dX5_leastFrom_24 : decode cX5_leastFrom 24 = .ok (.aload_n 0, 1) := by decide +kernel
theorem dX5_leastFrom_25 : decode cX5_leastFrom 25 = .ok (.getfield 34, 3) := by decide +kernel
theorem dX5_leastFrom_28 : decode cX5_leastFrom 28 = .ok (.iload 4, 2) := by decide +kernel
theorem dX5_leastFrom_30 : decode cX5_leastFrom 30 = .ok (.iaload, 1) := by decide +kernel
theorem dX5_leastFrom_31 : decode cX5_leastFrom 31 = .ok (.bipush 20, 2) := by decide +kernel
theorem dX5_leastFrom_33 : decode cX5_leastFrom 33 = .ok (.iushr, 1) := by decide +kernel
theorem dX5_leastFrom_34 : decode cX5_leastFrom 34 = .ok (.aload_n 0, 1) := by decide +kernel
theorem dX5_leastFrom_35 : decode cX5_leastFrom 35 = .ok (.getfield 126, 3) := by decide +kernel
theorem dX5_leastFrom_38 : decode cX5_leastFrom 38 = .ok (.if_icmp .ne 14, 3) := by decide +kernel
theorem dX5_leastFrom_41 : decode cX5_leastFrom 41 = .ok (.aload_n 0, 1) := by decide +kernel
theorem dX5_leastFrom_42 : decode cX5_leastFrom 42 = .ok (.getfield 34, 3) := by decide +kernel
theorem dX5_leastFrom_45 : decode cX5_leastFrom 45 = .ok (.iload 4, 2) := by decide +kernel
theorem dX5_leastFrom_47 : decode cX5_leastFrom 47 = .ok (.iaload, 1) := by decide +kernel
theorem dX5_leastFrom_48 : decode cX5_leastFrom 48 = .ok (.ldc 109, 2) := by decide +kernel
theorem dX5_leastFrom_50 : decode cX5_leastFrom 50 = .ok (.iand, 1) := by decide +kernel
theorem dX5_leastFrom_51 : decode cX5_leastFrom 51 = .ok (.ireturn, 1) := by decide +kernel
theorem dX5_leastFrom_52 : decode cX5_leastFrom 52 = .ok (.ldc 109, 2) := by decide +kernel
theorem dX5_leastFrom_54 : decode cX5_leastFrom 54 = .ok (.istore 5, 2) := by decide +kernel
theorem dX5_leastFrom_56 : decode cX5_leastFrom 56 = .ok (.iconst 0, 1) := by decide +kernel
theorem dX5_leastFrom_57 : decode cX5_leastFrom 57 = .ok (.istore 6, 2) := by decide +kernel
theorem dX5_leastFrom_59 : decode cX5_leastFrom 59 = .ok (.iload 6, 2) := by decide +kernel
theorem dX5_leastFrom_61 : decode cX5_leastFrom 61 = .ok (.aload_n 0, 1) := by decide +kernel
theorem dX5_leastFrom_62 : decode cX5_leastFrom 62 = .ok (.getfield 56, 3) := by decide +kernel
theorem dX5_leastFrom_65 : decode cX5_leastFrom 65 = .ok (.if_icmp .ge 25, 3) := by decide +kernel
theorem dX5_leastFrom_68 : decode cX5_leastFrom 68 = .ok (.iload 5, 2) := by decide +kernel
theorem dX5_leastFrom_70 : decode cX5_leastFrom 70 = .ok (.aload_n 0, 1) := by decide +kernel
theorem dX5_leastFrom_71 : decode cX5_leastFrom 71 = .ok (.iload_n 1, 1) := by decide +kernel
theorem dX5_leastFrom_72 : decode cX5_leastFrom 72 = .ok (.iload_n 2, 1) := by decide +kernel
theorem dX5_leastFrom_73 : decode cX5_leastFrom 73 = .ok (.iload_n 3, 1) := by decide +kernel
theorem dX5_leastFrom_74 : decode cX5_leastFrom 74 = .ok (.iload 6, 2) := by decide +kernel
theorem dX5_leastFrom_76 : decode cX5_leastFrom 76 = .ok (.invokevirtual 135, 3) := by decide +kernel
theorem dX5_leastFrom_79 : decode cX5_leastFrom 79 = .ok (.invokestatic 43, 3) := by decide +kernel
theorem dX5_leastFrom_82 : decode cX5_leastFrom 82 = .ok (.istore 5, 2) := by decide +kernel
theorem dX5_leastFrom_84 : decode cX5_leastFrom 84 = .ok (.iinc 6 1, 3) := by decide +kernel
theorem dX5_leastFrom_87 : decode cX5_leastFrom 87 = .ok (.goto (-28), 3) := by decide +kernel
theorem dX5_leastFrom_90 : decode cX5_leastFrom 90 = .ok (.iload 4, 2) := by decide +kernel
theorem dX5_leastFrom_92 : decode cX5_leastFrom 92 = .ok (.ifCond .lt 20, 3) := by decide +kernel
theorem dX5_leastFrom_95 : decode cX5_leastFrom 95 = .ok (.aload_n 0, 1) := by decide +kernel
theorem dX5_leastFrom_96 : decode cX5_leastFrom 96 = .ok (.getfield 34, 3) := by decide +kernel
theorem dX5_leastFrom_99 : decode cX5_leastFrom 99 = .ok (.iload 4, 2) := by decide +kernel
theorem dX5_leastFrom_101 : decode cX5_leastFrom 101 = .ok (.aload_n 0, 1) := by decide +kernel
theorem dX5_leastFrom_102 : decode cX5_leastFrom 102 = .ok (.getfield 126, 3) := by decide +kernel
theorem dX5_leastFrom_105 : decode cX5_leastFrom 105 = .ok (.bipush 20, 2) := by decide +kernel
theorem dX5_leastFrom_107 : decode cX5_leastFrom 107 = .ok (.ishl, 1) := by decide +kernel
theorem dX5_leastFrom_108 : decode cX5_leastFrom 108 = .ok (.iload 5, 2) := by decide +kernel
theorem dX5_leastFrom_110 : decode cX5_leastFrom 110 = .ok (.ior, 1) := by decide +kernel
theorem dX5_leastFrom_111 : decode cX5_leastFrom 111 = .ok (.iastore, 1) := by decide +kernel
theorem dX5_leastFrom_112 : decode cX5_leastFrom 112 = .ok (.iload 5, 2) := by decide +kernel
theorem dX5_leastFrom_114 : decode cX5_leastFrom 114 = .ok (.ireturn, 1) := by decide +kernel
theorem dX5_placeOf_0 : decode cX5_placeOf 0 = .ok (.aload_n 0, 1) := by decide +kernel
theorem dX5_placeOf_1 : decode cX5_placeOf 1 = .ok (.getfield 113, 3) := by decide +kernel
theorem dX5_placeOf_4 : decode cX5_placeOf 4 = .ok (.ifCond .eq 7, 3) := by decide +kernel
theorem dX5_placeOf_7 : decode cX5_placeOf 7 = .ok (.iconst 0, 1) := by decide +kernel
theorem dX5_placeOf_8 : decode cX5_placeOf 8 = .ok (.goto 4, 3) := by decide +kernel
theorem dX5_placeOf_11 : decode cX5_placeOf 11 = .ok (.iload_n 1, 1) := by decide +kernel
theorem dX5_placeOf_12 : decode cX5_placeOf 12 = .ok (.istore 4, 2) := by decide +kernel
theorem dX5_placeOf_14 : decode cX5_placeOf 14 = .ok (.iload 4, 2) := by decide +kernel
theorem dX5_placeOf_16 : decode cX5_placeOf 16 = .ok (.aload_n 0, 1) := by decide +kernel
theorem dX5_placeOf_17 : decode cX5_placeOf 17 = .ok (.getfield 110, 3) := by decide +kernel
theorem dX5_placeOf_20 : decode cX5_placeOf 20 = .ok (.imul, 1) := by decide +kernel
theorem dX5_placeOf_21 : decode cX5_placeOf 21 = .ok (.iload_n 2, 1) := by decide +kernel
theorem dX5_placeOf_22 : decode cX5_placeOf 22 = .ok (.iadd, 1) := by decide +kernel
theorem dX5_placeOf_23 : decode cX5_placeOf 23 = .ok (.bipush 12, 2) := by decide +kernel
theorem dX5_placeOf_25 : decode cX5_placeOf 25 = .ok (.imul, 1) := by decide +kernel
theorem dX5_placeOf_26 : decode cX5_placeOf 26 = .ok (.iload_n 3, 1) := by decide +kernel
theorem dX5_placeOf_27 : decode cX5_placeOf 27 = .ok (.iadd, 1) := by decide +kernel
theorem dX5_placeOf_28 : decode cX5_placeOf 28 = .ok (.istore 5, 2) := by decide +kernel
theorem dX5_placeOf_30 : decode cX5_placeOf 30 = .ok (.iload_n 3, 1) := by decide +kernel
theorem dX5_placeOf_31 : decode cX5_placeOf 31 = .ok (.ifCond .lt 24, 3) := by decide +kernel
theorem dX5_placeOf_34 : decode cX5_placeOf 34 = .ok (.iload 5, 2) := by decide +kernel
theorem dX5_placeOf_36 : decode cX5_placeOf 36 = .ok (.iconst 0, 1) := by decide +kernel
theorem dX5_placeOf_37 : decode cX5_placeOf 37 = .ok (.aload_n 0, 1) := by decide +kernel
theorem dX5_placeOf_38 : decode cX5_placeOf 38 = .ok (.getfield 34, 3) := by decide +kernel
theorem dX5_placeOf_41 : decode cX5_placeOf 41 = .ok (.arraylength, 1) := by decide +kernel
theorem dX5_placeOf_42 : decode cX5_placeOf 42 = .ok (.iconst 1, 1) := by decide +kernel
theorem dX5_placeOf_43 : decode cX5_placeOf 43 = .ok (.isub, 1) := by decide +kernel
theorem dX5_placeOf_44 : decode cX5_placeOf 44 = .ok (.invokestatic 139, 3) := by decide +kernel
theorem dX5_placeOf_47 : decode cX5_placeOf 47 = .ok (.ifCond .eq 8, 3) := by decide +kernel
theorem dX5_placeOf_50 : decode cX5_placeOf 50 = .ok (.iload 5, 2) := by decide +kernel
theorem dX5_placeOf_52 : decode cX5_placeOf 52 = .ok (.goto 4, 3) := by decide +kernel
theorem dX5_placeOf_55 : decode cX5_placeOf 55 = .ok (.iconst (-1), 1) := by decide +kernel
theorem dX5_placeOf_56 : decode cX5_placeOf 56 = .ok (.ireturn, 1) := by decide +kernel
theorem dX5_costWith_0 : decode cX5_costWith 0 = .ok (.aload_n 0, 1) := by decide +kernel
theorem dX5_costWith_1 : decode cX5_costWith 1 = .ok (.getfield 25, 3) := by decide +kernel
theorem dX5_costWith_4 : decode cX5_costWith 4 = .ok (.iload_n 1, 1) := by decide +kernel
theorem dX5_costWith_5 : decode cX5_costWith 5 = .ok (.bipush 12, 2) := by decide +kernel
theorem dX5_costWith_7 : decode cX5_costWith 7 = .ok (.imul, 1) := by decide +kernel
theorem dX5_costWith_8 : decode cX5_costWith 8 = .ok (.iload 4, 2) := by decide +kernel
theorem dX5_costWith_10 : decode cX5_costWith 10 = .ok (.iadd, 1) := by decide +kernel
theorem dX5_costWith_11 : decode cX5_costWith 11 = .ok (.iaload, 1) := by decide +kernel
theorem dX5_costWith_12 : decode cX5_costWith 12 = .ok (.istore 5, 2) := by decide +kernel
theorem dX5_costWith_14 : decode cX5_costWith 14 = .ok (.iload_n 3, 1) := by decide +kernel
theorem dX5_costWith_15 : decode cX5_costWith 15 = .ok (.ifCond .ge 7, 3) := by decide +kernel
theorem dX5_costWith_18 : decode cX5_costWith 18 = .ok (.iconst 0, 1) := by decide +kernel
theorem dX5_costWith_19 : decode cX5_costWith 19 = .ok (.goto 15, 3) := by decide +kernel
theorem dX5_costWith_22 : decode cX5_costWith 22 = .ok (.aload_n 0, 1) := by decide +kernel
theorem dX5_costWith_23 : decode cX5_costWith 23 = .ok (.getfield 28, 3) := by decide +kernel
theorem dX5_costWith_26 : decode cX5_costWith 26 = .ok (.iload_n 3, 1) := by decide +kernel
theorem dX5_costWith_27 : decode cX5_costWith 27 = .ok (.bipush 12, 2) := by decide +kernel
theorem dX5_costWith_29 : decode cX5_costWith 29 = .ok (.imul, 1) := by decide +kernel
theorem dX5_costWith_30 : decode cX5_costWith 30 = .ok (.iload 4, 2) := by decide +kernel
theorem dX5_costWith_32 : decode cX5_costWith 32 = .ok (.iadd, 1) := by decide +kernel
theorem dX5_costWith_33 : decode cX5_costWith 33 = .ok (.iaload, 1) := by decide +kernel
theorem dX5_costWith_34 : decode cX5_costWith 34 = .ok (.istore 6, 2) := by decide +kernel
theorem dX5_costWith_36 : decode cX5_costWith 36 = .ok (.iload 5, 2) := by decide +kernel
theorem dX5_costWith_38 : decode cX5_costWith 38 = .ok (.ifCond .lt 22, 3) := by decide +kernel
theorem dX5_costWith_41 : decode cX5_costWith 41 = .ok (.iload 6, 2) := by decide +kernel
theorem dX5_costWith_43 : decode cX5_costWith 43 = .ok (.ldc 109, 2) := by decide +kernel
theorem dX5_costWith_45 : decode cX5_costWith 45 = .ok (.if_icmp .eq 15, 3) := by decide +kernel
theorem dX5_costWith_48 : decode cX5_costWith 48 = .ok (.iload_n 2, 1) := by decide +kernel
theorem dX5_costWith_49 : decode cX5_costWith 49 = .ok (.aload_n 0, 1) := by decide +kernel
theorem dX5_costWith_50 : decode cX5_costWith 50 = .ok (.getfield 31, 3) := by decide +kernel
theorem dX5_costWith_53 : decode cX5_costWith 53 = .ok (.iload 4, 2) := by decide +kernel
theorem dX5_costWith_55 : decode cX5_costWith 55 = .ok (.iaload, 1) := by decide +kernel
theorem dX5_costWith_56 : decode cX5_costWith 56 = .ok (.iand, 1) := by decide +kernel
theorem dX5_costWith_57 : decode cX5_costWith 57 = .ok (.ifCond .eq 6, 3) := by decide +kernel
theorem dX5_costWith_60 : decode cX5_costWith 60 = .ok (.ldc 109, 2) := by decide +kernel
theorem dX5_costWith_62 : decode cX5_costWith 62 = .ok (.ireturn, 1) := by decide +kernel
theorem dX5_costWith_63 : decode cX5_costWith 63 = .ok (.aload_n 0, 1) := by decide +kernel
theorem dX5_costWith_64 : decode cX5_costWith 64 = .ok (.iload_n 1, 1) := by decide +kernel
theorem dX5_costWith_65 : decode cX5_costWith 65 = .ok (.iconst 1, 1) := by decide +kernel
theorem dX5_costWith_66 : decode cX5_costWith 66 = .ok (.iadd, 1) := by decide +kernel
theorem dX5_costWith_67 : decode cX5_costWith 67 = .ok (.iload_n 2, 1) := by decide +kernel
theorem dX5_costWith_68 : decode cX5_costWith 68 = .ok (.aload_n 0, 1) := by decide +kernel
theorem dX5_costWith_69 : decode cX5_costWith 69 = .ok (.getfield 31, 3) := by decide +kernel
theorem dX5_costWith_72 : decode cX5_costWith 72 = .ok (.iload 4, 2) := by decide +kernel
theorem dX5_costWith_74 : decode cX5_costWith 74 = .ok (.iaload, 1) := by decide +kernel
theorem dX5_costWith_75 : decode cX5_costWith 75 = .ok (.ior, 1) := by decide +kernel
theorem dX5_costWith_76 : decode cX5_costWith 76 = .ok (.iload 4, 2) := by decide +kernel
theorem dX5_costWith_78 : decode cX5_costWith 78 = .ok (.invokevirtual 129, 3) := by decide +kernel
theorem dX5_costWith_81 : decode cX5_costWith 81 = .ok (.istore 7, 2) := by decide +kernel
theorem dX5_costWith_83 : decode cX5_costWith 83 = .ok (.iload 7, 2) := by decide +kernel
theorem dX5_costWith_85 : decode cX5_costWith 85 = .ok (.ldc 109, 2) := by decide +kernel
theorem dX5_costWith_87 : decode cX5_costWith 87 = .ok (.if_icmp .ne 8, 3) := by decide +kernel
theorem dX5_costWith_90 : decode cX5_costWith 90 = .ok (.ldc 109, 2) := by decide +kernel
theorem dX5_costWith_92 : decode cX5_costWith 92 = .ok (.goto 11, 3) := by decide +kernel
theorem dX5_costWith_95 : decode cX5_costWith 95 = .ok (.iload 5, 2) := by decide +kernel
theorem dX5_costWith_97 : decode cX5_costWith 97 = .ok (.iload 6, 2) := by decide +kernel
theorem dX5_costWith_99 : decode cX5_costWith 99 = .ok (.iadd, 1) := by decide +kernel
theorem dX5_costWith_100 : decode cX5_costWith 100 = .ok (.iload 7, 2) := by decide +kernel
theorem dX5_costWith_102 : decode cX5_costWith 102 = .ok (.iadd, 1) := by decide +kernel
theorem dX5_costWith_103 : decode cX5_costWith 103 = .ok (.ireturn, 1) := by decide +kernel
theorem dX5_choose_0 : decode cX5_choose 0 = .ok (.aload_n 0, 1) := by decide +kernel
theorem dX5_choose_1 : decode cX5_choose 1 = .ok (.getfield 49, 3) := by decide +kernel
theorem dX5_choose_4 : decode cX5_choose 4 = .ok (.newarray .int, 2) := by decide +kernel
theorem dX5_choose_6 : decode cX5_choose 6 = .ok (.astore_n 1, 1) := by decide +kernel
theorem dX5_choose_7 : decode cX5_choose 7 = .ok (.iconst 0, 1) := by decide +kernel
theorem dX5_choose_8 : decode cX5_choose 8 = .ok (.istore_n 2, 1) := by decide +kernel
theorem dX5_choose_9 : decode cX5_choose 9 = .ok (.iconst (-1), 1) := by decide +kernel
theorem dX5_choose_10 : decode cX5_choose 10 = .ok (.istore_n 3, 1) := by decide +kernel
theorem dX5_choose_11 : decode cX5_choose 11 = .ok (.iconst 0, 1) := by decide +kernel
theorem dX5_choose_12 : decode cX5_choose 12 = .ok (.istore 4, 2) := by decide +kernel
theorem dX5_choose_14 : decode cX5_choose 14 = .ok (.iload 4, 2) := by decide +kernel
theorem dX5_choose_16 : decode cX5_choose 16 = .ok (.aload_n 0, 1) := by decide +kernel
theorem dX5_choose_17 : decode cX5_choose 17 = .ok (.getfield 49, 3) := by decide +kernel
theorem dX5_choose_20 : decode cX5_choose 20 = .ok (.if_icmp .ge 32, 3) := by decide +kernel
theorem dX5_choose_23 : decode cX5_choose 23 = .ok (.aload_n 0, 1) := by decide +kernel
theorem dX5_choose_24 : decode cX5_choose 24 = .ok (.iload 4, 2) := by decide +kernel
theorem dX5_choose_26 : decode cX5_choose 26 = .ok (.iload_n 2, 1) := by decide +kernel
theorem dX5_choose_27 : decode cX5_choose 27 = .ok (.iload_n 3, 1) := by decide +kernel
theorem dX5_choose_28 : decode cX5_choose 28 = .ok (.invokevirtual 143, 3) := by decide +kernel
theorem dX5_choose_31 : decode cX5_choose 31 = .ok (.istore_n 3, 1) := by decide +kernel
theorem dX5_choose_32 : decode cX5_choose 32 = .ok (.aload_n 1, 1) := by decide +kernel
theorem dX5_choose_33 : decode cX5_choose 33 = .ok (.iload 4, 2) := by decide +kernel
theorem dX5_choose_35 : decode cX5_choose 35 = .ok (.iload_n 3, 1) := by decide +kernel
theorem dX5_choose_36 : decode cX5_choose 36 = .ok (.iastore, 1) := by decide +kernel
theorem dX5_choose_37 : decode cX5_choose 37 = .ok (.iload_n 2, 1) := by decide +kernel
theorem dX5_choose_38 : decode cX5_choose 38 = .ok (.aload_n 0, 1) := by decide +kernel
theorem dX5_choose_39 : decode cX5_choose 39 = .ok (.getfield 31, 3) := by decide +kernel
theorem dX5_choose_42 : decode cX5_choose 42 = .ok (.iload_n 3, 1) := by decide +kernel
theorem dX5_choose_43 : decode cX5_choose 43 = .ok (.iaload, 1) := by decide +kernel
theorem dX5_choose_44 : decode cX5_choose 44 = .ok (.ior, 1) := by decide +kernel
theorem dX5_choose_45 : decode cX5_choose 45 = .ok (.istore_n 2, 1) := by decide +kernel
theorem dX5_choose_46 : decode cX5_choose 46 = .ok (.iinc 4 1, 3) := by decide +kernel
theorem dX5_choose_49 : decode cX5_choose 49 = .ok (.goto (-35), 3) := by decide +kernel
theorem dX5_choose_52 : decode cX5_choose 52 = .ok (.aload_n 1, 1) := by decide +kernel
theorem dX5_choose_53 : decode cX5_choose 53 = .ok (.areturn, 1) := by decide +kernel
theorem dX5_parts_0 : decode cX5_parts 0 = .ok (.new 52, 3) := by decide +kernel
theorem dX5_parts_3 : decode cX5_parts 3 = .ok (.dup, 1) := by decide +kernel
theorem dX5_parts_4 : decode cX5_parts 4 = .ok (.invokespecial 146, 3) := by decide +kernel
theorem dX5_parts_7 : decode cX5_parts 7 = .ok (.astore_n 3, 1) := by decide +kernel
theorem dX5_parts_8 : decode cX5_parts 8 = .ok (.iconst 0, 1) := by decide +kernel
theorem dX5_parts_9 : decode cX5_parts 9 = .ok (.istore 4, 2) := by decide +kernel
theorem dX5_parts_11 : decode cX5_parts 11 = .ok (.iload 4, 2) := by decide +kernel
theorem dX5_parts_13 : decode cX5_parts 13 = .ok (.aload_n 2, 1) := by decide +kernel
theorem dX5_parts_14 : decode cX5_parts 14 = .ok (.arraylength, 1) := by decide +kernel
theorem dX5_parts_15 : decode cX5_parts 15 = .ok (.if_icmp .ge 156, 3) := by decide +kernel
theorem dX5_parts_18 : decode cX5_parts 18 = .ok (.iload 4, 2) := by decide +kernel
theorem dX5_parts_20 : decode cX5_parts 20 = .ok (.aload_n 0, 1) := by decide +kernel
theorem dX5_parts_21 : decode cX5_parts 21 = .ok (.getfield 49, 3) := by decide +kernel
theorem dX5_parts_24 : decode cX5_parts 24 = .ok (.if_icmp .ge 147, 3) := by decide +kernel
theorem dX5_parts_27 : decode cX5_parts 27 = .ok (.aload_n 2, 1) := by decide +kernel
theorem dX5_parts_28 : decode cX5_parts 28 = .ok (.iload 4, 2) := by decide +kernel
theorem dX5_parts_30 : decode cX5_parts 30 = .ok (.iaload, 1) := by decide +kernel
theorem dX5_parts_31 : decode cX5_parts 31 = .ok (.istore 5, 2) := by decide +kernel
theorem dX5_parts_33 : decode cX5_parts 33 = .ok (.iload 4, 2) := by decide +kernel
theorem dX5_parts_35 : decode cX5_parts 35 = .ok (.iconst 1, 1) := by decide +kernel
theorem dX5_parts_36 : decode cX5_parts 36 = .ok (.iadd, 1) := by decide +kernel
theorem dX5_parts_37 : decode cX5_parts 37 = .ok (.aload_n 2, 1) := by decide +kernel
theorem dX5_parts_38 : decode cX5_parts 38 = .ok (.arraylength, 1) := by decide +kernel
theorem dX5_parts_39 : decode cX5_parts 39 = .ok (.if_icmp .ge 12, 3) := by decide +kernel
theorem dX5_parts_42 : decode cX5_parts 42 = .ok (.aload_n 2, 1) := by decide +kernel
theorem dX5_parts_43 : decode cX5_parts 43 = .ok (.iload 4, 2) := by decide +kernel
theorem dX5_parts_45 : decode cX5_parts 45 = .ok (.iconst 1, 1) := by decide +kernel
theorem dX5_parts_46 : decode cX5_parts 46 = .ok (.iadd, 1) := by decide +kernel
theorem dX5_parts_47 : decode cX5_parts 47 = .ok (.iaload, 1) := by decide +kernel
theorem dX5_parts_48 : decode cX5_parts 48 = .ok (.goto 5, 3) := by decide +kernel
theorem dX5_parts_51 : decode cX5_parts 51 = .ok (.iload 5, 2) := by decide +kernel
theorem dX5_parts_53 : decode cX5_parts 53 = .ok (.istore 6, 2) := by decide +kernel
theorem dX5_parts_55 : decode cX5_parts 55 = .ok (.iload 5, 2) := by decide +kernel
theorem dX5_parts_57 : decode cX5_parts 57 = .ok (.iconst 0, 1) := by decide +kernel
theorem dX5_parts_58 : decode cX5_parts 58 = .ok (.aload_n 1, 1) := by decide +kernel
theorem dX5_parts_59 : decode cX5_parts 59 = .ok (.invokevirtual 51, 3) := by decide +kernel
theorem dX5_parts_62 : decode cX5_parts 62 = .ok (.iconst 1, 1) := by decide +kernel
theorem dX5_parts_63 : decode cX5_parts 63 = .ok (.isub, 1) := by decide +kernel
theorem dX5_parts_64 : decode cX5_parts 64 = .ok (.invokestatic 139, 3) := by decide +kernel
theorem dX5_parts_67 : decode cX5_parts 67 = .ok (.ifCond .eq 18, 3) := by decide +kernel
theorem dX5_parts_70 : decode cX5_parts 70 = .ok (.iload 6, 2) := by decide +kernel
theorem dX5_parts_72 : decode cX5_parts 72 = .ok (.iconst 0, 1) := by decide +kernel
theorem dX5_parts_73 : decode cX5_parts 73 = .ok (.aload_n 1, 1) := by decide +kernel
theorem dX5_parts_74 : decode cX5_parts 74 = .ok (.invokevirtual 51, 3) := by decide +kernel
theorem dX5_parts_77 : decode cX5_parts 77 = .ok (.iconst 1, 1) := by decide +kernel
theorem dX5_parts_78 : decode cX5_parts 78 = .ok (.isub, 1) := by decide +kernel
theorem dX5_parts_79 : decode cX5_parts 79 = .ok (.invokestatic 139, 3) := by decide +kernel
theorem dX5_parts_82 : decode cX5_parts 82 = .ok (.ifCond .ne 5, 3) := by decide +kernel
theorem dX5_parts_85 : decode cX5_parts 85 = .ok (.aload_n 3, 1) := by decide +kernel
theorem dX5_parts_86 : decode cX5_parts 86 = .ok (.areturn, 1) := by decide +kernel
theorem dX5_parts_87 : decode cX5_parts 87 = .ok (.aload_n 1, 1) := by decide +kernel
theorem dX5_parts_88 : decode cX5_parts 88 = .ok (.iload 5, 2) := by decide +kernel
theorem dX5_parts_90 : decode cX5_parts 90 = .ok (.invokevirtual 87, 3) := by decide +kernel
theorem dX5_parts_93 : decode cX5_parts 93 = .ok (.checkcast 91, 3) := by decide +kernel
theorem dX5_parts_96 : decode cX5_parts 96 = .ok (.getfield 103, 3) := by decide +kernel
theorem dX5_parts_99 : decode cX5_parts 99 = .ok (.aload_n 1, 1) := by decide +kernel
theorem dX5_parts_100 : decode cX5_parts 100 = .ok (.iload 6, 2) := by decide +kernel
theorem dX5_parts_102 : decode cX5_parts 102 = .ok (.invokevirtual 87, 3) := by decide +kernel
theorem dX5_parts_105 : decode cX5_parts 105 = .ok (.checkcast 91, 3) := by decide +kernel
theorem dX5_parts_108 : decode cX5_parts 108 = .ok (.getfield 103, 3) := by decide +kernel
theorem dX5_parts_111 : decode cX5_parts 111 = .ok (.invokestatic 106, 3) := by decide +kernel
theorem dX5_parts_114 : decode cX5_parts 114 = .ok (.istore 7, 2) := by decide +kernel
theorem dX5_parts_116 : decode cX5_parts 116 = .ok (.aload_n 0, 1) := by decide +kernel
theorem dX5_parts_117 : decode cX5_parts 117 = .ok (.getfield 22, 3) := by decide +kernel
theorem dX5_parts_120 : decode cX5_parts 120 = .ok (.iload 4, 2) := by decide +kernel
theorem dX5_parts_122 : decode cX5_parts 122 = .ok (.bipush 12, 2) := by decide +kernel
theorem dX5_parts_124 : decode cX5_parts 124 = .ok (.imul, 1) := by decide +kernel
theorem dX5_parts_125 : decode cX5_parts 125 = .ok (.iload 5, 2) := by decide +kernel
theorem dX5_parts_127 : decode cX5_parts 127 = .ok (.iadd, 1) := by decide +kernel
theorem dX5_parts_128 : decode cX5_parts 128 = .ok (.iaload, 1) := by decide +kernel
theorem dX5_parts_129 : decode cX5_parts 129 = .ok (.istore 8, 2) := by decide +kernel
theorem dX5_parts_131 : decode cX5_parts 131 = .ok (.aload_n 3, 1) := by decide +kernel
theorem dX5_parts_132 : decode cX5_parts 132 = .ok (.new 147, 3) := by decide +kernel
theorem dX5_parts_135 : decode cX5_parts 135 = .ok (.dup, 1) := by decide +kernel
theorem dX5_parts_136 : decode cX5_parts 136 = .ok (.aload_n 1, 1) := by decide +kernel
theorem dX5_parts_137 : decode cX5_parts 137 = .ok (.iload 5, 2) := by decide +kernel
theorem dX5_parts_139 : decode cX5_parts 139 = .ok (.invokevirtual 87, 3) := by decide +kernel
theorem dX5_parts_142 : decode cX5_parts 142 = .ok (.checkcast 91, 3) := by decide +kernel
theorem dX5_parts_145 : decode cX5_parts 145 = .ok (.iload 5, 2) := by decide +kernel
theorem dX5_parts_147 : decode cX5_parts 147 = .ok (.iload 8, 2) := by decide +kernel
theorem dX5_parts_149 : decode cX5_parts 149 = .ok (.aload_n 0, 1) := by decide +kernel
theorem dX5_parts_150 : decode cX5_parts 150 = .ok (.getfield 18, 3) := by decide +kernel
theorem dX5_parts_153 : decode cX5_parts 153 = .ok (.iload 4, 2) := by decide +kernel
theorem dX5_parts_155 : decode cX5_parts 155 = .ok (.iaload, 1) := by decide +kernel
theorem dX5_parts_156 : decode cX5_parts 156 = .ok (.iload 7, 2) := by decide +kernel
theorem dX5_parts_158 : decode cX5_parts 158 = .ok (.invokespecial 149, 3) := by decide +kernel
theorem dX5_parts_161 : decode cX5_parts 161 = .ok (.invokevirtual 152, 3) := by decide +kernel
theorem dX5_parts_164 : decode cX5_parts 164 = .ok (.pop, 1) := by decide +kernel
theorem dX5_parts_165 : decode cX5_parts 165 = .ok (.iinc 4 1, 3) := by decide +kernel
theorem dX5_parts_168 : decode cX5_parts 168 = .ok (.goto (-157), 3) := by decide +kernel
theorem dX5_parts_171 : decode cX5_parts 171 = .ok (.aload_n 3, 1) := by decide +kernel
theorem dX5_parts_172 : decode cX5_parts 172 = .ok (.areturn, 1) := by decide +kernel
theorem dX5_firstOfLeast_0 : decode cX5_firstOfLeast 0 = .ok (.aload_n 0, 1) := by decide +kernel
theorem dX5_firstOfLeast_1 : decode cX5_firstOfLeast 1 = .ok (.iload_n 1, 1) := by decide +kernel
theorem dX5_firstOfLeast_2 : decode cX5_firstOfLeast 2 = .ok (.iload_n 2, 1) := by decide +kernel
theorem dX5_firstOfLeast_3 : decode cX5_firstOfLeast 3 = .ok (.iload_n 3, 1) := by decide +kernel
theorem dX5_firstOfLeast_4 : decode cX5_firstOfLeast 4 = .ok (.invokevirtual 129, 3) := by decide +kernel
theorem dX5_firstOfLeast_7 : decode cX5_firstOfLeast 7 = .ok (.istore 4, 2) := by decide +kernel
theorem dX5_firstOfLeast_9 : decode cX5_firstOfLeast 9 = .ok (.iconst 0, 1) := by decide +kernel
theorem dX5_firstOfLeast_10 : decode cX5_firstOfLeast 10 = .ok (.istore 5, 2) := by decide +kernel
theorem dX5_firstOfLeast_12 : decode cX5_firstOfLeast 12 = .ok (.iload 5, 2) := by decide +kernel
theorem dX5_firstOfLeast_14 : decode cX5_firstOfLeast 14 = .ok (.aload_n 0, 1) := by decide +kernel
theorem dX5_firstOfLeast_15 : decode cX5_firstOfLeast 15 = .ok (.getfield 56, 3) := by decide +kernel
theorem dX5_firstOfLeast_18 : decode cX5_firstOfLeast 18 = .ok (.if_icmp .ge 26, 3) := by decide +kernel
theorem dX5_firstOfLeast_21 : decode cX5_firstOfLeast 21 = .ok (.aload_n 0, 1) := by decide +kernel
theorem dX5_firstOfLeast_22 : decode cX5_firstOfLeast 22 = .ok (.iload_n 1, 1) := by decide +kernel
theorem dX5_firstOfLeast_23 : decode cX5_firstOfLeast 23 = .ok (.iload_n 2, 1) := by decide +kernel
theorem dX5_firstOfLeast_24 : decode cX5_firstOfLeast 24 = .ok (.iload_n 3, 1) := by decide +kernel
theorem dX5_firstOfLeast_25 : decode cX5_firstOfLeast 25 = .ok (.iload 5, 2) := by decide +kernel
theorem dX5_firstOfLeast_27 : decode cX5_firstOfLeast 27 = .ok (.invokevirtual 135, 3) := by decide +kernel
theorem dX5_firstOfLeast_30 : decode cX5_firstOfLeast 30 = .ok (.iload 4, 2) := by decide +kernel
theorem dX5_firstOfLeast_32 : decode cX5_firstOfLeast 32 = .ok (.if_icmp .ne 6, 3) := by decide +kernel
theorem dX5_firstOfLeast_35 : decode cX5_firstOfLeast 35 = .ok (.iload 5, 2) := by decide +kernel
theorem dX5_firstOfLeast_37 : decode cX5_firstOfLeast 37 = .ok (.ireturn, 1) := by decide +kernel
theorem dX5_firstOfLeast_38 : decode cX5_firstOfLeast 38 = .ok (.iinc 5 1, 3) := by decide +kernel
theorem dX5_firstOfLeast_41 : decode cX5_firstOfLeast 41 = .ok (.goto (-29), 3) := by decide +kernel
theorem dX5_firstOfLeast_44 : decode cX5_firstOfLeast 44 = .ok (.iconst 0, 1) := by decide +kernel
theorem dX5_firstOfLeast_45 : decode cX5_firstOfLeast 45 = .ok (.ireturn, 1) := by decide +kernel
theorem dX6_init_0 : decode cX6_init 0 = .ok (.aload_n 0, 1) := by decide +kernel
theorem dX6_init_1 : decode cX6_init 1 = .ok (.invokespecial 3, 3) := by decide +kernel
theorem dX6_init_4 : decode cX6_init 4 = .ok (.aload_n 0, 1) := by decide +kernel
theorem dX6_init_5 : decode cX6_init 5 = .ok (.new 9, 3) := by decide +kernel
theorem dX6_init_8 : decode cX6_init 8 = .ok (.dup, 1) := by decide +kernel
theorem dX6_init_9 : decode cX6_init 9 = .ok (.invokespecial 11, 3) := by decide +kernel
theorem dX6_init_12 : decode cX6_init 12 = .ok (.putfield 12, 3) := by decide +kernel
theorem dX6_init_15 : decode cX6_init 15 = .ok (.aload_n 0, 1) := by decide +kernel
theorem dX6_init_16 : decode cX6_init 16 = .ok (.new 16, 3) := by decide +kernel
theorem dX6_init_19 : decode cX6_init 19 = .ok (.dup, 1) := by decide +kernel
theorem dX6_init_20 : decode cX6_init 20 = .ok (.invokespecial 18, 3) := by decide +kernel
theorem dX6_init_23 : decode cX6_init 23 = .ok (.putfield 19, 3) := by decide +kernel
theorem dX6_init_26 : decode cX6_init 26 = .ok (.aload_n 0, 1) := by decide +kernel
theorem dX6_init_27 : decode cX6_init 27 = .ok (.new 23, 3) := by decide +kernel
theorem dX6_init_30 : decode cX6_init 30 = .ok (.dup, 1) := by decide +kernel
theorem dX6_init_31 : decode cX6_init 31 = .ok (.invokespecial 25, 3) := by decide +kernel
theorem dX6_init_34 : decode cX6_init 34 = .ok (.putfield 26, 3) := by decide +kernel
theorem dX6_init_37 : decode cX6_init 37 = .ok (.aload_n 0, 1) := by decide +kernel
theorem dX6_init_38 : decode cX6_init 38 = .ok (.new 30, 3) := by decide +kernel
theorem dX6_init_41 : decode cX6_init 41 = .ok (.dup, 1) := by decide +kernel
theorem dX6_init_42 : decode cX6_init 42 = .ok (.invokespecial 32, 3) := by decide +kernel
theorem dX6_init_45 : decode cX6_init 45 = .ok (.putfield 33, 3) := by decide +kernel
theorem dX6_init_48 : decode cX6_init 48 = .ok (.aload_n 0, 1) := by decide +kernel
theorem dX6_init_49 : decode cX6_init 49 = .ok (.new 16, 3) := by decide +kernel
theorem dX6_init_52 : decode cX6_init 52 = .ok (.dup, 1) := by decide +kernel
theorem dX6_init_53 : decode cX6_init 53 = .ok (.invokespecial 18, 3) := by decide +kernel
theorem dX6_init_56 : decode cX6_init 56 = .ok (.putfield 37, 3) := by decide +kernel
theorem dX6_init_59 : decode cX6_init 59 = .ok (.aload_n 0, 1) := by decide +kernel
theorem dX6_init_60 : decode cX6_init 60 = .ok (.aconst_null, 1) := by decide +kernel
theorem dX6_init_61 : decode cX6_init 61 = .ok (.putfield 40, 3) := by decide +kernel
theorem dX6_init_64 : decode cX6_init 64 = .ok (.return_, 1) := by decide +kernel
theorem dX6_shot_0 : decode cX6_shot 0 = .ok (.iload_n 1, 1) := by decide +kernel
theorem dX6_shot_1 : decode cX6_shot 1 = .ok (.iconst 1, 1) := by decide +kernel
theorem dX6_shot_2 : decode cX6_shot 2 = .ok (.sipush 2000, 3) := by decide +kernel
theorem dX6_shot_5 : decode cX6_shot 5 = .ok (.invokestatic 44, 3) := by decide +kernel
theorem dX6_shot_8 : decode cX6_shot 8 = .ok (.ifCond .eq 12, 3) := by decide +kernel
theorem dX6_shot_11 : decode cX6_shot 11 = .ok (.iload_n 2, 1) := by decide +kernel
theorem dX6_shot_12 : decode cX6_shot 12 = .ok (.iconst 0, 1) := by decide +kernel
theorem dX6_shot_13 : decode cX6_shot 13 = .ok (.iconst 5, 1) := by decide +kernel
theorem dX6_shot_14 : decode cX6_shot 14 = .ok (.invokestatic 44, 3) := by decide +kernel
theorem dX6_shot_17 : decode cX6_shot 17 = .ok (.ifCond .ne 5, 3) := by decide +kernel
theorem dX6_shot_20 : decode cX6_shot 20 = .ok (.iconst (-1), 1) := by decide +kernel
theorem dX6_shot_21 : decode cX6_shot 21 = .ok (.ireturn, 1) := by decide +kernel
theorem dX6_shot_22 : decode cX6_shot 22 = .ok (.aload_n 0, 1) := by decide +kernel
theorem dX6_shot_23 : decode cX6_shot 23 = .ok (.getfield 12, 3) := by decide +kernel
theorem dX6_shot_26 : decode cX6_shot 26 = .ok (.iload_n 1, 1) := by decide +kernel
theorem dX6_shot_27 : decode cX6_shot 27 = .ok (.iload_n 2, 1) := by decide +kernel
theorem dX6_shot_28 : decode cX6_shot 28 = .ok (.invokevirtual 48, 3) := by decide +kernel
theorem dX6_shot_31 : decode cX6_shot 31 = .ok (.ireturn, 1) := by decide +kernel
theorem dX6_cue_0 : decode cX6_cue 0 = .ok (.iload_n 1, 1) := by decide +kernel
theorem dX6_cue_1 : decode cX6_cue 1 = .ok (.iconst 1, 1) := by decide +kernel
theorem dX6_cue_2 : decode cX6_cue 2 = .ok (.aload_n 0, 1) := by decide +kernel
theorem dX6_cue_3 : decode cX6_cue 3 = .ok (.getfield 12, 3) := by decide +kernel
theorem dX6_cue_6 : decode cX6_cue 6 = .ok (.invokevirtual 52, 3) := by decide +kernel
theorem dX6_cue_9 : decode cX6_cue 9 = .ok (.iconst 1, 1) := by decide +kernel
theorem dX6_cue_10 : decode cX6_cue 10 = .ok (.isub, 1) := by decide +kernel
theorem dX6_cue_11 : decode cX6_cue 11 = .ok (.invokestatic 44, 3) := by decide +kernel
theorem dX6_cue_14 : decode cX6_cue 14 = .ok (.ifCond .eq 12, 3) := by decide +kernel
theorem dX6_cue_17 : decode cX6_cue 17 = .ok (.iload_n 2, 1) := by decide +kernel
theorem dX6_cue_18 : decode cX6_cue 18 = .ok (.iconst 0, 1) := by decide +kernel
theorem dX6_cue_19 : decode cX6_cue 19 = .ok (.iconst 1, 1) := by decide +kernel
theorem dX6_cue_20 : decode cX6_cue 20 = .ok (.invokestatic 44, 3) := by decide +kernel
theorem dX6_cue_23 : decode cX6_cue 23 = .ok (.ifCond .ne 5, 3) := by decide +kernel
theorem dX6_cue_26 : decode cX6_cue 26 = .ok (.iconst (-1), 1) := by decide +kernel
theorem dX6_cue_27 : decode cX6_cue 27 = .ok (.ireturn, 1) := by decide +kernel
theorem dX6_cue_28 : decode cX6_cue 28 = .ok (.aload_n 0, 1) := by decide +kernel
theorem dX6_cue_29 : decode cX6_cue 29 = .ok (.getfield 12, 3) := by decide +kernel
theorem dX6_cue_32 : decode cX6_cue 32 = .ok (.iload_n 1, 1) := by decide +kernel
theorem dX6_cue_33 : decode cX6_cue 33 = .ok (.iload_n 2, 1) := by decide +kernel
theorem dX6_cue_34 : decode cX6_cue 34 = .ok (.invokevirtual 56, 3) := by decide +kernel
theorem dX6_cue_37 : decode cX6_cue 37 = .ok (.ireturn, 1) := by decide +kernel
theorem dX6_stretches_0 : decode cX6_stretches 0 = .ok (.aload_n 0, 1) := by decide +kernel
theorem dX6_stretches_1 : decode cX6_stretches 1 = .ok (.getfield 12, 3) := by decide +kernel
theorem dX6_stretches_4 : decode cX6_stretches 4 = .ok (.invokevirtual 59, 3) := by decide +kernel
theorem dX6_stretches_7 : decode cX6_stretches 7 = .ok (.ireturn, 1) := by decide +kernel
theorem dX6_stretch_0 : decode cX6_stretch 0 = .ok (.aload_n 0, 1) := by decide +kernel
theorem dX6_stretch_1 : decode cX6_stretch 1 = .ok (.getfield 12, 3) := by decide +kernel
theorem dX6_stretch_4 : decode cX6_stretch 4 = .ok (.iload_n 1, 1) := by decide +kernel
theorem dX6_stretch_5 : decode cX6_stretch 5 = .ok (.invokevirtual 62, 3) := by decide +kernel
theorem dX6_stretch_8 : decode cX6_stretch 8 = .ok (.istore_n 3, 1) := by decide +kernel
theorem dX6_stretch_9 : decode cX6_stretch 9 = .ok (.iload_n 3, 1) := by decide +kernel
theorem dX6_stretch_10 : decode cX6_stretch 10 = .ok (.ifCond .ge 5, 3) := by decide +kernel
theorem dX6_stretch_13 : decode cX6_stretch 13 = .ok (.iconst (-1), 1) := by decide +kernel
theorem dX6_stretch_14 : decode cX6_stretch 14 = .ok (.ireturn, 1) := by decide +kernel
theorem dX6_stretch_15 : decode cX6_stretch 15 = .ok (.aload_n 0, 1) := by decide +kernel
theorem dX6_stretch_16 : decode cX6_stretch 16 = .ok (.getfield 12, 3) := by decide +kernel
theorem dX6_stretch_19 : decode cX6_stretch 19 = .ok (.iload_n 3, 1) := by decide +kernel
theorem dX6_stretch_20 : decode cX6_stretch 20 = .ok (.invokevirtual 66, 3) := by decide +kernel
theorem dX6_stretch_23 : decode cX6_stretch 23 = .ok (.istore 4, 2) := by decide +kernel
theorem dX6_stretch_25 : decode cX6_stretch 25 = .ok (.iload_n 2, 1) := by decide +kernel
theorem dX6_stretch_26 : decode cX6_stretch 26 = .ok (.tableswitch 55 0 3 #[30, 32, 35, 46], 30) := by decide +kernel
theorem dX6_stretch_56 : decode cX6_stretch 56 = .ok (.iload_n 3, 1) := by decide +kernel
theorem dX6_stretch_57 : decode cX6_stretch 57 = .ok (.ireturn, 1) := by decide +kernel
theorem dX6_stretch_58 : decode cX6_stretch 58 = .ok (.iload 4, 2) := by decide +kernel
theorem dX6_stretch_60 : decode cX6_stretch 60 = .ok (.ireturn, 1) := by decide +kernel
theorem dX6_stretch_61 : decode cX6_stretch 61 = .ok (.aload_n 0, 1) := by decide +kernel
theorem dX6_stretch_62 : decode cX6_stretch 62 = .ok (.getfield 12, 3) := by decide +kernel
theorem dX6_stretch_65 : decode cX6_stretch 65 = .ok (.iload_n 3, 1) := by decide +kernel
theorem dX6_stretch_66 : decode cX6_stretch 66 = .ok (.iload 4, 2) := by decide +kernel
theorem dX6_stretch_68 : decode cX6_stretch 68 = .ok (.invokevirtual 69, 3) := by decide +kernel
theorem dX6_stretch_71 : decode cX6_stretch 71 = .ok (.ireturn, 1) := by decide +kernel
theorem dX6_stretch_72 : decode cX6_stretch 72 = .ok (.aload_n 0, 1) := by decide +kernel
theorem dX6_stretch_73 : decode cX6_stretch 73 = .ok (.getfield 12, 3) := by decide +kernel
theorem dX6_stretch_76 : decode cX6_stretch 76 = .ok (.iload_n 3, 1) := by decide +kernel
theorem dX6_stretch_77 : decode cX6_stretch 77 = .ok (.invokevirtual 72, 3) := by decide +kernel
theorem dX6_stretch_80 : decode cX6_stretch 80 = .ok (.ireturn, 1) := by decide +kernel
theorem dX6_stretch_81 : decode cX6_stretch 81 = .ok (.iconst (-1), 1) := by decide +kernel
theorem dX6_stretch_82 : decode cX6_stretch 82 = .ok (.ireturn, 1) := by decide +kernel
theorem dX6_tenths_0 : decode cX6_tenths 0 = .ok (.iload_n 2, 1) := by decide +kernel
theorem dX6_tenths_1 : decode cX6_tenths 1 = .ok (.bipush 12, 2) := by decide +kernel
theorem dX6_tenths_3 : decode cX6_tenths 3 = .ok (.bipush 30, 2) := by decide +kernel
theorem dX6_tenths_5 : decode cX6_tenths 5 = .ok (.invokestatic 44, 3) := by decide +kernel
theorem dX6_tenths_8 : decode cX6_tenths 8 = .ok (.ifCond .ne 5, 3) := by decide +kernel
theorem dX6_tenths_11 : decode cX6_tenths 11 = .ok (.iconst (-1), 1) := by decide +kernel
theorem dX6_tenths_12 : decode cX6_tenths 12 = .ok (.ireturn, 1) := by decide +kernel
theorem dX6_tenths_13 : decode cX6_tenths 13 = .ok (.iload_n 1, 1) := by decide +kernel
theorem dX6_tenths_14 : decode cX6_tenths 14 = .ok (.iconst (-1), 1) := by decide +kernel
theorem dX6_tenths_15 : decode cX6_tenths 15 = .ok (.if_icmp .ne 22, 3) := by decide +kernel
theorem dX6_tenths_18 : decode cX6_tenths 18 = .ok (.aload_n 0, 1) := by decide +kernel
theorem dX6_tenths_19 : decode cX6_tenths 19 = .ok (.getfield 12, 3) := by decide +kernel
theorem dX6_tenths_22 : decode cX6_tenths 22 = .ok (.iconst 0, 1) := by decide +kernel
theorem dX6_tenths_23 : decode cX6_tenths 23 = .ok (.aload_n 0, 1) := by decide +kernel
theorem dX6_tenths_24 : decode cX6_tenths 24 = .ok (.getfield 12, 3) := by decide +kernel
theorem dX6_tenths_27 : decode cX6_tenths 27 = .ok (.invokevirtual 52, 3) := by decide +kernel
theorem dX6_tenths_30 : decode cX6_tenths 30 = .ok (.iconst 1, 1) := by decide +kernel
theorem dX6_tenths_31 : decode cX6_tenths 31 = .ok (.isub, 1) := by decide +kernel
theorem dX6_tenths_32 : decode cX6_tenths 32 = .ok (.iload_n 2, 1) := by decide +kernel
theorem dX6_tenths_33 : decode cX6_tenths 33 = .ok (.invokevirtual 75, 3) := by decide +kernel
theorem dX6_tenths_36 : decode cX6_tenths 36 = .ok (.ireturn, 1) := by decide +kernel
theorem dX6_tenths_37 : decode cX6_tenths 37 = .ok (.aload_n 0, 1) := by decide +kernel
theorem dX6_tenths_38 : decode cX6_tenths 38 = .ok (.getfield 12, 3) := by decide +kernel
theorem dX6_tenths_41 : decode cX6_tenths 41 = .ok (.iload_n 1, 1) := by decide +kernel
theorem dX6_tenths_42 : decode cX6_tenths 42 = .ok (.invokevirtual 62, 3) := by decide +kernel
theorem dX6_tenths_45 : decode cX6_tenths 45 = .ok (.istore_n 3, 1) := by decide +kernel
theorem dX6_tenths_46 : decode cX6_tenths 46 = .ok (.iload_n 3, 1) := by decide +kernel
theorem dX6_tenths_47 : decode cX6_tenths 47 = .ok (.ifCond .ge 7, 3) := by decide +kernel
theorem dX6_tenths_50 : decode cX6_tenths 50 = .ok (.iconst (-1), 1) := by decide +kernel
theorem dX6_tenths_51 : decode cX6_tenths 51 = .ok (.goto 20, 3) := by decide +kernel
theorem dX6_tenths_54 : decode cX6_tenths 54 = .ok (.aload_n 0, 1) := by decide +kernel
theorem dX6_tenths_55 : decode cX6_tenths 55 = .ok (.getfield 12, 3) := by decide +kernel
theorem dX6_tenths_58 : decode cX6_tenths 58 = .ok (.iload_n 3, 1) := by decide +kernel
theorem dX6_tenths_59 : decode cX6_tenths 59 = .ok (.aload_n 0, 1) := by decide +kernel
theorem dX6_tenths_60 : decode cX6_tenths 60 = .ok (.getfield 12, 3) := by decide +kernel
theorem dX6_tenths_63 : decode cX6_tenths 63 = .ok (.iload_n 3, 1) := by decide +kernel
theorem dX6_tenths_64 : decode cX6_tenths 64 = .ok (.invokevirtual 66, 3) := by decide +kernel
theorem dX6_tenths_67 : decode cX6_tenths 67 = .ok (.iload_n 2, 1) := by decide +kernel
theorem dX6_tenths_68 : decode cX6_tenths 68 = .ok (.invokevirtual 75, 3) := by decide +kernel
theorem dX6_tenths_71 : decode cX6_tenths 71 = .ok (.ireturn, 1) := by decide +kernel
theorem dX6_piece_0 : decode cX6_piece 0 = .ok (.iload_n 1, 1) := by decide +kernel
theorem dX6_piece_1 : decode cX6_piece 1 = .ok (.ifCond .lt 28, 3) := by decide +kernel
theorem dX6_piece_4 : decode cX6_piece 4 = .ok (.iload_n 2, 1) := by decide +kernel
theorem dX6_piece_5 : decode cX6_piece 5 = .ok (.ifCond .lt 24, 3) := by decide +kernel
theorem dX6_piece_8 : decode cX6_piece 8 = .ok (.iload_n 3, 1) := by decide +kernel
theorem dX6_piece_9 : decode cX6_piece 9 = .ok (.iconst 0, 1) := by decide +kernel
theorem dX6_piece_10 : decode cX6_piece 10 = .ok (.iconst 1, 1) := by decide +kernel
theorem dX6_piece_11 : decode cX6_piece 11 = .ok (.invokestatic 44, 3) := by decide +kernel
theorem dX6_piece_14 : decode cX6_piece 14 = .ok (.ifCond .eq 15, 3) := by decide +kernel
theorem dX6_piece_17 : decode cX6_piece 17 = .ok (.iload 4, 2) := by decide +kernel
theorem dX6_piece_19 : decode cX6_piece 19 = .ok (.iconst 0, 1) := by decide +kernel
theorem dX6_piece_20 : decode cX6_piece 20 = .ok (.sipush 999, 3) := by decide +kernel
theorem dX6_piece_23 : decode cX6_piece 23 = .ok (.invokestatic 44, 3) := by decide +kernel
theorem dX6_piece_26 : decode cX6_piece 26 = .ok (.ifCond .ne 5, 3) := by decide +kernel
theorem dX6_piece_29 : decode cX6_piece 29 = .ok (.iconst (-1), 1) := by decide +kernel
theorem dX6_piece_30 : decode cX6_piece 30 = .ok (.ireturn, 1) := by decide +kernel
theorem dX6_piece_31 : decode cX6_piece 31 = .ok (.iload_n 1, 1) := by decide +kernel
theorem dX6_piece_32 : decode cX6_piece 32 = .ok (.bipush 100, 2) := by decide +kernel
theorem dX6_piece_34 : decode cX6_piece 34 = .ok (.idiv, 1) := by decide +kernel
theorem dX6_piece_35 : decode cX6_piece 35 = .ok (.istore 5, 2) := by decide +kernel
theorem dX6_piece_37 : decode cX6_piece 37 = .ok (.iload_n 1, 1) := by decide +kernel
theorem dX6_piece_38 : decode cX6_piece 38 = .ok (.bipush 100, 2) := by decide +kernel
theorem dX6_piece_40 : decode cX6_piece 40 = .ok (.irem, 1) := by decide +kernel
theorem dX6_piece_41 : decode cX6_piece 41 = .ok (.istore 6, 2) := by decide +kernel
theorem dX6_piece_43 : decode cX6_piece 43 = .ok (.iload_n 2, 1) := by decide +kernel
theorem dX6_piece_44 : decode cX6_piece 44 = .ok (.sipush 1000, 3) := by decide +kernel
theorem dX6_piece_47 : decode cX6_piece 47 = .ok (.idiv, 1) := by decide +kernel
theorem dX6_piece_48 : decode cX6_piece 48 = .ok (.istore 7, 2) := by decide +kernel
theorem dX6_piece_50 : decode cX6_piece 50 = .ok (.iload_n 2, 1) := by decide +kernel
theorem dX6_piece_51 : decode cX6_piece 51 = .ok (.sipush 1000, 3) := by decide +kernel
theorem dX6_piece_54 : decode cX6_piece 54 = .ok (.irem, 1) := by decide +kernel
theorem dX6_piece_55 : decode cX6_piece 55 = .ok (.istore 8, 2) := by decide +kernel
theorem dX6_piece_57 : decode cX6_piece 57 = .ok (.iload 5, 2) := by decide +kernel
theorem dX6_piece_59 : decode cX6_piece 59 = .ok (.bipush 12, 2) := by decide +kernel
theorem dX6_piece_61 : decode cX6_piece 61 = .ok (.if_icmp .ge 14, 3) := by decide +kernel
theorem dX6_piece_64 : decode cX6_piece 64 = .ok (.iload 6, 2) := by decide +kernel
theorem dX6_piece_66 : decode cX6_piece 66 = .ok (.iconst 1, 1) := by decide +kernel
theorem dX6_piece_67 : decode cX6_piece 67 = .ok (.bipush 63, 2) := by decide +kernel
theorem dX6_piece_69 : decode cX6_piece 69 = .ok (.invokestatic 44, 3) := by decide +kernel
theorem dX6_piece_72 : decode cX6_piece 72 = .ok (.ifCond .ne 5, 3) := by decide +kernel
theorem dX6_piece_75 : decode cX6_piece 75 = .ok (.iconst (-1), 1) := by decide +kernel
theorem dX6_piece_76 : decode cX6_piece 76 = .ok (.ireturn, 1) := by decide +kernel
theorem dX6_piece_77 : decode cX6_piece 77 = .ok (.iload 7, 2) := by decide +kernel
theorem dX6_piece_79 : decode cX6_piece 79 = .ok (.bipush 30, 2) := by decide +kernel
theorem dX6_piece_81 : decode cX6_piece 81 = .ok (.if_icmp .lt 18, 3) := by decide +kernel
theorem dX6_piece_84 : decode cX6_piece 84 = .ok (.iload 7, 2) := by decide +kernel
theorem dX6_piece_86 : decode cX6_piece 86 = .ok (.iload 8, 2) := by decide +kernel
theorem dX6_piece_88 : decode cX6_piece 88 = .ok (.if_icmp .gt 11, 3) := by decide +kernel
theorem dX6_piece_91 : decode cX6_piece 91 = .ok (.iload 8, 2) := by decide +kernel
theorem dX6_piece_93 : decode cX6_piece 93 = .ok (.sipush 240, 3) := by decide +kernel
theorem dX6_piece_96 : decode cX6_piece 96 = .ok (.if_icmp .le 5, 3) := by decide +kernel
theorem dX6_piece_99 : decode cX6_piece 99 = .ok (.iconst (-1), 1) := by decide +kernel
theorem dX6_piece_100 : decode cX6_piece 100 = .ok (.ireturn, 1) := by decide +kernel
theorem dX6_piece_101 : decode cX6_piece 101 = .ok (.aload_n 0, 1) := by decide +kernel
theorem dX6_piece_102 : decode cX6_piece 102 = .ok (.getfield 19, 3) := by decide +kernel
theorem dX6_piece_105 : decode cX6_piece 105 = .ok (.invokevirtual 79, 3) := by decide +kernel
theorem dX6_piece_108 : decode cX6_piece 108 = .ok (.bipush 12, 2) := by decide +kernel
theorem dX6_piece_110 : decode cX6_piece 110 = .ok (.if_icmp .lt 6, 3) := by decide +kernel
theorem dX6_piece_113 : decode cX6_piece 113 = .ok (.bipush (-3), 2) := by decide +kernel
theorem dX6_piece_115 : decode cX6_piece 115 = .ok (.ireturn, 1) := by decide +kernel
theorem dX6_piece_116 : decode cX6_piece 116 = .ok (.aload_n 0, 1) := by decide +kernel
theorem dX6_piece_117 : decode cX6_piece 117 = .ok (.getfield 19, 3) := by decide +kernel
theorem dX6_piece_120 : decode cX6_piece 120 = .ok (.new 82, 3) := by decide +kernel
theorem dX6_piece_123 : decode cX6_piece 123 = .ok (.dup, 1) := by decide +kernel
theorem dX6_piece_124 : decode cX6_piece 124 = .ok (.iload 5, 2) := by decide +kernel
theorem dX6_piece_126 : decode cX6_piece 126 = .ok (.iload 6, 2) := by decide +kernel
theorem dX6_piece_128 : decode cX6_piece 128 = .ok (.iload 7, 2) := by decide +kernel
theorem dX6_piece_130 : decode cX6_piece 130 = .ok (.iload 8, 2) := by decide +kernel
theorem dX6_piece_132 : decode cX6_piece 132 = .ok (.iload_n 3, 1) := by decide +kernel
theorem dX6_piece_133 : decode cX6_piece 133 = .ok (.iconst 1, 1) := by decide +kernel
theorem dX6_piece_134 : decode cX6_piece 134 = .ok (.if_icmp .ne 7, 3) := by decide +kernel
theorem dX6_piece_137 : decode cX6_piece 137 = .ok (.iconst 1, 1) := by decide +kernel
theorem dX6_piece_138 : decode cX6_piece 138 = .ok (.goto 4, 3) := by decide +kernel
theorem dX6_piece_141 : decode cX6_piece 141 = .ok (.iconst 0, 1) := by decide +kernel
theorem dX6_piece_142 : decode cX6_piece 142 = .ok (.iload 4, 2) := by decide +kernel
theorem dX6_piece_144 : decode cX6_piece 144 = .ok (.invokespecial 84, 3) := by decide +kernel
theorem dX6_piece_147 : decode cX6_piece 147 = .ok (.invokevirtual 87, 3) := by decide +kernel
theorem dX6_piece_150 : decode cX6_piece 150 = .ok (.pop, 1) := by decide +kernel
theorem dX6_piece_151 : decode cX6_piece 151 = .ok (.aload_n 0, 1) := by decide +kernel
theorem dX6_piece_152 : decode cX6_piece 152 = .ok (.getfield 19, 3) := by decide +kernel
theorem dX6_piece_155 : decode cX6_piece 155 = .ok (.invokevirtual 79, 3) := by decide +kernel
theorem dX6_piece_158 : decode cX6_piece 158 = .ok (.iconst 1, 1) := by decide +kernel
theorem dX6_piece_159 : decode cX6_piece 159 = .ok (.isub, 1) := by decide +kernel
theorem dX6_piece_160 : decode cX6_piece 160 = .ok (.ireturn, 1) := by decide +kernel
theorem dX6_block_0 : decode cX6_block 0 = .ok (.aload_n 0, 1) := by decide +kernel
theorem dX6_block_1 : decode cX6_block 1 = .ok (.iload_n 1, 1) := by decide +kernel
theorem dX6_block_2 : decode cX6_block 2 = .ok (.invokevirtual 90, 3) := by decide +kernel
theorem dX6_block_5 : decode cX6_block 5 = .ok (.astore 5, 2) := by decide +kernel
theorem dX6_block_7 : decode cX6_block 7 = .ok (.aload 5, 2) := by decide +kernel
theorem dX6_block_9 : decode cX6_block 9 = .ok (.ifnull 13, 3) := by decide +kernel
theorem dX6_block_12 : decode cX6_block 12 = .ok (.iload_n 2, 1) := by decide +kernel
theorem dX6_block_13 : decode cX6_block 13 = .ok (.iconst 1, 1) := by decide +kernel
theorem dX6_block_14 : decode cX6_block 14 = .ok (.bipush 64, 2) := by decide +kernel
theorem dX6_block_16 : decode cX6_block 16 = .ok (.invokestatic 44, 3) := by decide +kernel
theorem dX6_block_19 : decode cX6_block 19 = .ok (.ifCond .ne 5, 3) := by decide +kernel
theorem dX6_block_22 : decode cX6_block 22 = .ok (.iconst (-1), 1) := by decide +kernel
theorem dX6_block_23 : decode cX6_block 23 = .ok (.ireturn, 1) := by decide +kernel
theorem dX6_block_24 : decode cX6_block 24 = .ok (.iload_n 3, 1) := by decide +kernel
theorem dX6_block_25 : decode cX6_block 25 = .ok (.iconst 0, 1) := by decide +kernel
theorem dX6_block_26 : decode cX6_block 26 = .ok (.iconst 3, 1) := by decide +kernel
theorem dX6_block_27 : decode cX6_block 27 = .ok (.invokestatic 44, 3) := by decide +kernel
theorem dX6_block_30 : decode cX6_block 30 = .ok (.ifCond .eq 15, 3) := by decide +kernel
theorem dX6_block_33 : decode cX6_block 33 = .ok (.iload 4, 2) := by decide +kernel
theorem dX6_block_35 : decode cX6_block 35 = .ok (.iconst 0, 1) := by decide +kernel
theorem dX6_block_36 : decode cX6_block 36 = .ok (.sipush 255, 3) := by decide +kernel
theorem dX6_block_39 : decode cX6_block 39 = .ok (.invokestatic 44, 3) := by decide +kernel
theorem dX6_block_42 : decode cX6_block 42 = .ok (.ifCond .ne 5, 3) := by decide +kernel
theorem dX6_block_45 : decode cX6_block 45 = .ok (.iconst (-1), 1) := by decide +kernel
theorem dX6_block_46 : decode cX6_block 46 = .ok (.ireturn, 1) := by decide +kernel
theorem dX6_block_47 : decode cX6_block 47 = .ok (.aload 5, 2) := by decide +kernel
theorem dX6_block_49 : decode cX6_block 49 = .ok (.iload_n 2, 1) := by decide +kernel
theorem dX6_block_50 : decode cX6_block 50 = .ok (.iload_n 3, 1) := by decide +kernel
theorem dX6_block_51 : decode cX6_block 51 = .ok (.iload 4, 2) := by decide +kernel
theorem dX6_block_53 : decode cX6_block 53 = .ok (.invokevirtual 94, 3) := by decide +kernel
theorem dX6_block_56 : decode cX6_block 56 = .ok (.ireturn, 1) := by decide +kernel
theorem dX6_way_0 : decode cX6_way 0 = .ok (.aload_n 0, 1) := by decide +kernel
theorem dX6_way_1 : decode cX6_way 1 = .ok (.iload_n 1, 1) := by decide +kernel
theorem dX6_way_2 : decode cX6_way 2 = .ok (.invokevirtual 90, 3) := by decide +kernel
theorem dX6_way_5 : decode cX6_way 5 = .ok (.astore_n 3, 1) := by decide +kernel
theorem dX6_way_6 : decode cX6_way 6 = .ok (.aload_n 3, 1) := by decide +kernel
theorem dX6_way_7 : decode cX6_way 7 = .ok (.ifnull 14, 3) := by decide +kernel
theorem dX6_way_10 : decode cX6_way 10 = .ok (.iload_n 2, 1) := by decide +kernel
theorem dX6_way_11 : decode cX6_way 11 = .ok (.iconst 1, 1) := by decide +kernel
theorem dX6_way_12 : decode cX6_way 12 = .ok (.sipush 400, 3) := by decide +kernel
theorem dX6_way_15 : decode cX6_way 15 = .ok (.invokestatic 44, 3) := by decide +kernel
theorem dX6_way_18 : decode cX6_way 18 = .ok (.ifCond .ne 5, 3) := by decide +kernel
theorem dX6_way_21 : decode cX6_way 21 = .ok (.iconst (-1), 1) := by decide +kernel
theorem dX6_way_22 : decode cX6_way 22 = .ok (.ireturn, 1) := by decide +kernel
theorem dX6_way_23 : decode cX6_way 23 = .ok (.aload_n 3, 1) := by decide +kernel
theorem dX6_way_24 : decode cX6_way 24 = .ok (.iload_n 2, 1) := by decide +kernel
theorem dX6_way_25 : decode cX6_way 25 = .ok (.invokevirtual 96, 3) := by decide +kernel
theorem dX6_way_28 : decode cX6_way 28 = .ok (.istore 4, 2) := by decide +kernel
theorem dX6_way_30 : decode cX6_way 30 = .ok (.iload 4, 2) := by decide +kernel
theorem dX6_way_32 : decode cX6_way 32 = .ok (.bipush 17, 2) := by decide +kernel
theorem dX6_way_34 : decode cX6_way 34 = .ok (.if_icmp .ne 8, 3) := by decide +kernel
theorem dX6_way_37 : decode cX6_way 37 = .ok (.bipush (-2), 2) := by decide +kernel
theorem dX6_way_39 : decode cX6_way 39 = .ok (.goto 5, 3) := by decide +kernel
theorem dX6_way_42 : decode cX6_way 42 = .ok (.iload 4, 2) := by decide +kernel
theorem dX6_way_44 : decode cX6_way 44 = .ok (.ireturn, 1) := by decide +kernel
theorem dX6_along_0 : decode cX6_along 0 = .ok (.aload_n 0, 1) := by decide +kernel
theorem dX6_along_1 : decode cX6_along 1 = .ok (.iload_n 1, 1) := by decide +kernel
theorem dX6_along_2 : decode cX6_along 2 = .ok (.invokevirtual 90, 3) := by decide +kernel
theorem dX6_along_5 : decode cX6_along 5 = .ok (.astore 4, 2) := by decide +kernel
theorem dX6_along_7 : decode cX6_along 7 = .ok (.aload 4, 2) := by decide +kernel
theorem dX6_along_9 : decode cX6_along 9 = .ok (.ifnull 14, 3) := by decide +kernel
theorem dX6_along_12 : decode cX6_along 12 = .ok (.iload_n 2, 1) := by decide +kernel
theorem dX6_along_13 : decode cX6_along 13 = .ok (.iconst 1, 1) := by decide +kernel
theorem dX6_along_14 : decode cX6_along 14 = .ok (.sipush 400, 3) := by decide +kernel
theorem dX6_along_17 : decode cX6_along 17 = .ok (.invokestatic 44, 3) := by decide +kernel
theorem dX6_along_20 : decode cX6_along 20 = .ok (.ifCond .ne 5, 3) := by decide +kernel
theorem dX6_along_23 : decode cX6_along 23 = .ok (.iconst (-1), 1) := by decide +kernel
theorem dX6_along_24 : decode cX6_along 24 = .ok (.ireturn, 1) := by decide +kernel
theorem dX6_along_25 : decode cX6_along 25 = .ok (.aload 4, 2) := by decide +kernel
theorem dX6_along_27 : decode cX6_along 27 = .ok (.iload_n 2, 1) := by decide +kernel
theorem dX6_along_28 : decode cX6_along 28 = .ok (.invokevirtual 99, 3) := by decide +kernel
theorem dX6_along_31 : decode cX6_along 31 = .ok (.astore 5, 2) := by decide +kernel
theorem dX6_along_33 : decode cX6_along 33 = .ok (.iload_n 3, 1) := by decide +kernel
theorem dX6_along_34 : decode cX6_along 34 = .ok (.iconst 0, 1) := by decide +kernel
theorem dX6_along_35 : decode cX6_along 35 = .ok (.aload 5, 2) := by decide +kernel
theorem dX6_along_37 : decode cX6_along 37 = .ok (.arraylength, 1) := by decide +kernel
theorem dX6_along_38 : decode cX6_along 38 = .ok (.iconst 1, 1) := by decide +kernel
theorem dX6_along_39 : decode cX6_along 39 = .ok (.isub, 1) := by decide +kernel
theorem dX6_along_40 : decode cX6_along 40 = .ok (.invokestatic 44, 3) := by decide +kernel
theorem dX6_along_43 : decode cX6_along 43 = .ok (.ifCond .eq 10, 3) := by decide +kernel
theorem dX6_along_46 : decode cX6_along 46 = .ok (.aload 5, 2) := by decide +kernel
theorem dX6_along_48 : decode cX6_along 48 = .ok (.iload_n 3, 1) := by decide +kernel
theorem dX6_along_49 : decode cX6_along 49 = .ok (.iaload, 1) := by decide +kernel
theorem dX6_along_50 : decode cX6_along 50 = .ok (.goto 4, 3) := by decide +kernel
theorem dX6_along_53 : decode cX6_along 53 = .ok (.iconst (-1), 1) := by decide +kernel
theorem dX6_along_54 : decode cX6_along 54 = .ok (.ireturn, 1) := by decide +kernel
theorem dX6_misfit_0 : decode cX6_misfit 0 = .ok (.aload_n 0, 1) := by decide +kernel
theorem dX6_misfit_1 : decode cX6_misfit 1 = .ok (.iload_n 1, 1) := by decide +kernel
theorem dX6_misfit_2 : decode cX6_misfit 2 = .ok (.invokevirtual 90, 3) := by decide +kernel
theorem dX6_misfit_5 : decode cX6_misfit 5 = .ok (.astore 4, 2) := by decide +kernel
theorem dX6_misfit_7 : decode cX6_misfit 7 = .ok (.aload 4, 2) := by decide +kernel
theorem dX6_misfit_9 : decode cX6_misfit 9 = .ok (.ifnull 24, 3) := by decide +kernel
theorem dX6_misfit_12 : decode cX6_misfit 12 = .ok (.iload_n 2, 1) := by decide +kernel
theorem dX6_misfit_13 : decode cX6_misfit 13 = .ok (.iconst 1, 1) := by decide +kernel
theorem dX6_misfit_14 : decode cX6_misfit 14 = .ok (.sipush 400, 3) := by decide +kernel
theorem dX6_misfit_17 : decode cX6_misfit 17 = .ok (.invokestatic 44, 3) := by decide +kernel
theorem dX6_misfit_20 : decode cX6_misfit 20 = .ok (.ifCond .eq 13, 3) := by decide +kernel
theorem dX6_misfit_23 : decode cX6_misfit 23 = .ok (.iload_n 3, 1) := by decide +kernel
theorem dX6_misfit_24 : decode cX6_misfit 24 = .ok (.iconst 0, 1) := by decide +kernel
theorem dX6_misfit_25 : decode cX6_misfit 25 = .ok (.ldc 103, 2) := by decide +kernel
theorem dX6_misfit_27 : decode cX6_misfit 27 = .ok (.invokestatic 44, 3) := by decide +kernel
theorem dX6_misfit_30 : decode cX6_misfit 30 = .ok (.ifCond .ne 5, 3) := by decide +kernel
theorem dX6_misfit_33 : decode cX6_misfit 33 = .ok (.iconst (-1), 1) := by decide +kernel
theorem dX6_misfit_34 : decode cX6_misfit 34 = .ok (.ireturn, 1) := by decide +kernel
theorem dX6_misfit_35 : decode cX6_misfit 35 = .ok (.aload 4, 2) := by decide +kernel
theorem dX6_misfit_37 : decode cX6_misfit 37 = .ok (.iload_n 2, 1) := by decide +kernel
theorem dX6_misfit_38 : decode cX6_misfit 38 = .ok (.iload_n 3, 1) := by decide +kernel
theorem dX6_misfit_39 : decode cX6_misfit 39 = .ok (.invokevirtual 104, 3) := by decide +kernel
theorem dX6_misfit_42 : decode cX6_misfit 42 = .ok (.ireturn, 1) := by decide +kernel
theorem dX6_best_0 : decode cX6_best 0 = .ok (.aload_n 0, 1) := by decide +kernel
theorem dX6_best_1 : decode cX6_best 1 = .ok (.iload_n 1, 1) := by decide +kernel
theorem dX6_best_2 : decode cX6_best 2 = .ok (.invokevirtual 90, 3) := by decide +kernel
theorem dX6_best_5 : decode cX6_best 5 = .ok (.astore_n 3, 1) := by decide +kernel
theorem dX6_best_6 : decode cX6_best 6 = .ok (.aload_n 3, 1) := by decide +kernel
theorem dX6_best_7 : decode cX6_best 7 = .ok (.ifnull 13, 3) := by decide +kernel
theorem dX6_best_10 : decode cX6_best 10 = .ok (.iload_n 2, 1) := by decide +kernel
theorem dX6_best_11 : decode cX6_best 11 = .ok (.iconst 0, 1) := by decide +kernel
theorem dX6_best_12 : decode cX6_best 12 = .ok (.ldc 103, 2) := by decide +kernel
theorem dX6_best_14 : decode cX6_best 14 = .ok (.invokestatic 44, 3) := by decide +kernel
theorem dX6_best_17 : decode cX6_best 17 = .ok (.ifCond .ne 5, 3) := by decide +kernel
theorem dX6_best_20 : decode cX6_best 20 = .ok (.iconst (-1), 1) := by decide +kernel
theorem dX6_best_21 : decode cX6_best 21 = .ok (.ireturn, 1) := by decide +kernel
theorem dX6_best_22 : decode cX6_best 22 = .ok (.aload_n 3, 1) := by decide +kernel
theorem dX6_best_23 : decode cX6_best 23 = .ok (.iload_n 2, 1) := by decide +kernel
theorem dX6_best_24 : decode cX6_best 24 = .ok (.invokevirtual 107, 3) := by decide +kernel
theorem dX6_best_27 : decode cX6_best 27 = .ok (.ireturn, 1) := by decide +kernel
theorem dX6_step_0 : decode cX6_step 0 = .ok (.iload_n 1, 1) := by decide +kernel
theorem dX6_step_1 : decode cX6_step 1 = .ok (.iconst 0, 1) := by decide +kernel
theorem dX6_step_2 : decode cX6_step 2 = .ok (.bipush 11, 2) := by decide +kernel
theorem dX6_step_4 : decode cX6_step 4 = .ok (.invokestatic 44, 3) := by decide +kernel
theorem dX6_step_7 : decode cX6_step 7 = .ok (.ifCond .eq 13, 3) := by decide +kernel
theorem dX6_step_10 : decode cX6_step 10 = .ok (.iload_n 2, 1) := by decide +kernel
theorem dX6_step_11 : decode cX6_step 11 = .ok (.iconst 0, 1) := by decide +kernel
theorem dX6_step_12 : decode cX6_step 12 = .ok (.bipush 11, 2) := by decide +kernel
theorem dX6_step_14 : decode cX6_step 14 = .ok (.invokestatic 44, 3) := by decide +kernel
theorem dX6_step_17 : decode cX6_step 17 = .ok (.ifCond .ne 5, 3) := by decide +kernel
theorem dX6_step_20 : decode cX6_step 20 = .ok (.iconst (-1), 1) := by decide +kernel
theorem dX6_step_21 : decode cX6_step 21 = .ok (.ireturn, 1) := by decide +kernel
theorem dX6_step_22 : decode cX6_step 22 = .ok (.iload_n 1, 1) := by decide +kernel
theorem dX6_step_23 : decode cX6_step 23 = .ok (.iload_n 2, 1) := by decide +kernel
theorem dX6_step_24 : decode cX6_step 24 = .ok (.invokestatic 110, 3) := by decide +kernel
theorem dX6_step_27 : decode cX6_step 27 = .ok (.ireturn, 1) := by decide +kernel
theorem dX6_rule_0 : decode cX6_rule 0 = .ok (.iload_n 1, 1) := by decide +kernel
theorem dX6_rule_1 : decode cX6_rule 1 = .ok (.ifCond .ne 22, 3) := by decide +kernel
theorem dX6_rule_4 : decode cX6_rule 4 = .ok (.iload_n 2, 1) := by decide +kernel
theorem dX6_rule_5 : decode cX6_rule 5 = .ok (.iconst 0, 1) := by decide +kernel
theorem dX6_rule_6 : decode cX6_rule 6 = .ok (.bipush 99, 2) := by decide +kernel
theorem dX6_rule_8 : decode cX6_rule 8 = .ok (.invokestatic 44, 3) := by decide +kernel
theorem dX6_rule_11 : decode cX6_rule 11 = .ok (.ifCond .eq 12, 3) := by decide +kernel
theorem dX6_rule_14 : decode cX6_rule 14 = .ok (.aload_n 0, 1) := by decide +kernel
theorem dX6_rule_15 : decode cX6_rule 15 = .ok (.getfield 26, 3) := by decide +kernel
theorem dX6_rule_18 : decode cX6_rule 18 = .ok (.iload_n 2, 1) := by decide +kernel
theorem dX6_rule_19 : decode cX6_rule 19 = .ok (.invokevirtual 113, 3) := by decide +kernel
theorem dX6_rule_22 : decode cX6_rule 22 = .ok (.ireturn, 1) := by decide +kernel
theorem dX6_rule_23 : decode cX6_rule 23 = .ok (.iload_n 1, 1) := by decide +kernel
theorem dX6_rule_24 : decode cX6_rule 24 = .ok (.iconst 1, 1) := by decide +kernel
theorem dX6_rule_25 : decode cX6_rule 25 = .ok (.if_icmp .ne 22, 3) := by decide +kernel
theorem dX6_rule_28 : decode cX6_rule 28 = .ok (.iload_n 2, 1) := by decide +kernel
theorem dX6_rule_29 : decode cX6_rule 29 = .ok (.iconst 0, 1) := by decide +kernel
theorem dX6_rule_30 : decode cX6_rule 30 = .ok (.bipush 6, 2) := by decide +kernel
theorem dX6_rule_32 : decode cX6_rule 32 = .ok (.invokestatic 44, 3) := by decide +kernel
theorem dX6_rule_35 : decode cX6_rule 35 = .ok (.ifCond .eq 12, 3) := by decide +kernel
theorem dX6_rule_38 : decode cX6_rule 38 = .ok (.aload_n 0, 1) := by decide +kernel
theorem dX6_rule_39 : decode cX6_rule 39 = .ok (.getfield 26, 3) := by decide +kernel
theorem dX6_rule_42 : decode cX6_rule 42 = .ok (.iload_n 2, 1) := by decide +kernel
theorem dX6_rule_43 : decode cX6_rule 43 = .ok (.invokevirtual 116, 3) := by decide +kernel
theorem dX6_rule_46 : decode cX6_rule 46 = .ok (.ireturn, 1) := by decide +kernel
theorem dX6_rule_47 : decode cX6_rule 47 = .ok (.iconst (-1), 1) := by decide +kernel
theorem dX6_rule_48 : decode cX6_rule 48 = .ok (.ireturn, 1) := by decide +kernel
theorem dX6_programme_0 : decode cX6_programme 0 = .ok (.iload_n 1, 1) := by decide +kernel
theorem dX6_programme_1 : decode cX6_programme 1 = .ok (.bipush 12, 2) := by decide +kernel
theorem dX6_programme_3 : decode cX6_programme 3 = .ok (.bipush 30, 2) := by decide +kernel
theorem dX6_programme_5 : decode cX6_programme 5 = .ok (.invokestatic 44, 3) := by decide +kernel
theorem dX6_programme_8 : decode cX6_programme 8 = .ok (.ifCond .ne 5, 3) := by decide +kernel
theorem dX6_programme_11 : decode cX6_programme 11 = .ok (.iconst (-1), 1) := by decide +kernel
theorem dX6_programme_12 : decode cX6_programme 12 = .ok (.ireturn, 1) := by decide +kernel
theorem dX6_programme_13 : decode cX6_programme 13 = .ok (.aload_n 0, 1) := by decide +kernel
theorem dX6_programme_14 : decode cX6_programme 14 = .ok (.getfield 12, 3) := by decide +kernel
theorem dX6_programme_17 : decode cX6_programme 17 = .ok (.invokevirtual 59, 3) := by decide +kernel
theorem dX6_programme_20 : decode cX6_programme 20 = .ok (.bipush 8, 2) := by decide +kernel
theorem dX6_programme_22 : decode cX6_programme 22 = .ok (.if_icmp .le 6, 3) := by decide +kernel
theorem dX6_programme_25 : decode cX6_programme 25 = .ok (.bipush (-4), 2) := by decide +kernel
theorem dX6_programme_27 : decode cX6_programme 27 = .ok (.ireturn, 1) := by decide +kernel
theorem dX6_programme_28 : decode cX6_programme 28 = .ok (.aload_n 0, 1) := by decide +kernel
theorem dX6_programme_29 : decode cX6_programme 29 = .ok (.getfield 12, 3) := by decide +kernel
theorem dX6_programme_32 : decode cX6_programme 32 = .ok (.invokevirtual 59, 3) := by decide +kernel
theorem dX6_programme_35 : decode cX6_programme 35 = .ok (.ifCond .eq 13, 3) := by decide +kernel
theorem dX6_programme_38 : decode cX6_programme 38 = .ok (.aload_n 0, 1) := by decide +kernel
theorem dX6_programme_39 : decode cX6_programme 39 = .ok (.getfield 19, 3) := by decide +kernel
theorem dX6_programme_42 : decode cX6_programme 42 = .ok (.invokevirtual 119, 3) := by decide +kernel
theorem dX6_programme_45 : decode cX6_programme 45 = .ok (.ifCond .eq 6, 3) := by decide +kernel
theorem dX6_programme_48 : decode cX6_programme 48 = .ok (.bipush (-2), 2) := by decide +kernel
theorem dX6_programme_50 : decode cX6_programme 50 = .ok (.ireturn, 1) := by decide +kernel
theorem dX6_programme_51 : decode cX6_programme 51 = .ok (.aload_n 0, 1) := by decide +kernel
theorem dX6_programme_52 : decode cX6_programme 52 = .ok (.getfield 26, 3) := by decide +kernel
theorem dX6_programme_55 : decode cX6_programme 55 = .ok (.aload_n 0, 1) := by decide +kernel
theorem dX6_programme_56 : decode cX6_programme 56 = .ok (.getfield 12, 3) := by decide +kernel
theorem dX6_programme_59 : decode cX6_programme 59 = .ok (.aload_n 0, 1) := by decide +kernel
theorem dX6_programme_60 : decode cX6_programme 60 = .ok (.getfield 19, 3) := by decide +kernel
theorem dX6_programme_63 : decode cX6_programme 63 = .ok (.iload_n 1, 1) := by decide +kernel
theorem dX6_programme_64 : decode cX6_programme 64 = .ok (.invokevirtual 123, 3) := by decide +kernel
theorem dX6_programme_67 : decode cX6_programme 67 = .ok (.aload_n 0, 1) := by decide +kernel
theorem dX6_programme_68 : decode cX6_programme 68 = .ok (.getfield 26, 3) := by decide +kernel
theorem dX6_programme_71 : decode cX6_programme 71 = .ok (.invokevirtual 127, 3) := by decide +kernel
theorem dX6_programme_74 : decode cX6_programme 74 = .ok (.istore_n 2, 1) := by decide +kernel
theorem dX6_programme_75 : decode cX6_programme 75 = .ok (.iload_n 2, 1) := by decide +kernel
theorem dX6_programme_76 : decode cX6_programme 76 = .ok (.ldc 130, 2) := by decide +kernel
theorem dX6_programme_78 : decode cX6_programme 78 = .ok (.if_icmp .ne 6, 3) := by decide +kernel
theorem dX6_programme_81 : decode cX6_programme 81 = .ok (.bipush (-2), 2) := by decide +kernel
theorem dX6_programme_83 : decode cX6_programme 83 = .ok (.ireturn, 1) := by decide +kernel
theorem dX6_programme_84 : decode cX6_programme 84 = .ok (.aload_n 0, 1) := by decide +kernel
theorem dX6_programme_85 : decode cX6_programme 85 = .ok (.aload_n 0, 1) := by decide +kernel
theorem dX6_programme_86 : decode cX6_programme 86 = .ok (.getfield 26, 3) := by decide +kernel
theorem dX6_programme_89 : decode cX6_programme 89 = .ok (.aload_n 0, 1) := by decide +kernel
theorem dX6_programme_90 : decode cX6_programme 90 = .ok (.getfield 19, 3) := by decide +kernel
theorem dX6_programme_93 : decode cX6_programme 93 = .ok (.aload_n 0, 1) := by decide +kernel
theorem dX6_programme_94 : decode cX6_programme 94 = .ok (.getfield 26, 3) := by decide +kernel
theorem dX6_programme_97 : decode cX6_programme 97 = .ok (.invokevirtual 131, 3) := by decide +kernel
theorem dX6_programme_100 : decode cX6_programme 100 = .ok (.invokevirtual 135, 3) := by decide +kernel
theorem dX6_programme_103 : decode cX6_programme 103 = .ok (.putfield 37, 3) := by decide +kernel
theorem dX6_programme_106 : decode cX6_programme 106 = .ok (.iload_n 2, 1) := by decide +kernel
theorem dX6_programme_107 : decode cX6_programme 107 = .ok (.ireturn, 1) := by decide +kernel
theorem dX6_given_0 : decode cX6_given 0 = .ok (.iload_n 1, 1) := by decide +kernel
theorem dX6_given_1 : decode cX6_given 1 = .ok (.iconst 0, 1) := by decide +kernel
theorem dX6_given_2 : decode cX6_given 2 = .ok (.aload_n 0, 1) := by decide +kernel
theorem dX6_given_3 : decode cX6_given 3 = .ok (.getfield 37, 3) := by decide +kernel
theorem dX6_given_6 : decode cX6_given 6 = .ok (.invokevirtual 79, 3) := by decide +kernel
theorem dX6_given_9 : decode cX6_given 9 = .ok (.iconst 1, 1) := by decide +kernel
theorem dX6_given_10 : decode cX6_given 10 = .ok (.isub, 1) := by decide +kernel
theorem dX6_given_11 : decode cX6_given 11 = .ok (.invokestatic 44, 3) := by decide +kernel
theorem dX6_given_14 : decode cX6_given 14 = .ok (.ifCond .ne 5, 3) := by decide +kernel
theorem dX6_given_17 : decode cX6_given 17 = .ok (.iconst (-1), 1) := by decide +kernel
theorem dX6_given_18 : decode cX6_given 18 = .ok (.ireturn, 1) := by decide +kernel
theorem dX6_given_19 : decode cX6_given 19 = .ok (.aload_n 0, 1) := by decide +kernel
theorem dX6_given_20 : decode cX6_given 20 = .ok (.getfield 37, 3) := by decide +kernel
theorem dX6_given_23 : decode cX6_given 23 = .ok (.iload_n 1, 1) := by decide +kernel
theorem dX6_given_24 : decode cX6_given 24 = .ok (.invokevirtual 139, 3) := by decide +kernel
theorem dX6_given_27 : decode cX6_given 27 = .ok (.checkcast 143, 3) := by decide +kernel
theorem dX6_given_30 : decode cX6_given 30 = .ok (.astore_n 3, 1) := by decide +kernel
theorem dX6_given_31 : decode cX6_given 31 = .ok (.iload_n 2, 1) := by decide +kernel
theorem dX6_given_32 : decode cX6_given 32 = .ok (.tableswitch 52 0 3 #[32, 37, 42, 47], 32) := by decide +kernel
theorem dX6_given_64 : decode cX6_given 64 = .ok (.aload_n 3, 1) := by decide +kernel
theorem dX6_given_65 : decode cX6_given 65 = .ok (.getfield 145, 3) := by decide +kernel
theorem dX6_given_68 : decode cX6_given 68 = .ok (.ireturn, 1) := by decide +kernel
theorem dX6_given_69 : decode cX6_given 69 = .ok (.aload_n 3, 1) := by decide +kernel
theorem dX6_given_70 : decode cX6_given 70 = .ok (.getfield 149, 3) := by decide +kernel
theorem dX6_given_73 : decode cX6_given 73 = .ok (.ireturn, 1) := by decide +kernel
theorem dX6_given_74 : decode cX6_given 74 = .ok (.aload_n 3, 1) := by decide +kernel
theorem dX6_given_75 : decode cX6_given 75 = .ok (.getfield 152, 3) := by decide +kernel
theorem dX6_given_78 : decode cX6_given 78 = .ok (.ireturn, 1) := by decide +kernel
theorem dX6_given_79 : decode cX6_given 79 = .ok (.aload_n 3, 1) := by decide +kernel
theorem dX6_given_80 : decode cX6_given 80 = .ok (.getfield 155, 3) := by decide +kernel
theorem dX6_given_83 : decode cX6_given 83 = .ok (.ireturn, 1) := by decide +kernel
theorem dX6_given_84 : decode cX6_given 84 = .ok (.iconst (-1), 1) := by decide +kernel
theorem dX6_given_85 : decode cX6_given 85 = .ok (.ireturn, 1) := by decide +kernel
theorem dX6_begin_0 : decode cX6_begin 0 = .ok (.aload_n 0, 1) := by decide +kernel
theorem dX6_begin_1 : decode cX6_begin 1 = .ok (.getfield 37, 3) := by decide +kernel
theorem dX6_begin_4 : decode cX6_begin 4 = .ok (.invokevirtual 119, 3) := by decide +kernel
theorem dX6_begin_7 : decode cX6_begin 7 = .ok (.ifCond .eq 6, 3) := by decide +kernel
theorem dX6_begin_10 : decode cX6_begin 10 = .ok (.bipush (-2), 2) := by decide +kernel
theorem dX6_begin_12 : decode cX6_begin 12 = .ok (.ireturn, 1) := by decide +kernel
theorem dX6_begin_13 : decode cX6_begin 13 = .ok (.aload_n 0, 1) := by decide +kernel
theorem dX6_begin_14 : decode cX6_begin 14 = .ok (.new 158, 3) := by decide +kernel
theorem dX6_begin_17 : decode cX6_begin 17 = .ok (.dup, 1) := by decide +kernel
theorem dX6_begin_18 : decode cX6_begin 18 = .ok (.aload_n 0, 1) := by decide +kernel
theorem dX6_begin_19 : decode cX6_begin 19 = .ok (.getfield 37, 3) := by decide +kernel
theorem dX6_begin_22 : decode cX6_begin 22 = .ok (.aload_n 0, 1) := by decide +kernel
theorem dX6_begin_23 : decode cX6_begin 23 = .ok (.getfield 37, 3) := by decide +kernel
theorem dX6_begin_26 : decode cX6_begin 26 = .ok (.iconst 0, 1) := by decide +kernel
theorem dX6_begin_27 : decode cX6_begin 27 = .ok (.invokevirtual 139, 3) := by decide +kernel
theorem dX6_begin_30 : decode cX6_begin 30 = .ok (.checkcast 143, 3) := by decide +kernel
theorem dX6_begin_33 : decode cX6_begin 33 = .ok (.invokespecial 160, 3) := by decide +kernel
theorem dX6_begin_36 : decode cX6_begin 36 = .ok (.putfield 40, 3) := by decide +kernel
theorem dX6_begin_39 : decode cX6_begin 39 = .ok (.aload_n 0, 1) := by decide +kernel
theorem dX6_begin_40 : decode cX6_begin 40 = .ok (.getfield 37, 3) := by decide +kernel
theorem dX6_begin_43 : decode cX6_begin 43 = .ok (.invokevirtual 79, 3) := by decide +kernel
theorem dX6_begin_46 : decode cX6_begin 46 = .ok (.ireturn, 1) := by decide +kernel
theorem dX6_go_0 : decode cX6_go 0 = .ok (.iload_n 1, 1) := by decide +kernel
theorem dX6_go_1 : decode cX6_go 1 = .ok (.iconst 1, 1) := by decide +kernel
theorem dX6_go_2 : decode cX6_go 2 = .ok (.sipush 600, 3) := by decide +kernel
theorem dX6_go_5 : decode cX6_go 5 = .ok (.invokestatic 44, 3) := by decide +kernel
theorem dX6_go_8 : decode cX6_go 8 = .ok (.ifCond .ne 5, 3) := by decide +kernel
theorem dX6_go_11 : decode cX6_go 11 = .ok (.iconst (-1), 1) := by decide +kernel
theorem dX6_go_12 : decode cX6_go 12 = .ok (.ireturn, 1) := by decide +kernel
theorem dX6_go_13 : decode cX6_go 13 = .ok (.aload_n 0, 1) := by decide +kernel
theorem dX6_go_14 : decode cX6_go 14 = .ok (.getfield 40, 3) := by decide +kernel
theorem dX6_go_17 : decode cX6_go 17 = .ok (.ifnull 13, 3) := by decide +kernel
theorem dX6_go_20 : decode cX6_go 20 = .ok (.aload_n 0, 1) := by decide +kernel
theorem dX6_go_21 : decode cX6_go 21 = .ok (.getfield 40, 3) := by decide +kernel
theorem dX6_go_24 : decode cX6_go 24 = .ok (.invokevirtual 163, 3) := by decide +kernel
theorem dX6_go_27 : decode cX6_go 27 = .ok (.ifCond .eq 6, 3) := by decide +kernel
theorem dX6_go_30 : decode cX6_go 30 = .ok (.bipush (-2), 2) := by decide +kernel
theorem dX6_go_32 : decode cX6_go 32 = .ok (.ireturn, 1) := by decide +kernel
theorem dX6_go_33 : decode cX6_go 33 = .ok (.aload_n 0, 1) := by decide +kernel
theorem dX6_go_34 : decode cX6_go 34 = .ok (.getfield 40, 3) := by decide +kernel
theorem dX6_go_37 : decode cX6_go 37 = .ok (.iload_n 1, 1) := by decide +kernel
theorem dX6_go_38 : decode cX6_go 38 = .ok (.invokevirtual 166, 3) := by decide +kernel
theorem dX6_go_41 : decode cX6_go 41 = .ok (.ireturn, 1) := by decide +kernel
theorem dX6_seen_0 : decode cX6_seen 0 = .ok (.aload_n 0, 1) := by decide +kernel
theorem dX6_seen_1 : decode cX6_seen 1 = .ok (.getfield 40, 3) := by decide +kernel
theorem dX6_seen_4 : decode cX6_seen 4 = .ok (.ifnonnull 8, 3) := by decide +kernel
theorem dX6_seen_7 : decode cX6_seen 7 = .ok (.bipush (-2), 2) := by decide +kernel
theorem dX6_seen_9 : decode cX6_seen 9 = .ok (.goto 10, 3) := by decide +kernel
theorem dX6_seen_12 : decode cX6_seen 12 = .ok (.aload_n 0, 1) := by decide +kernel
theorem dX6_seen_13 : decode cX6_seen 13 = .ok (.getfield 40, 3) := by decide +kernel
theorem dX6_seen_16 : decode cX6_seen 16 = .ok (.invokevirtual 169, 3) := by decide +kernel
theorem dX6_seen_19 : decode cX6_seen 19 = .ok (.ireturn, 1) := by decide +kernel
theorem dX6_reel_0 : decode cX6_reel 0 = .ok (.iload_n 1, 1) := by decide +kernel
theorem dX6_reel_1 : decode cX6_reel 1 = .ok (.iconst 0, 1) := by decide +kernel
theorem dX6_reel_2 : decode cX6_reel 2 = .ok (.iconst 1, 1) := by decide +kernel
theorem dX6_reel_3 : decode cX6_reel 3 = .ok (.invokestatic 44, 3) := by decide +kernel
theorem dX6_reel_6 : decode cX6_reel 6 = .ok (.ifCond .ne 5, 3) := by decide +kernel
theorem dX6_reel_9 : decode cX6_reel 9 = .ok (.iconst (-1), 1) := by decide +kernel
theorem dX6_reel_10 : decode cX6_reel 10 = .ok (.ireturn, 1) := by decide +kernel
theorem dX6_reel_11 : decode cX6_reel 11 = .ok (.aload_n 0, 1) := by decide +kernel
theorem dX6_reel_12 : decode cX6_reel 12 = .ok (.getfield 40, 3) := by decide +kernel
theorem dX6_reel_15 : decode cX6_reel 15 = .ok (.ifnonnull 8, 3) := by decide +kernel
theorem dX6_reel_18 : decode cX6_reel 18 = .ok (.bipush (-2), 2) := by decide +kernel
theorem dX6_reel_20 : decode cX6_reel 20 = .ok (.goto 11, 3) := by decide +kernel
theorem dX6_reel_23 : decode cX6_reel 23 = .ok (.aload_n 0, 1) := by decide +kernel
theorem dX6_reel_24 : decode cX6_reel 24 = .ok (.getfield 40, 3) := by decide +kernel
theorem dX6_reel_27 : decode cX6_reel 27 = .ok (.iload_n 1, 1) := by decide +kernel
theorem dX6_reel_28 : decode cX6_reel 28 = .ok (.invokevirtual 172, 3) := by decide +kernel
theorem dX6_reel_31 : decode cX6_reel 31 = .ok (.ireturn, 1) := by decide +kernel
theorem dX6_now_0 : decode cX6_now 0 = .ok (.aload_n 0, 1) := by decide +kernel
theorem dX6_now_1 : decode cX6_now 1 = .ok (.getfield 40, 3) := by decide +kernel
theorem dX6_now_4 : decode cX6_now 4 = .ok (.ifnonnull 7, 3) := by decide +kernel
theorem dX6_now_7 : decode cX6_now 7 = .ok (.iconst (-1), 1) := by decide +kernel
theorem dX6_now_8 : decode cX6_now 8 = .ok (.goto 11, 3) := by decide +kernel
theorem dX6_now_11 : decode cX6_now 11 = .ok (.aload_n 0, 1) := by decide +kernel
theorem dX6_now_12 : decode cX6_now 12 = .ok (.getfield 40, 3) := by decide +kernel
theorem dX6_now_15 : decode cX6_now 15 = .ok (.iload_n 1, 1) := by decide +kernel
theorem dX6_now_16 : decode cX6_now 16 = .ok (.invokevirtual 175, 3) := by decide +kernel
theorem dX6_now_19 : decode cX6_now 19 = .ok (.ireturn, 1) := by decide +kernel
theorem dX6_played_0 : decode cX6_played 0 = .ok (.aload_n 0, 1) := by decide +kernel
theorem dX6_played_1 : decode cX6_played 1 = .ok (.iload_n 1, 1) := by decide +kernel
theorem dX6_played_2 : decode cX6_played 2 = .ok (.invokevirtual 90, 3) := by decide +kernel
theorem dX6_played_5 : decode cX6_played 5 = .ok (.astore_n 2, 1) := by decide +kernel
theorem dX6_played_6 : decode cX6_played 6 = .ok (.aload_n 2, 1) := by decide +kernel
theorem dX6_played_7 : decode cX6_played 7 = .ok (.ifnonnull 7, 3) := by decide +kernel
theorem dX6_played_10 : decode cX6_played 10 = .ok (.iconst (-1), 1) := by decide +kernel
theorem dX6_played_11 : decode cX6_played 11 = .ok (.goto 7, 3) := by decide +kernel
theorem dX6_played_14 : decode cX6_played 14 = .ok (.aload_n 2, 1) := by decide +kernel
theorem dX6_played_15 : decode cX6_played 15 = .ok (.getfield 178, 3) := by decide +kernel
theorem dX6_played_18 : decode cX6_played 18 = .ok (.ireturn, 1) := by decide +kernel
theorem dX6_fees_0 : decode cX6_fees 0 = .ok (.iconst 0, 1) := by decide +kernel
theorem dX6_fees_1 : decode cX6_fees 1 = .ok (.istore_n 1, 1) := by decide +kernel
theorem dX6_fees_2 : decode cX6_fees 2 = .ok (.iconst 0, 1) := by decide +kernel
theorem dX6_fees_3 : decode cX6_fees 3 = .ok (.istore_n 2, 1) := by decide +kernel
theorem dX6_fees_4 : decode cX6_fees 4 = .ok (.iload_n 2, 1) := by decide +kernel
theorem dX6_fees_5 : decode cX6_fees 5 = .ok (.aload_n 0, 1) := by decide +kernel
theorem dX6_fees_6 : decode cX6_fees 6 = .ok (.getfield 19, 3) := by decide +kernel
theorem dX6_fees_9 : decode cX6_fees 9 = .ok (.invokevirtual 79, 3) := by decide +kernel
theorem dX6_fees_12 : decode cX6_fees 12 = .ok (.if_icmp .ge 33, 3) := by decide +kernel
theorem dX6_fees_15 : decode cX6_fees 15 = .ok (.aload_n 0, 1) := by decide +kernel
theorem dX6_fees_16 : decode cX6_fees 16 = .ok (.getfield 19, 3) := by decide +kernel
theorem dX6_fees_19 : decode cX6_fees 19 = .ok (.iload_n 2, 1) := by decide +kernel
theorem dX6_fees_20 : decode cX6_fees 20 = .ok (.invokevirtual 139, 3) := by decide +kernel
theorem dX6_fees_23 : decode cX6_fees 23 = .ok (.checkcast 82, 3) := by decide +kernel
theorem dX6_fees_26 : decode cX6_fees 26 = .ok (.astore_n 3, 1) := by decide +kernel
theorem dX6_fees_27 : decode cX6_fees 27 = .ok (.iload_n 1, 1) := by decide +kernel
theorem dX6_fees_28 : decode cX6_fees 28 = .ok (.aload_n 3, 1) := by decide +kernel
theorem dX6_fees_29 : decode cX6_fees 29 = .ok (.getfield 178, 3) := by decide +kernel
theorem dX6_fees_32 : decode cX6_fees 32 = .ok (.aload_n 3, 1) := by decide +kernel
theorem dX6_fees_33 : decode cX6_fees 33 = .ok (.getfield 181, 3) := by decide +kernel
theorem dX6_fees_36 : decode cX6_fees 36 = .ok (.imul, 1) := by decide +kernel
theorem dX6_fees_37 : decode cX6_fees 37 = .ok (.iadd, 1) := by decide +kernel
theorem dX6_fees_38 : decode cX6_fees 38 = .ok (.istore_n 1, 1) := by decide +kernel
theorem dX6_fees_39 : decode cX6_fees 39 = .ok (.iinc 2 1, 3) := by decide +kernel
theorem dX6_fees_42 : decode cX6_fees 42 = .ok (.goto (-38), 3) := by decide +kernel
theorem dX6_fees_45 : decode cX6_fees 45 = .ok (.iload_n 1, 1) := by decide +kernel
theorem dX6_fees_46 : decode cX6_fees 46 = .ok (.ireturn, 1) := by decide +kernel
theorem dX6_effect_0 : decode cX6_effect 0 = .ok (.iload_n 1, 1) := by decide +kernel
theorem dX6_effect_1 : decode cX6_effect 1 = .ok (.ifCond .lt 23, 3) := by decide +kernel
theorem dX6_effect_4 : decode cX6_effect 4 = .ok (.iload_n 1, 1) := by decide +kernel
theorem dX6_effect_5 : decode cX6_effect 5 = .ok (.iload_n 2, 1) := by decide +kernel
theorem dX6_effect_6 : decode cX6_effect 6 = .ok (.if_icmp .ge 18, 3) := by decide +kernel
theorem dX6_effect_9 : decode cX6_effect 9 = .ok (.iload_n 2, 1) := by decide +kernel
theorem dX6_effect_10 : decode cX6_effect 10 = .ok (.ldc 103, 2) := by decide +kernel
theorem dX6_effect_12 : decode cX6_effect 12 = .ok (.if_icmp .gt 12, 3) := by decide +kernel
theorem dX6_effect_15 : decode cX6_effect 15 = .ok (.iload_n 3, 1) := by decide +kernel
theorem dX6_effect_16 : decode cX6_effect 16 = .ok (.iconst 1, 1) := by decide +kernel
theorem dX6_effect_17 : decode cX6_effect 17 = .ok (.iconst 4, 1) := by decide +kernel
theorem dX6_effect_18 : decode cX6_effect 18 = .ok (.invokestatic 44, 3) := by decide +kernel
theorem dX6_effect_21 : decode cX6_effect 21 = .ok (.ifCond .ne 5, 3) := by decide +kernel
theorem dX6_effect_24 : decode cX6_effect 24 = .ok (.iconst (-1), 1) := by decide +kernel
theorem dX6_effect_25 : decode cX6_effect 25 = .ok (.ireturn, 1) := by decide +kernel
theorem dX6_effect_26 : decode cX6_effect 26 = .ok (.aload_n 0, 1) := by decide +kernel
theorem dX6_effect_27 : decode cX6_effect 27 = .ok (.getfield 33, 3) := by decide +kernel
theorem dX6_effect_30 : decode cX6_effect 30 = .ok (.iload_n 1, 1) := by decide +kernel
theorem dX6_effect_31 : decode cX6_effect 31 = .ok (.iload_n 2, 1) := by decide +kernel
theorem dX6_effect_32 : decode cX6_effect 32 = .ok (.iload_n 3, 1) := by decide +kernel
theorem dX6_effect_33 : decode cX6_effect 33 = .ok (.invokevirtual 184, 3) := by decide +kernel
theorem dX6_effect_36 : decode cX6_effect 36 = .ok (.ireturn, 1) := by decide +kernel
theorem dX6_hands_0 : decode cX6_hands 0 = .ok (.iload_n 1, 1) := by decide +kernel
theorem dX6_hands_1 : decode cX6_hands 1 = .ok (.iconst 0, 1) := by decide +kernel
theorem dX6_hands_2 : decode cX6_hands 2 = .ok (.iconst 4, 1) := by decide +kernel
theorem dX6_hands_3 : decode cX6_hands 3 = .ok (.invokestatic 44, 3) := by decide +kernel
theorem dX6_hands_6 : decode cX6_hands 6 = .ok (.ifCond .eq 14, 3) := by decide +kernel
theorem dX6_hands_9 : decode cX6_hands 9 = .ok (.aload_n 0, 1) := by decide +kernel
theorem dX6_hands_10 : decode cX6_hands 10 = .ok (.getfield 33, 3) := by decide +kernel
theorem dX6_hands_13 : decode cX6_hands 13 = .ok (.iload_n 1, 1) := by decide +kernel
theorem dX6_hands_14 : decode cX6_hands 14 = .ok (.invokevirtual 185, 3) := by decide +kernel
theorem dX6_hands_17 : decode cX6_hands 17 = .ok (.goto 4, 3) := by decide +kernel
theorem dX6_hands_20 : decode cX6_hands 20 = .ok (.iconst (-1), 1) := by decide +kernel
theorem dX6_hands_21 : decode cX6_hands 21 = .ok (.ireturn, 1) := by decide +kernel
theorem dX6_free_0 : decode cX6_free 0 = .ok (.iload_n 1, 1) := by decide +kernel
theorem dX6_free_1 : decode cX6_free 1 = .ok (.iconst 0, 1) := by decide +kernel
theorem dX6_free_2 : decode cX6_free 2 = .ok (.ldc 188, 2) := by decide +kernel
theorem dX6_free_4 : decode cX6_free 4 = .ok (.invokestatic 44, 3) := by decide +kernel
theorem dX6_free_7 : decode cX6_free 7 = .ok (.ifCond .eq 15, 3) := by decide +kernel
theorem dX6_free_10 : decode cX6_free 10 = .ok (.aload_n 0, 1) := by decide +kernel
theorem dX6_free_11 : decode cX6_free 11 = .ok (.getfield 33, 3) := by decide +kernel
theorem dX6_free_14 : decode cX6_free 14 = .ok (.iload_n 1, 1) := by decide +kernel
theorem dX6_free_15 : decode cX6_free 15 = .ok (.iconst 0, 1) := by decide +kernel
theorem dX6_free_16 : decode cX6_free 16 = .ok (.invokevirtual 189, 3) := by decide +kernel
theorem dX6_free_19 : decode cX6_free 19 = .ok (.goto 5, 3) := by decide +kernel
theorem dX6_free_22 : decode cX6_free 22 = .ok (.bipush (-99), 2) := by decide +kernel
theorem dX6_free_24 : decode cX6_free 24 = .ok (.ireturn, 1) := by decide +kernel
theorem dX6_clash_0 : decode cX6_clash 0 = .ok (.aload_n 0, 1) := by decide +kernel
theorem dX6_clash_1 : decode cX6_clash 1 = .ok (.getfield 33, 3) := by decide +kernel
theorem dX6_clash_4 : decode cX6_clash 4 = .ok (.invokevirtual 192, 3) := by decide +kernel
theorem dX6_clash_7 : decode cX6_clash 7 = .ok (.ireturn, 1) := by decide +kernel
theorem dX6_left_0 : decode cX6_left 0 = .ok (.aload_n 0, 1) := by decide +kernel
theorem dX6_left_1 : decode cX6_left 1 = .ok (.getfield 33, 3) := by decide +kernel
theorem dX6_left_4 : decode cX6_left 4 = .ok (.invokevirtual 195, 3) := by decide +kernel
theorem dX6_left_7 : decode cX6_left 7 = .ok (.ireturn, 1) := by decide +kernel
theorem dX6_count_0 : decode cX6_count 0 = .ok (.iload_n 1, 1) := by decide +kernel
theorem dX6_count_1 : decode cX6_count 1 = .ok (.tableswitch 91 0 5 #[39, 47, 65, 73, 78, 86], 39) := by decide +kernel
theorem dX6_count_40 : decode cX6_count 40 = .ok (.aload_n 0, 1) := by decide +kernel
theorem dX6_count_41 : decode cX6_count 41 = .ok (.getfield 12, 3) := by decide +kernel
theorem dX6_count_44 : decode cX6_count 44 = .ok (.invokevirtual 52, 3) := by decide +kernel
theorem dX6_count_47 : decode cX6_count 47 = .ok (.ireturn, 1) := by decide +kernel
theorem dX6_count_48 : decode cX6_count 48 = .ok (.aload_n 0, 1) := by decide +kernel
theorem dX6_count_49 : decode cX6_count 49 = .ok (.getfield 12, 3) := by decide +kernel
theorem dX6_count_52 : decode cX6_count 52 = .ok (.iconst 0, 1) := by decide +kernel
theorem dX6_count_53 : decode cX6_count 53 = .ok (.aload_n 0, 1) := by decide +kernel
theorem dX6_count_54 : decode cX6_count 54 = .ok (.getfield 12, 3) := by decide +kernel
theorem dX6_count_57 : decode cX6_count 57 = .ok (.invokevirtual 52, 3) := by decide +kernel
theorem dX6_count_60 : decode cX6_count 60 = .ok (.iconst 1, 1) := by decide +kernel
theorem dX6_count_61 : decode cX6_count 61 = .ok (.isub, 1) := by decide +kernel
theorem dX6_count_62 : decode cX6_count 62 = .ok (.invokevirtual 69, 3) := by decide +kernel
theorem dX6_count_65 : decode cX6_count 65 = .ok (.ireturn, 1) := by decide +kernel
theorem dX6_count_66 : decode cX6_count 66 = .ok (.aload_n 0, 1) := by decide +kernel
theorem dX6_count_67 : decode cX6_count 67 = .ok (.getfield 19, 3) := by decide +kernel
theorem dX6_count_70 : decode cX6_count 70 = .ok (.invokevirtual 79, 3) := by decide +kernel
theorem dX6_count_73 : decode cX6_count 73 = .ok (.ireturn, 1) := by decide +kernel
theorem dX6_count_74 : decode cX6_count 74 = .ok (.aload_n 0, 1) := by decide +kernel
theorem dX6_count_75 : decode cX6_count 75 = .ok (.invokevirtual 198, 3) := by decide +kernel
theorem dX6_count_78 : decode cX6_count 78 = .ok (.ireturn, 1) := by decide +kernel
theorem dX6_count_79 : decode cX6_count 79 = .ok (.aload_n 0, 1) := by decide +kernel
theorem dX6_count_80 : decode cX6_count 80 = .ok (.getfield 33, 3) := by decide +kernel
theorem dX6_count_83 : decode cX6_count 83 = .ok (.invokevirtual 201, 3) := by decide +kernel
theorem dX6_count_86 : decode cX6_count 86 = .ok (.ireturn, 1) := by decide +kernel
theorem dX6_count_87 : decode cX6_count 87 = .ok (.aload_n 0, 1) := by decide +kernel
theorem dX6_count_88 : decode cX6_count 88 = .ok (.invokevirtual 204, 3) := by decide +kernel
theorem dX6_count_91 : decode cX6_count 91 = .ok (.ireturn, 1) := by decide +kernel
theorem dX6_count_92 : decode cX6_count 92 = .ok (.iconst (-1), 1) := by decide +kernel
theorem dX6_count_93 : decode cX6_count 93 = .ok (.ireturn, 1) := by decide +kernel
theorem dX6_allBlocks_0 : decode cX6_allBlocks 0 = .ok (.iconst 0, 1) := by decide +kernel
theorem dX6_allBlocks_1 : decode cX6_allBlocks 1 = .ok (.istore_n 1, 1) := by decide +kernel
theorem dX6_allBlocks_2 : decode cX6_allBlocks 2 = .ok (.iconst 0, 1) := by decide +kernel
theorem dX6_allBlocks_3 : decode cX6_allBlocks 3 = .ok (.istore_n 2, 1) := by decide +kernel
theorem dX6_allBlocks_4 : decode cX6_allBlocks 4 = .ok (.iload_n 2, 1) := by decide +kernel
theorem dX6_allBlocks_5 : decode cX6_allBlocks 5 = .ok (.aload_n 0, 1) := by decide +kernel
theorem dX6_allBlocks_6 : decode cX6_allBlocks 6 = .ok (.getfield 19, 3) := by decide +kernel
theorem dX6_allBlocks_9 : decode cX6_allBlocks 9 = .ok (.invokevirtual 79, 3) := by decide +kernel
theorem dX6_allBlocks_12 : decode cX6_allBlocks 12 = .ok (.if_icmp .ge 26, 3) := by decide +kernel
theorem dX6_allBlocks_15 : decode cX6_allBlocks 15 = .ok (.iload_n 1, 1) := by decide +kernel
theorem dX6_allBlocks_16 : decode cX6_allBlocks 16 = .ok (.aload_n 0, 1) := by decide +kernel
theorem dX6_allBlocks_17 : decode cX6_allBlocks 17 = .ok (.getfield 19, 3) := by decide +kernel
theorem dX6_allBlocks_20 : decode cX6_allBlocks 20 = .ok (.iload_n 2, 1) := by decide +kernel
theorem dX6_allBlocks_21 : decode cX6_allBlocks 21 = .ok (.invokevirtual 139, 3) := by decide +kernel
theorem dX6_allBlocks_24 : decode cX6_allBlocks 24 = .ok (.checkcast 82, 3) := by decide +kernel
theorem dX6_allBlocks_27 : decode cX6_allBlocks 27 = .ok (.getfield 207, 3) := by decide +kernel
theorem dX6_allBlocks_30 : decode cX6_allBlocks 30 = .ok (.iadd, 1) := by decide +kernel
theorem dX6_allBlocks_31 : decode cX6_allBlocks 31 = .ok (.istore_n 1, 1) := by decide +kernel
theorem dX6_allBlocks_32 : decode cX6_allBlocks 32 = .ok (.iinc 2 1, 3) := by decide +kernel
theorem dX6_allBlocks_35 : decode cX6_allBlocks 35 = .ok (.goto (-31), 3) := by decide +kernel
theorem dX6_allBlocks_38 : decode cX6_allBlocks 38 = .ok (.iload_n 1, 1) := by decide +kernel
theorem dX6_allBlocks_39 : decode cX6_allBlocks 39 = .ok (.ireturn, 1) := by decide +kernel
theorem dX6_allPlays_0 : decode cX6_allPlays 0 = .ok (.iconst 0, 1) := by decide +kernel
theorem dX6_allPlays_1 : decode cX6_allPlays 1 = .ok (.istore_n 1, 1) := by decide +kernel
theorem dX6_allPlays_2 : decode cX6_allPlays 2 = .ok (.iconst 0, 1) := by decide +kernel
theorem dX6_allPlays_3 : decode cX6_allPlays 3 = .ok (.istore_n 2, 1) := by decide +kernel
theorem dX6_allPlays_4 : decode cX6_allPlays 4 = .ok (.iload_n 2, 1) := by decide +kernel
theorem dX6_allPlays_5 : decode cX6_allPlays 5 = .ok (.aload_n 0, 1) := by decide +kernel
theorem dX6_allPlays_6 : decode cX6_allPlays 6 = .ok (.getfield 19, 3) := by decide +kernel
theorem dX6_allPlays_9 : decode cX6_allPlays 9 = .ok (.invokevirtual 79, 3) := by decide +kernel
theorem dX6_allPlays_12 : decode cX6_allPlays 12 = .ok (.if_icmp .ge 26, 3) := by decide +kernel
theorem dX6_allPlays_15 : decode cX6_allPlays 15 = .ok (.iload_n 1, 1) := by decide +kernel
theorem dX6_allPlays_16 : decode cX6_allPlays 16 = .ok (.aload_n 0, 1) := by decide +kernel
theorem dX6_allPlays_17 : decode cX6_allPlays 17 = .ok (.getfield 19, 3) := by decide +kernel
theorem dX6_allPlays_20 : decode cX6_allPlays 20 = .ok (.iload_n 2, 1) := by decide +kernel
theorem dX6_allPlays_21 : decode cX6_allPlays 21 = .ok (.invokevirtual 139, 3) := by decide +kernel
theorem dX6_allPlays_24 : decode cX6_allPlays 24 = .ok (.checkcast 82, 3) := by decide +kernel
theorem dX6_allPlays_27 : decode cX6_allPlays 27 = .ok (.getfield 178, 3) := by decide +kernel
theorem dX6_allPlays_30 : decode cX6_allPlays 30 = .ok (.iadd, 1) := by decide +kernel
theorem dX6_allPlays_31 : decode cX6_allPlays 31 = .ok (.istore_n 1, 1) := by decide +kernel
theorem dX6_allPlays_32 : decode cX6_allPlays 32 = .ok (.iinc 2 1, 3) := by decide +kernel
theorem dX6_allPlays_35 : decode cX6_allPlays 35 = .ok (.goto (-31), 3) := by decide +kernel
theorem dX6_allPlays_38 : decode cX6_allPlays 38 = .ok (.iload_n 1, 1) := by decide +kernel
theorem dX6_allPlays_39 : decode cX6_allPlays 39 = .ok (.ireturn, 1) := by decide +kernel
theorem dX6_pieceAt_0 : decode cX6_pieceAt 0 = .ok (.iload_n 1, 1) := by decide +kernel
theorem dX6_pieceAt_1 : decode cX6_pieceAt 1 = .ok (.iconst 0, 1) := by decide +kernel
theorem dX6_pieceAt_2 : decode cX6_pieceAt 2 = .ok (.aload_n 0, 1) := by decide +kernel
theorem dX6_pieceAt_3 : decode cX6_pieceAt 3 = .ok (.getfield 19, 3) := by decide +kernel
theorem dX6_pieceAt_6 : decode cX6_pieceAt 6 = .ok (.invokevirtual 79, 3) := by decide +kernel
theorem dX6_pieceAt_9 : decode cX6_pieceAt 9 = .ok (.iconst 1, 1) := by decide +kernel
theorem dX6_pieceAt_10 : decode cX6_pieceAt 10 = .ok (.isub, 1) := by decide +kernel
theorem dX6_pieceAt_11 : decode cX6_pieceAt 11 = .ok (.invokestatic 44, 3) := by decide +kernel
theorem dX6_pieceAt_14 : decode cX6_pieceAt 14 = .ok (.ifCond .eq 17, 3) := by decide +kernel
theorem dX6_pieceAt_17 : decode cX6_pieceAt 17 = .ok (.aload_n 0, 1) := by decide +kernel
theorem dX6_pieceAt_18 : decode cX6_pieceAt 18 = .ok (.getfield 19, 3) := by decide +kernel
theorem dX6_pieceAt_21 : decode cX6_pieceAt 21 = .ok (.iload_n 1, 1) := by decide +kernel
theorem dX6_pieceAt_22 : decode cX6_pieceAt 22 = .ok (.invokevirtual 139, 3) := by decide +kernel
theorem dX6_pieceAt_25 : decode cX6_pieceAt 25 = .ok (.checkcast 82, 3) := by decide +kernel
theorem dX6_pieceAt_28 : decode cX6_pieceAt 28 = .ok (.goto 4, 3) := by decide +kernel
theorem dX6_pieceAt_31 : decode cX6_pieceAt 31 = .ok (.aconst_null, 1) := by decide +kernel
theorem dX6_pieceAt_32 : decode cX6_pieceAt 32 = .ok (.areturn, 1) := by decide +kernel
theorem dX6_within_0 : decode cX6_within 0 = .ok (.iload_n 0, 1) := by decide +kernel
theorem dX6_within_1 : decode cX6_within 1 = .ok (.iload_n 1, 1) := by decide +kernel
theorem dX6_within_2 : decode cX6_within 2 = .ok (.if_icmp .lt 12, 3) := by decide +kernel
theorem dX6_within_5 : decode cX6_within 5 = .ok (.iload_n 0, 1) := by decide +kernel
theorem dX6_within_6 : decode cX6_within 6 = .ok (.iload_n 2, 1) := by decide +kernel
theorem dX6_within_7 : decode cX6_within 7 = .ok (.if_icmp .gt 7, 3) := by decide +kernel
theorem dX6_within_10 : decode cX6_within 10 = .ok (.iconst 1, 1) := by decide +kernel
theorem dX6_within_11 : decode cX6_within 11 = .ok (.goto 4, 3) := by decide +kernel
theorem dX6_within_14 : decode cX6_within 14 = .ok (.iconst 0, 1) := by decide +kernel
theorem dX6_within_15 : decode cX6_within 15 = .ok (.ireturn, 1) := by decide +kernel
theorem dX6_fifthsBetween_0 : decode cX6_fifthsBetween 0 = .ok (.bipush 7, 2) := by decide +kernel
theorem dX6_fifthsBetween_2 : decode cX6_fifthsBetween 2 = .ok (.iload_n 1, 1) := by decide +kernel
theorem dX6_fifthsBetween_3 : decode cX6_fifthsBetween 3 = .ok (.iload_n 0, 1) := by decide +kernel
theorem dX6_fifthsBetween_4 : decode cX6_fifthsBetween 4 = .ok (.isub, 1) := by decide +kernel
theorem dX6_fifthsBetween_5 : decode cX6_fifthsBetween 5 = .ok (.imul, 1) := by decide +kernel
theorem dX6_fifthsBetween_6 : decode cX6_fifthsBetween 6 = .ok (.bipush 12, 2) := by decide +kernel
theorem dX6_fifthsBetween_8 : decode cX6_fifthsBetween 8 = .ok (.invokestatic 210, 3) := by decide +kernel
theorem dX6_fifthsBetween_11 : decode cX6_fifthsBetween 11 = .ok (.istore_n 2, 1) := by decide +kernel
theorem dX6_fifthsBetween_12 : decode cX6_fifthsBetween 12 = .ok (.iload_n 2, 1) := by decide +kernel
theorem dX6_fifthsBetween_13 : decode cX6_fifthsBetween 13 = .ok (.bipush 12, 2) := by decide +kernel
theorem dX6_fifthsBetween_15 : decode cX6_fifthsBetween 15 = .ok (.iload_n 2, 1) := by decide +kernel
theorem dX6_fifthsBetween_16 : decode cX6_fifthsBetween 16 = .ok (.isub, 1) := by decide +kernel
theorem dX6_fifthsBetween_17 : decode cX6_fifthsBetween 17 = .ok (.invokestatic 215, 3) := by decide +kernel
theorem dX6_fifthsBetween_20 : decode cX6_fifthsBetween 20 = .ok (.ireturn, 1) := by decide +kernel
