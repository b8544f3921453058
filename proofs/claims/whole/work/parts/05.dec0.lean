theorem dX0_init_0 : decode cX0_init 0 = .ok (.aload_n 0, 1) := by decide +kernel
theorem dX0_init_1 : decode cX0_init 1 = .ok (.invokespecial 3, 3) := by decide +kernel
theorem dX0_init_4 : decode cX0_init 4 = .ok (.aload_n 0, 1) := by decide +kernel
theorem dX0_init_5 : decode cX0_init 5 = .ok (.bipush 24, 2) := by decide +kernel
theorem dX0_init_7 : decode cX0_init 7 = .ok (.newarray .int, 2) := by decide +kernel
theorem dX0_init_9 : decode cX0_init 9 = .ok (.putfield 9, 3) := by decide +kernel
theorem dX0_init_12 : decode cX0_init 12 = .ok (.aload_n 0, 1) := by decide +kernel
theorem dX0_init_13 : decode cX0_init 13 = .ok (.bipush 24, 2) := by decide +kernel
theorem dX0_init_15 : decode cX0_init 15 = .ok (.newarray .int, 2) := by decide +kernel
theorem dX0_init_17 : decode cX0_init 17 = .ok (.putfield 15, 3) := by decide +kernel
theorem dX0_init_20 : decode cX0_init 20 = .ok (.aload_n 0, 1) := by decide +kernel
theorem dX0_init_21 : decode cX0_init 21 = .ok (.bipush 24, 2) := by decide +kernel
theorem dX0_init_23 : decode cX0_init 23 = .ok (.newarray .int, 2) := by decide +kernel
theorem dX0_init_25 : decode cX0_init 25 = .ok (.putfield 18, 3) := by decide +kernel
theorem dX0_init_28 : decode cX0_init 28 = .ok (.aload_n 0, 1) := by decide +kernel
theorem dX0_init_29 : decode cX0_init 29 = .ok (.bipush 25, 2) := by decide +kernel
theorem dX0_init_31 : decode cX0_init 31 = .ok (.iconst 5, 1) := by decide +kernel
theorem dX0_init_32 : decode cX0_init 32 = .ok (.multianewarray 21 2, 4) := by decide +kernel
theorem dX0_init_36 : decode cX0_init 36 = .ok (.putfield 23, 3) := by decide +kernel
theorem dX0_init_39 : decode cX0_init 39 = .ok (.aload_n 0, 1) := by decide +kernel
theorem dX0_init_40 : decode cX0_init 40 = .ok (.iconst 5, 1) := by decide +kernel
theorem dX0_init_41 : decode cX0_init 41 = .ok (.newarray .int, 2) := by decide +kernel
theorem dX0_init_43 : decode cX0_init 43 = .ok (.putfield 26, 3) := by decide +kernel
theorem dX0_init_46 : decode cX0_init 46 = .ok (.return_, 1) := by decide +kernel
theorem dX0_findBest_0 : decode cX0_findBest 0 = .ok (.aload_n 0, 1) := by decide +kernel
theorem dX0_findBest_1 : decode cX0_findBest 1 = .ok (.aload_n 1, 1) := by decide +kernel
theorem dX0_findBest_2 : decode cX0_findBest 2 = .ok (.iload_n 2, 1) := by decide +kernel
theorem dX0_findBest_3 : decode cX0_findBest 3 = .ok (.invokevirtual 29, 3) := by decide +kernel
theorem dX0_findBest_6 : decode cX0_findBest 6 = .ok (.aload_n 0, 1) := by decide +kernel
theorem dX0_findBest_7 : decode cX0_findBest 7 = .ok (.iconst (-1), 1) := by decide +kernel
theorem dX0_findBest_8 : decode cX0_findBest 8 = .ok (.putfield 33, 3) := by decide +kernel
theorem dX0_findBest_11 : decode cX0_findBest 11 = .ok (.aload_n 0, 1) := by decide +kernel
theorem dX0_findBest_12 : decode cX0_findBest 12 = .ok (.aload_n 0, 1) := by decide +kernel
theorem dX0_findBest_13 : decode cX0_findBest 13 = .ok (.getfield 23, 3) := by decide +kernel
theorem dX0_findBest_16 : decode cX0_findBest 16 = .ok (.aload_n 0, 1) := by decide +kernel
theorem dX0_findBest_17 : decode cX0_findBest 17 = .ok (.getfield 37, 3) := by decide +kernel
theorem dX0_findBest_20 : decode cX0_findBest 20 = .ok (.aaload, 1) := by decide +kernel
theorem dX0_findBest_21 : decode cX0_findBest 21 = .ok (.aload_n 1, 1) := by decide +kernel
theorem dX0_findBest_22 : decode cX0_findBest 22 = .ok (.getfield 40, 3) := by decide +kernel
theorem dX0_findBest_25 : decode cX0_findBest 25 = .ok (.invokestatic 45, 3) := by decide +kernel
theorem dX0_findBest_28 : decode cX0_findBest 28 = .ok (.putfield 49, 3) := by decide +kernel
theorem dX0_findBest_31 : decode cX0_findBest 31 = .ok (.iconst 0, 1) := by decide +kernel
theorem dX0_findBest_32 : decode cX0_findBest 32 = .ok (.istore_n 3, 1) := by decide +kernel
theorem dX0_findBest_33 : decode cX0_findBest 33 = .ok (.iload_n 3, 1) := by decide +kernel
theorem dX0_findBest_34 : decode cX0_findBest 34 = .ok (.iconst 3, 1) := by decide +kernel
theorem dX0_findBest_35 : decode cX0_findBest 35 = .ok (.aload_n 1, 1) := by decide +kernel
theorem dX0_findBest_36 : decode cX0_findBest 36 = .ok (.getfield 40, 3) := by decide +kernel
theorem dX0_findBest_39 : decode cX0_findBest 39 = .ok (.imul, 1) := by decide +kernel
theorem dX0_findBest_40 : decode cX0_findBest 40 = .ok (.if_icmp .ge 35, 3) := by decide +kernel
theorem dX0_findBest_43 : decode cX0_findBest 43 = .ok (.aload_n 1, 1) := by decide +kernel
theorem dX0_findBest_44 : decode cX0_findBest 44 = .ok (.iload_n 3, 1) := by decide +kernel
theorem dX0_findBest_45 : decode cX0_findBest 45 = .ok (.aload_n 1, 1) := by decide +kernel
theorem dX0_findBest_46 : decode cX0_findBest 46 = .ok (.getfield 52, 3) := by decide +kernel
theorem dX0_findBest_49 : decode cX0_findBest 49 = .ok (.aload_n 1, 1) := by decide +kernel
theorem dX0_findBest_50 : decode cX0_findBest 50 = .ok (.getfield 55, 3) := by decide +kernel
theorem dX0_findBest_53 : decode cX0_findBest 53 = .ok (.iload_n 3, 1) := by decide +kernel
theorem dX0_findBest_54 : decode cX0_findBest 54 = .ok (.iconst 3, 1) := by decide +kernel
theorem dX0_findBest_55 : decode cX0_findBest 55 = .ok (.idiv, 1) := by decide +kernel
theorem dX0_findBest_56 : decode cX0_findBest 56 = .ok (.iaload, 1) := by decide +kernel
theorem dX0_findBest_57 : decode cX0_findBest 57 = .ok (.invokevirtual 58, 3) := by decide +kernel
theorem dX0_findBest_60 : decode cX0_findBest 60 = .ok (.ifCond .eq 9, 3) := by decide +kernel
theorem dX0_findBest_63 : decode cX0_findBest 63 = .ok (.aload_n 0, 1) := by decide +kernel
theorem dX0_findBest_64 : decode cX0_findBest 64 = .ok (.aload_n 1, 1) := by decide +kernel
theorem dX0_findBest_65 : decode cX0_findBest 65 = .ok (.iload_n 3, 1) := by decide +kernel
theorem dX0_findBest_66 : decode cX0_findBest 66 = .ok (.invokevirtual 62, 3) := by decide +kernel
theorem dX0_findBest_69 : decode cX0_findBest 69 = .ok (.iinc 3 1, 3) := by decide +kernel
theorem dX0_findBest_72 : decode cX0_findBest 72 = .ok (.goto (-39), 3) := by decide +kernel
theorem dX0_findBest_75 : decode cX0_findBest 75 = .ok (.return_, 1) := by decide +kernel
theorem dX0_weigh_0 : decode cX0_weigh 0 = .ok (.aload_n 0, 1) := by decide +kernel
theorem dX0_weigh_1 : decode cX0_weigh 1 = .ok (.aload_n 1, 1) := by decide +kernel
theorem dX0_weigh_2 : decode cX0_weigh 2 = .ok (.iload_n 2, 1) := by decide +kernel
theorem dX0_weigh_3 : decode cX0_weigh 3 = .ok (.invokevirtual 65, 3) := by decide +kernel
theorem dX0_weigh_6 : decode cX0_weigh 6 = .ok (.aload_n 0, 1) := by decide +kernel
theorem dX0_weigh_7 : decode cX0_weigh 7 = .ok (.aload_n 1, 1) := by decide +kernel
theorem dX0_weigh_8 : decode cX0_weigh 8 = .ok (.iload_n 2, 1) := by decide +kernel
theorem dX0_weigh_9 : decode cX0_weigh 9 = .ok (.iconst 0, 1) := by decide +kernel
theorem dX0_weigh_10 : decode cX0_weigh 10 = .ok (.invokevirtual 68, 3) := by decide +kernel
theorem dX0_weigh_13 : decode cX0_weigh 13 = .ok (.aload_n 0, 1) := by decide +kernel
theorem dX0_weigh_14 : decode cX0_weigh 14 = .ok (.getfield 26, 3) := by decide +kernel
theorem dX0_weigh_17 : decode cX0_weigh 17 = .ok (.aload_n 1, 1) := by decide +kernel
theorem dX0_weigh_18 : decode cX0_weigh 18 = .ok (.getfield 40, 3) := by decide +kernel
theorem dX0_weigh_21 : decode cX0_weigh 21 = .ok (.invokestatic 45, 3) := by decide +kernel
theorem dX0_weigh_24 : decode cX0_weigh 24 = .ok (.istore_n 3, 1) := by decide +kernel
theorem dX0_weigh_25 : decode cX0_weigh 25 = .ok (.iload_n 3, 1) := by decide +kernel
theorem dX0_weigh_26 : decode cX0_weigh 26 = .ok (.aload_n 0, 1) := by decide +kernel
theorem dX0_weigh_27 : decode cX0_weigh 27 = .ok (.getfield 49, 3) := by decide +kernel
theorem dX0_weigh_30 : decode cX0_weigh 30 = .ok (.if_icmp .le 13, 3) := by decide +kernel
theorem dX0_weigh_33 : decode cX0_weigh 33 = .ok (.aload_n 0, 1) := by decide +kernel
theorem dX0_weigh_34 : decode cX0_weigh 34 = .ok (.iload_n 3, 1) := by decide +kernel
theorem dX0_weigh_35 : decode cX0_weigh 35 = .ok (.putfield 49, 3) := by decide +kernel
theorem dX0_weigh_38 : decode cX0_weigh 38 = .ok (.aload_n 0, 1) := by decide +kernel
theorem dX0_weigh_39 : decode cX0_weigh 39 = .ok (.iload_n 2, 1) := by decide +kernel
theorem dX0_weigh_40 : decode cX0_weigh 40 = .ok (.putfield 33, 3) := by decide +kernel
theorem dX0_weigh_43 : decode cX0_weigh 43 = .ok (.return_, 1) := by decide +kernel
theorem dX0_findWho_0 : decode cX0_findWho 0 = .ok (.aload_n 0, 1) := by decide +kernel
theorem dX0_findWho_1 : decode cX0_findWho 1 = .ok (.aload_n 1, 1) := by decide +kernel
theorem dX0_findWho_2 : decode cX0_findWho 2 = .ok (.iload_n 3, 1) := by decide +kernel
theorem dX0_findWho_3 : decode cX0_findWho 3 = .ok (.invokevirtual 29, 3) := by decide +kernel
theorem dX0_findWho_6 : decode cX0_findWho 6 = .ok (.aload_n 0, 1) := by decide +kernel
theorem dX0_findWho_7 : decode cX0_findWho 7 = .ok (.iconst 0, 1) := by decide +kernel
theorem dX0_findWho_8 : decode cX0_findWho 8 = .ok (.putfield 72, 3) := by decide +kernel
theorem dX0_findWho_11 : decode cX0_findWho 11 = .ok (.aload_n 0, 1) := by decide +kernel
theorem dX0_findWho_12 : decode cX0_findWho 12 = .ok (.iconst (-1), 1) := by decide +kernel
theorem dX0_findWho_13 : decode cX0_findWho 13 = .ok (.putfield 75, 3) := by decide +kernel
theorem dX0_findWho_16 : decode cX0_findWho 16 = .ok (.aload_n 0, 1) := by decide +kernel
theorem dX0_findWho_17 : decode cX0_findWho 17 = .ok (.aload_n 0, 1) := by decide +kernel
theorem dX0_findWho_18 : decode cX0_findWho 18 = .ok (.getfield 23, 3) := by decide +kernel
theorem dX0_findWho_21 : decode cX0_findWho 21 = .ok (.aload_n 0, 1) := by decide +kernel
theorem dX0_findWho_22 : decode cX0_findWho 22 = .ok (.getfield 37, 3) := by decide +kernel
theorem dX0_findWho_25 : decode cX0_findWho 25 = .ok (.aaload, 1) := by decide +kernel
theorem dX0_findWho_26 : decode cX0_findWho 26 = .ok (.aload_n 2, 1) := by decide +kernel
theorem dX0_findWho_27 : decode cX0_findWho 27 = .ok (.aload_n 1, 1) := by decide +kernel
theorem dX0_findWho_28 : decode cX0_findWho 28 = .ok (.getfield 40, 3) := by decide +kernel
theorem dX0_findWho_31 : decode cX0_findWho 31 = .ok (.invokestatic 78, 3) := by decide +kernel
theorem dX0_findWho_34 : decode cX0_findWho 34 = .ok (.ifCond .eq 7, 3) := by decide +kernel
theorem dX0_findWho_37 : decode cX0_findWho 37 = .ok (.iconst 1, 1) := by decide +kernel
theorem dX0_findWho_38 : decode cX0_findWho 38 = .ok (.goto 4, 3) := by decide +kernel
theorem dX0_findWho_41 : decode cX0_findWho 41 = .ok (.iconst 0, 1) := by decide +kernel
theorem dX0_findWho_42 : decode cX0_findWho 42 = .ok (.putfield 82, 3) := by decide +kernel
theorem dX0_findWho_45 : decode cX0_findWho 45 = .ok (.iconst 0, 1) := by decide +kernel
theorem dX0_findWho_46 : decode cX0_findWho 46 = .ok (.istore 4, 2) := by decide +kernel
theorem dX0_findWho_48 : decode cX0_findWho 48 = .ok (.iload 4, 2) := by decide +kernel
theorem dX0_findWho_50 : decode cX0_findWho 50 = .ok (.iconst 3, 1) := by decide +kernel
theorem dX0_findWho_51 : decode cX0_findWho 51 = .ok (.aload_n 1, 1) := by decide +kernel
theorem dX0_findWho_52 : decode cX0_findWho 52 = .ok (.getfield 40, 3) := by decide +kernel
theorem dX0_findWho_55 : decode cX0_findWho 55 = .ok (.imul, 1) := by decide +kernel
theorem dX0_findWho_56 : decode cX0_findWho 56 = .ok (.if_icmp .ge 80, 3) := by decide +kernel
theorem dX0_findWho_59 : decode cX0_findWho 59 = .ok (.aload_n 1, 1) := by decide +kernel
theorem dX0_findWho_60 : decode cX0_findWho 60 = .ok (.getfield 85, 3) := by decide +kernel
theorem dX0_findWho_63 : decode cX0_findWho 63 = .ok (.iload 4, 2) := by decide +kernel
theorem dX0_findWho_65 : decode cX0_findWho 65 = .ok (.iaload, 1) := by decide +kernel
theorem dX0_findWho_66 : decode cX0_findWho 66 = .ok (.iconst (-1), 1) := by decide +kernel
theorem dX0_findWho_67 : decode cX0_findWho 67 = .ok (.if_icmp .ne 14, 3) := by decide +kernel
theorem dX0_findWho_70 : decode cX0_findWho 70 = .ok (.aload_n 0, 1) := by decide +kernel
theorem dX0_findWho_71 : decode cX0_findWho 71 = .ok (.aload_n 1, 1) := by decide +kernel
theorem dX0_findWho_72 : decode cX0_findWho 72 = .ok (.iload 4, 2) := by decide +kernel
theorem dX0_findWho_74 : decode cX0_findWho 74 = .ok (.aload_n 2, 1) := by decide +kernel
theorem dX0_findWho_75 : decode cX0_findWho 75 = .ok (.invokevirtual 88, 3) := by decide +kernel
theorem dX0_findWho_78 : decode cX0_findWho 78 = .ok (.goto 4, 3) := by decide +kernel
theorem dX0_findWho_81 : decode cX0_findWho 81 = .ok (.iconst 0, 1) := by decide +kernel
theorem dX0_findWho_82 : decode cX0_findWho 82 = .ok (.istore 5, 2) := by decide +kernel
theorem dX0_findWho_84 : decode cX0_findWho 84 = .ok (.iload 5, 2) := by decide +kernel
theorem dX0_findWho_86 : decode cX0_findWho 86 = .ok (.ifCond .le 33, 3) := by decide +kernel
theorem dX0_findWho_89 : decode cX0_findWho 89 = .ok (.aload_n 0, 1) := by decide +kernel
theorem dX0_findWho_90 : decode cX0_findWho 90 = .ok (.aload_n 0, 1) := by decide +kernel
theorem dX0_findWho_91 : decode cX0_findWho 91 = .ok (.getfield 72, 3) := by decide +kernel
theorem dX0_findWho_94 : decode cX0_findWho 94 = .ok (.ifCond .ne 8, 3) := by decide +kernel
theorem dX0_findWho_97 : decode cX0_findWho 97 = .ok (.iload 4, 2) := by decide +kernel
theorem dX0_findWho_99 : decode cX0_findWho 99 = .ok (.goto 7, 3) := by decide +kernel
theorem dX0_findWho_102 : decode cX0_findWho 102 = .ok (.aload_n 0, 1) := by decide +kernel
theorem dX0_findWho_103 : decode cX0_findWho 103 = .ok (.getfield 75, 3) := by decide +kernel
theorem dX0_findWho_106 : decode cX0_findWho 106 = .ok (.putfield 75, 3) := by decide +kernel
theorem dX0_findWho_109 : decode cX0_findWho 109 = .ok (.aload_n 0, 1) := by decide +kernel
theorem dX0_findWho_110 : decode cX0_findWho 110 = .ok (.dup, 1) := by decide +kernel
theorem dX0_findWho_111 : decode cX0_findWho 111 = .ok (.getfield 72, 3) := by decide +kernel
theorem dX0_findWho_114 : decode cX0_findWho 114 = .ok (.iconst 1, 1) := by decide +kernel
theorem dX0_findWho_115 : decode cX0_findWho 115 = .ok (.iadd, 1) := by decide +kernel
theorem dX0_findWho_116 : decode cX0_findWho 116 = .ok (.putfield 72, 3) := by decide +kernel
theorem dX0_findWho_119 : decode cX0_findWho 119 = .ok (.aload_n 0, 1) := by decide +kernel
theorem dX0_findWho_120 : decode cX0_findWho 120 = .ok (.dup, 1) := by decide +kernel
theorem dX0_findWho_121 : decode cX0_findWho 121 = .ok (.getfield 82, 3) := by decide +kernel
theorem dX0_findWho_124 : decode cX0_findWho 124 = .ok (.iload 5, 2) := by decide +kernel
theorem dX0_findWho_126 : decode cX0_findWho 126 = .ok (.iadd, 1) := by decide +kernel
theorem dX0_findWho_127 : decode cX0_findWho 127 = .ok (.putfield 82, 3) := by decide +kernel
theorem dX0_findWho_130 : decode cX0_findWho 130 = .ok (.iinc 4 1, 3) := by decide +kernel
theorem dX0_findWho_133 : decode cX0_findWho 133 = .ok (.goto (-85), 3) := by decide +kernel
theorem dX0_findWho_136 : decode cX0_findWho 136 = .ok (.return_, 1) := by decide +kernel
theorem dX0_rowsOf_0 : decode cX0_rowsOf 0 = .ok (.aload_n 0, 1) := by decide +kernel
theorem dX0_rowsOf_1 : decode cX0_rowsOf 1 = .ok (.aload_n 1, 1) := by decide +kernel
theorem dX0_rowsOf_2 : decode cX0_rowsOf 2 = .ok (.iload_n 2, 1) := by decide +kernel
theorem dX0_rowsOf_3 : decode cX0_rowsOf 3 = .ok (.invokevirtual 65, 3) := by decide +kernel
theorem dX0_rowsOf_6 : decode cX0_rowsOf 6 = .ok (.iconst 0, 1) := by decide +kernel
theorem dX0_rowsOf_7 : decode cX0_rowsOf 7 = .ok (.istore 4, 2) := by decide +kernel
theorem dX0_rowsOf_9 : decode cX0_rowsOf 9 = .ok (.iconst 0, 1) := by decide +kernel
theorem dX0_rowsOf_10 : decode cX0_rowsOf 10 = .ok (.istore 5, 2) := by decide +kernel
theorem dX0_rowsOf_12 : decode cX0_rowsOf 12 = .ok (.iload 5, 2) := by decide +kernel
theorem dX0_rowsOf_14 : decode cX0_rowsOf 14 = .ok (.aload_n 0, 1) := by decide +kernel
theorem dX0_rowsOf_15 : decode cX0_rowsOf 15 = .ok (.getfield 37, 3) := by decide +kernel
theorem dX0_rowsOf_18 : decode cX0_rowsOf 18 = .ok (.if_icmp .ge 68, 3) := by decide +kernel
theorem dX0_rowsOf_21 : decode cX0_rowsOf 21 = .ok (.aload_n 1, 1) := by decide +kernel
theorem dX0_rowsOf_22 : decode cX0_rowsOf 22 = .ok (.iload_n 2, 1) := by decide +kernel
theorem dX0_rowsOf_23 : decode cX0_rowsOf 23 = .ok (.aload_n 1, 1) := by decide +kernel
theorem dX0_rowsOf_24 : decode cX0_rowsOf 24 = .ok (.getfield 52, 3) := by decide +kernel
theorem dX0_rowsOf_27 : decode cX0_rowsOf 27 = .ok (.iload 5, 2) := by decide +kernel
theorem dX0_rowsOf_29 : decode cX0_rowsOf 29 = .ok (.iadd, 1) := by decide +kernel
theorem dX0_rowsOf_30 : decode cX0_rowsOf 30 = .ok (.aload_n 0, 1) := by decide +kernel
theorem dX0_rowsOf_31 : decode cX0_rowsOf 31 = .ok (.getfield 23, 3) := by decide +kernel
theorem dX0_rowsOf_34 : decode cX0_rowsOf 34 = .ok (.iload 5, 2) := by decide +kernel
theorem dX0_rowsOf_36 : decode cX0_rowsOf 36 = .ok (.aaload, 1) := by decide +kernel
theorem dX0_rowsOf_37 : decode cX0_rowsOf 37 = .ok (.iload_n 2, 1) := by decide +kernel
theorem dX0_rowsOf_38 : decode cX0_rowsOf 38 = .ok (.iconst 3, 1) := by decide +kernel
theorem dX0_rowsOf_39 : decode cX0_rowsOf 39 = .ok (.idiv, 1) := by decide +kernel
theorem dX0_rowsOf_40 : decode cX0_rowsOf 40 = .ok (.iaload, 1) := by decide +kernel
theorem dX0_rowsOf_41 : decode cX0_rowsOf 41 = .ok (.invokevirtual 58, 3) := by decide +kernel
theorem dX0_rowsOf_44 : decode cX0_rowsOf 44 = .ok (.ifCond .eq 36, 3) := by decide +kernel
theorem dX0_rowsOf_47 : decode cX0_rowsOf 47 = .ok (.aload_n 0, 1) := by decide +kernel
theorem dX0_rowsOf_48 : decode cX0_rowsOf 48 = .ok (.aload_n 1, 1) := by decide +kernel
theorem dX0_rowsOf_49 : decode cX0_rowsOf 49 = .ok (.iload_n 2, 1) := by decide +kernel
theorem dX0_rowsOf_50 : decode cX0_rowsOf 50 = .ok (.iload 5, 2) := by decide +kernel
theorem dX0_rowsOf_52 : decode cX0_rowsOf 52 = .ok (.invokevirtual 68, 3) := by decide +kernel
theorem dX0_rowsOf_55 : decode cX0_rowsOf 55 = .ok (.iload 4, 2) := by decide +kernel
theorem dX0_rowsOf_57 : decode cX0_rowsOf 57 = .ok (.aload_n 0, 1) := by decide +kernel
theorem dX0_rowsOf_58 : decode cX0_rowsOf 58 = .ok (.getfield 26, 3) := by decide +kernel
theorem dX0_rowsOf_61 : decode cX0_rowsOf 61 = .ok (.aload_n 3, 1) := by decide +kernel
theorem dX0_rowsOf_62 : decode cX0_rowsOf 62 = .ok (.aload_n 1, 1) := by decide +kernel
theorem dX0_rowsOf_63 : decode cX0_rowsOf 63 = .ok (.getfield 40, 3) := by decide +kernel
theorem dX0_rowsOf_66 : decode cX0_rowsOf 66 = .ok (.invokestatic 78, 3) := by decide +kernel
theorem dX0_rowsOf_69 : decode cX0_rowsOf 69 = .ok (.ifCond .eq 7, 3) := by decide +kernel
theorem dX0_rowsOf_72 : decode cX0_rowsOf 72 = .ok (.iconst 1, 1) := by decide +kernel
theorem dX0_rowsOf_73 : decode cX0_rowsOf 73 = .ok (.goto 4, 3) := by decide +kernel
theorem dX0_rowsOf_76 : decode cX0_rowsOf 76 = .ok (.iconst 0, 1) := by decide +kernel
theorem dX0_rowsOf_77 : decode cX0_rowsOf 77 = .ok (.iadd, 1) := by decide +kernel
theorem dX0_rowsOf_78 : decode cX0_rowsOf 78 = .ok (.istore 4, 2) := by decide +kernel
theorem dX0_rowsOf_80 : decode cX0_rowsOf 80 = .ok (.iinc 5 1, 3) := by decide +kernel
theorem dX0_rowsOf_83 : decode cX0_rowsOf 83 = .ok (.goto (-71), 3) := by decide +kernel
theorem dX0_rowsOf_86 : decode cX0_rowsOf 86 = .ok (.iload 4, 2) := by decide +kernel
theorem dX0_rowsOf_88 : decode cX0_rowsOf 88 = .ok (.ireturn, 1) := by decide +kernel
theorem dX0_lookFrom_0 : decode cX0_lookFrom 0 = .ok (.aload_n 0, 1) := by decide +kernel
theorem dX0_lookFrom_1 : decode cX0_lookFrom 1 = .ok (.iload_n 2, 1) := by decide +kernel
theorem dX0_lookFrom_2 : decode cX0_lookFrom 2 = .ok (.iconst 0, 1) := by decide +kernel
theorem dX0_lookFrom_3 : decode cX0_lookFrom 3 = .ok (.bipush 24, 2) := by decide +kernel
theorem dX0_lookFrom_5 : decode cX0_lookFrom 5 = .ok (.invokestatic 92, 3) := by decide +kernel
theorem dX0_lookFrom_8 : decode cX0_lookFrom 8 = .ok (.putfield 37, 3) := by decide +kernel
theorem dX0_lookFrom_11 : decode cX0_lookFrom 11 = .ok (.iconst 0, 1) := by decide +kernel
theorem dX0_lookFrom_12 : decode cX0_lookFrom 12 = .ok (.istore_n 3, 1) := by decide +kernel
theorem dX0_lookFrom_13 : decode cX0_lookFrom 13 = .ok (.iload_n 3, 1) := by decide +kernel
theorem dX0_lookFrom_14 : decode cX0_lookFrom 14 = .ok (.aload_n 1, 1) := by decide +kernel
theorem dX0_lookFrom_15 : decode cX0_lookFrom 15 = .ok (.getfield 40, 3) := by decide +kernel
theorem dX0_lookFrom_18 : decode cX0_lookFrom 18 = .ok (.if_icmp .ge 23, 3) := by decide +kernel
theorem dX0_lookFrom_21 : decode cX0_lookFrom 21 = .ok (.aload_n 0, 1) := by decide +kernel
theorem dX0_lookFrom_22 : decode cX0_lookFrom 22 = .ok (.getfield 23, 3) := by decide +kernel
theorem dX0_lookFrom_25 : decode cX0_lookFrom 25 = .ok (.iconst 0, 1) := by decide +kernel
theorem dX0_lookFrom_26 : decode cX0_lookFrom 26 = .ok (.aaload, 1) := by decide +kernel
theorem dX0_lookFrom_27 : decode cX0_lookFrom 27 = .ok (.iload_n 3, 1) := by decide +kernel
theorem dX0_lookFrom_28 : decode cX0_lookFrom 28 = .ok (.aload_n 1, 1) := by decide +kernel
theorem dX0_lookFrom_29 : decode cX0_lookFrom 29 = .ok (.getfield 55, 3) := by decide +kernel
theorem dX0_lookFrom_32 : decode cX0_lookFrom 32 = .ok (.iload_n 3, 1) := by decide +kernel
theorem dX0_lookFrom_33 : decode cX0_lookFrom 33 = .ok (.iaload, 1) := by decide +kernel
theorem dX0_lookFrom_34 : decode cX0_lookFrom 34 = .ok (.iastore, 1) := by decide +kernel
theorem dX0_lookFrom_35 : decode cX0_lookFrom 35 = .ok (.iinc 3 1, 3) := by decide +kernel
theorem dX0_lookFrom_38 : decode cX0_lookFrom 38 = .ok (.goto (-25), 3) := by decide +kernel
theorem dX0_lookFrom_41 : decode cX0_lookFrom 41 = .ok (.iconst 0, 1) := by decide +kernel
theorem dX0_lookFrom_42 : decode cX0_lookFrom 42 = .ok (.istore_n 3, 1) := by decide +kernel
theorem dX0_lookFrom_43 : decode cX0_lookFrom 43 = .ok (.iload_n 3, 1) := by decide +kernel
theorem dX0_lookFrom_44 : decode cX0_lookFrom 44 = .ok (.aload_n 0, 1) := by decide +kernel
theorem dX0_lookFrom_45 : decode cX0_lookFrom 45 = .ok (.getfield 37, 3) := by decide +kernel
theorem dX0_lookFrom_48 : decode cX0_lookFrom 48 = .ok (.if_icmp .ge 99, 3) := by decide +kernel
theorem dX0_lookFrom_51 : decode cX0_lookFrom 51 = .ok (.aload_n 0, 1) := by decide +kernel
theorem dX0_lookFrom_52 : decode cX0_lookFrom 52 = .ok (.getfield 9, 3) := by decide +kernel
theorem dX0_lookFrom_55 : decode cX0_lookFrom 55 = .ok (.iload_n 3, 1) := by decide +kernel
theorem dX0_lookFrom_56 : decode cX0_lookFrom 56 = .ok (.aload_n 1, 1) := by decide +kernel
theorem dX0_lookFrom_57 : decode cX0_lookFrom 57 = .ok (.iconst 0, 1) := by decide +kernel
theorem dX0_lookFrom_58 : decode cX0_lookFrom 58 = .ok (.aload_n 1, 1) := by decide +kernel
theorem dX0_lookFrom_59 : decode cX0_lookFrom 59 = .ok (.getfield 52, 3) := by decide +kernel
theorem dX0_lookFrom_62 : decode cX0_lookFrom 62 = .ok (.iload_n 3, 1) := by decide +kernel
theorem dX0_lookFrom_63 : decode cX0_lookFrom 63 = .ok (.iadd, 1) := by decide +kernel
theorem dX0_lookFrom_64 : decode cX0_lookFrom 64 = .ok (.invokevirtual 96, 3) := by decide +kernel
theorem dX0_lookFrom_67 : decode cX0_lookFrom 67 = .ok (.iastore, 1) := by decide +kernel
theorem dX0_lookFrom_68 : decode cX0_lookFrom 68 = .ok (.aload_n 0, 1) := by decide +kernel
theorem dX0_lookFrom_69 : decode cX0_lookFrom 69 = .ok (.getfield 15, 3) := by decide +kernel
theorem dX0_lookFrom_72 : decode cX0_lookFrom 72 = .ok (.iload_n 3, 1) := by decide +kernel
theorem dX0_lookFrom_73 : decode cX0_lookFrom 73 = .ok (.aload_n 1, 1) := by decide +kernel
theorem dX0_lookFrom_74 : decode cX0_lookFrom 74 = .ok (.iconst 1, 1) := by decide +kernel
theorem dX0_lookFrom_75 : decode cX0_lookFrom 75 = .ok (.aload_n 1, 1) := by decide +kernel
theorem dX0_lookFrom_76 : decode cX0_lookFrom 76 = .ok (.getfield 52, 3) := by decide +kernel
theorem dX0_lookFrom_79 : decode cX0_lookFrom 79 = .ok (.iload_n 3, 1) := by decide +kernel
theorem dX0_lookFrom_80 : decode cX0_lookFrom 80 = .ok (.iadd, 1) := by decide +kernel
theorem dX0_lookFrom_81 : decode cX0_lookFrom 81 = .ok (.invokevirtual 96, 3) := by decide +kernel
theorem dX0_lookFrom_84 : decode cX0_lookFrom 84 = .ok (.iastore, 1) := by decide +kernel
theorem dX0_lookFrom_85 : decode cX0_lookFrom 85 = .ok (.iconst 0, 1) := by decide +kernel
theorem dX0_lookFrom_86 : decode cX0_lookFrom 86 = .ok (.istore 4, 2) := by decide +kernel
theorem dX0_lookFrom_88 : decode cX0_lookFrom 88 = .ok (.iload 4, 2) := by decide +kernel
theorem dX0_lookFrom_90 : decode cX0_lookFrom 90 = .ok (.aload_n 1, 1) := by decide +kernel
theorem dX0_lookFrom_91 : decode cX0_lookFrom 91 = .ok (.getfield 40, 3) := by decide +kernel
theorem dX0_lookFrom_94 : decode cX0_lookFrom 94 = .ok (.if_icmp .ge 47, 3) := by decide +kernel
theorem dX0_lookFrom_97 : decode cX0_lookFrom 97 = .ok (.aload_n 0, 1) := by decide +kernel
theorem dX0_lookFrom_98 : decode cX0_lookFrom 98 = .ok (.getfield 23, 3) := by decide +kernel
theorem dX0_lookFrom_101 : decode cX0_lookFrom 101 = .ok (.iload_n 3, 1) := by decide +kernel
theorem dX0_lookFrom_102 : decode cX0_lookFrom 102 = .ok (.iconst 1, 1) := by decide +kernel
theorem dX0_lookFrom_103 : decode cX0_lookFrom 103 = .ok (.iadd, 1) := by decide +kernel
theorem dX0_lookFrom_104 : decode cX0_lookFrom 104 = .ok (.aaload, 1) := by decide +kernel
theorem dX0_lookFrom_105 : decode cX0_lookFrom 105 = .ok (.iload 4, 2) := by decide +kernel
theorem dX0_lookFrom_107 : decode cX0_lookFrom 107 = .ok (.aload_n 1, 1) := by decide +kernel
theorem dX0_lookFrom_108 : decode cX0_lookFrom 108 = .ok (.iload 4, 2) := by decide +kernel
theorem dX0_lookFrom_110 : decode cX0_lookFrom 110 = .ok (.aload_n 0, 1) := by decide +kernel
theorem dX0_lookFrom_111 : decode cX0_lookFrom 111 = .ok (.getfield 23, 3) := by decide +kernel
theorem dX0_lookFrom_114 : decode cX0_lookFrom 114 = .ok (.iload_n 3, 1) := by decide +kernel
theorem dX0_lookFrom_115 : decode cX0_lookFrom 115 = .ok (.aaload, 1) := by decide +kernel
theorem dX0_lookFrom_116 : decode cX0_lookFrom 116 = .ok (.iload 4, 2) := by decide +kernel
theorem dX0_lookFrom_118 : decode cX0_lookFrom 118 = .ok (.iaload, 1) := by decide +kernel
theorem dX0_lookFrom_119 : decode cX0_lookFrom 119 = .ok (.aload_n 0, 1) := by decide +kernel
theorem dX0_lookFrom_120 : decode cX0_lookFrom 120 = .ok (.getfield 9, 3) := by decide +kernel
theorem dX0_lookFrom_123 : decode cX0_lookFrom 123 = .ok (.iload_n 3, 1) := by decide +kernel
theorem dX0_lookFrom_124 : decode cX0_lookFrom 124 = .ok (.iaload, 1) := by decide +kernel
theorem dX0_lookFrom_125 : decode cX0_lookFrom 125 = .ok (.aload_n 0, 1) := by decide +kernel
theorem dX0_lookFrom_126 : decode cX0_lookFrom 126 = .ok (.getfield 15, 3) := by decide +kernel
theorem dX0_lookFrom_129 : decode cX0_lookFrom 129 = .ok (.iload_n 3, 1) := by decide +kernel
theorem dX0_lookFrom_130 : decode cX0_lookFrom 130 = .ok (.iaload, 1) := by decide +kernel
theorem dX0_lookFrom_131 : decode cX0_lookFrom 131 = .ok (.invokevirtual 100, 3) := by decide +kernel
theorem dX0_lookFrom_134 : decode cX0_lookFrom 134 = .ok (.iastore, 1) := by decide +kernel
theorem dX0_lookFrom_135 : decode cX0_lookFrom 135 = .ok (.iinc 4 1, 3) := by decide +kernel
theorem dX0_lookFrom_138 : decode cX0_lookFrom 138 = .ok (.goto (-50), 3) := by decide +kernel
theorem dX0_lookFrom_141 : decode cX0_lookFrom 141 = .ok (.iinc 3 1, 3) := by decide +kernel
theorem dX0_lookFrom_144 : decode cX0_lookFrom 144 = .ok (.goto (-101), 3) := by decide +kernel
theorem dX0_lookFrom_147 : decode cX0_lookFrom 147 = .ok (.return_, 1) := by decide +kernel
theorem dX0_foresee_0 : decode cX0_foresee 0 = .ok (.iconst 0, 1) := by decide +kernel
theorem dX0_foresee_1 : decode cX0_foresee 1 = .ok (.istore_n 3, 1) := by decide +kernel
theorem dX0_foresee_2 : decode cX0_foresee 2 = .ok (.iload_n 3, 1) := by decide +kernel
theorem dX0_foresee_3 : decode cX0_foresee 3 = .ok (.aload_n 0, 1) := by decide +kernel
theorem dX0_foresee_4 : decode cX0_foresee 4 = .ok (.getfield 37, 3) := by decide +kernel
theorem dX0_foresee_7 : decode cX0_foresee 7 = .ok (.if_icmp .ge 21, 3) := by decide +kernel
theorem dX0_foresee_10 : decode cX0_foresee 10 = .ok (.aload_n 0, 1) := by decide +kernel
theorem dX0_foresee_11 : decode cX0_foresee 11 = .ok (.getfield 18, 3) := by decide +kernel
theorem dX0_foresee_14 : decode cX0_foresee 14 = .ok (.iload_n 3, 1) := by decide +kernel
theorem dX0_foresee_15 : decode cX0_foresee 15 = .ok (.aload_n 1, 1) := by decide +kernel
theorem dX0_foresee_16 : decode cX0_foresee 16 = .ok (.iload_n 2, 1) := by decide +kernel
theorem dX0_foresee_17 : decode cX0_foresee 17 = .ok (.iload_n 3, 1) := by decide +kernel
theorem dX0_foresee_18 : decode cX0_foresee 18 = .ok (.invokevirtual 104, 3) := by decide +kernel
theorem dX0_foresee_21 : decode cX0_foresee 21 = .ok (.iastore, 1) := by decide +kernel
theorem dX0_foresee_22 : decode cX0_foresee 22 = .ok (.iinc 3 1, 3) := by decide +kernel
theorem dX0_foresee_25 : decode cX0_foresee 25 = .ok (.goto (-23), 3) := by decide +kernel
theorem dX0_foresee_28 : decode cX0_foresee 28 = .ok (.return_, 1) := by decide +kernel
theorem dX0_sailOn_0 : decode cX0_sailOn 0 = .ok (.aload_n 1, 1) := by decide +kernel
theorem dX0_sailOn_1 : decode cX0_sailOn 1 = .ok (.getfield 107, 3) := by decide +kernel
theorem dX0_sailOn_4 : decode cX0_sailOn 4 = .ok (.iload_n 2, 1) := by decide +kernel
theorem dX0_sailOn_5 : decode cX0_sailOn 5 = .ok (.iaload, 1) := by decide +kernel
theorem dX0_sailOn_6 : decode cX0_sailOn 6 = .ok (.iconst 0, 1) := by decide +kernel
theorem dX0_sailOn_7 : decode cX0_sailOn 7 = .ok (.invokestatic 110, 3) := by decide +kernel
theorem dX0_sailOn_10 : decode cX0_sailOn 10 = .ok (.istore 4, 2) := by decide +kernel
theorem dX0_sailOn_12 : decode cX0_sailOn 12 = .ok (.aload_n 1, 1) := by decide +kernel
theorem dX0_sailOn_13 : decode cX0_sailOn 13 = .ok (.getfield 107, 3) := by decide +kernel
theorem dX0_sailOn_16 : decode cX0_sailOn 16 = .ok (.iload_n 2, 1) := by decide +kernel
theorem dX0_sailOn_17 : decode cX0_sailOn 17 = .ok (.iaload, 1) := by decide +kernel
theorem dX0_sailOn_18 : decode cX0_sailOn 18 = .ok (.iconst 1, 1) := by decide +kernel
theorem dX0_sailOn_19 : decode cX0_sailOn 19 = .ok (.invokestatic 110, 3) := by decide +kernel
theorem dX0_sailOn_22 : decode cX0_sailOn 22 = .ok (.istore 5, 2) := by decide +kernel
theorem dX0_sailOn_24 : decode cX0_sailOn 24 = .ok (.iconst 0, 1) := by decide +kernel
theorem dX0_sailOn_25 : decode cX0_sailOn 25 = .ok (.istore 6, 2) := by decide +kernel
theorem dX0_sailOn_27 : decode cX0_sailOn 27 = .ok (.iload 6, 2) := by decide +kernel
theorem dX0_sailOn_29 : decode cX0_sailOn 29 = .ok (.aload_n 1, 1) := by decide +kernel
theorem dX0_sailOn_30 : decode cX0_sailOn 30 = .ok (.getfield 40, 3) := by decide +kernel
theorem dX0_sailOn_33 : decode cX0_sailOn 33 = .ok (.if_icmp .ge 102, 3) := by decide +kernel
theorem dX0_sailOn_36 : decode cX0_sailOn 36 = .ok (.aload_n 0, 1) := by decide +kernel
theorem dX0_sailOn_37 : decode cX0_sailOn 37 = .ok (.getfield 23, 3) := by decide +kernel
theorem dX0_sailOn_40 : decode cX0_sailOn 40 = .ok (.iload_n 3, 1) := by decide +kernel
theorem dX0_sailOn_41 : decode cX0_sailOn 41 = .ok (.aaload, 1) := by decide +kernel
theorem dX0_sailOn_42 : decode cX0_sailOn 42 = .ok (.iload 6, 2) := by decide +kernel
theorem dX0_sailOn_44 : decode cX0_sailOn 44 = .ok (.iaload, 1) := by decide +kernel
theorem dX0_sailOn_45 : decode cX0_sailOn 45 = .ok (.istore 7, 2) := by decide +kernel
theorem dX0_sailOn_47 : decode cX0_sailOn 47 = .ok (.iload_n 3, 1) := by decide +kernel
theorem dX0_sailOn_48 : decode cX0_sailOn 48 = .ok (.istore 8, 2) := by decide +kernel
theorem dX0_sailOn_50 : decode cX0_sailOn 50 = .ok (.iload 8, 2) := by decide +kernel
theorem dX0_sailOn_52 : decode cX0_sailOn 52 = .ok (.aload_n 0, 1) := by decide +kernel
theorem dX0_sailOn_53 : decode cX0_sailOn 53 = .ok (.getfield 37, 3) := by decide +kernel
theorem dX0_sailOn_56 : decode cX0_sailOn 56 = .ok (.if_icmp .ge 64, 3) := by decide +kernel
theorem dX0_sailOn_59 : decode cX0_sailOn 59 = .ok (.iload 7, 2) := by decide +kernel
theorem dX0_sailOn_61 : decode cX0_sailOn 61 = .ok (.invokestatic 113, 3) := by decide +kernel
theorem dX0_sailOn_64 : decode cX0_sailOn 64 = .ok (.ifCond .ne 56, 3) := by decide +kernel
theorem dX0_sailOn_67 : decode cX0_sailOn 67 = .ok (.aload_n 0, 1) := by decide +kernel
theorem dX0_sailOn_68 : decode cX0_sailOn 68 = .ok (.getfield 18, 3) := by decide +kernel
theorem dX0_sailOn_71 : decode cX0_sailOn 71 = .ok (.iload 8, 2) := by decide +kernel
theorem dX0_sailOn_73 : decode cX0_sailOn 73 = .ok (.iload_n 3, 1) := by decide +kernel
theorem dX0_sailOn_74 : decode cX0_sailOn 74 = .ok (.isub, 1) := by decide +kernel
theorem dX0_sailOn_75 : decode cX0_sailOn 75 = .ok (.iaload, 1) := by decide +kernel
theorem dX0_sailOn_76 : decode cX0_sailOn 76 = .ok (.istore 9, 2) := by decide +kernel
theorem dX0_sailOn_78 : decode cX0_sailOn 78 = .ok (.aload_n 1, 1) := by decide +kernel
theorem dX0_sailOn_79 : decode cX0_sailOn 79 = .ok (.iload 6, 2) := by decide +kernel
theorem dX0_sailOn_81 : decode cX0_sailOn 81 = .ok (.iload 7, 2) := by decide +kernel
theorem dX0_sailOn_83 : decode cX0_sailOn 83 = .ok (.aload_n 0, 1) := by decide +kernel
theorem dX0_sailOn_84 : decode cX0_sailOn 84 = .ok (.getfield 9, 3) := by decide +kernel
theorem dX0_sailOn_87 : decode cX0_sailOn 87 = .ok (.iload 8, 2) := by decide +kernel
theorem dX0_sailOn_89 : decode cX0_sailOn 89 = .ok (.iaload, 1) := by decide +kernel
theorem dX0_sailOn_90 : decode cX0_sailOn 90 = .ok (.iload 4, 2) := by decide +kernel
theorem dX0_sailOn_92 : decode cX0_sailOn 92 = .ok (.iload 9, 2) := by decide +kernel
theorem dX0_sailOn_94 : decode cX0_sailOn 94 = .ok (.imul, 1) := by decide +kernel
theorem dX0_sailOn_95 : decode cX0_sailOn 95 = .ok (.iadd, 1) := by decide +kernel
theorem dX0_sailOn_96 : decode cX0_sailOn 96 = .ok (.aload_n 0, 1) := by decide +kernel
theorem dX0_sailOn_97 : decode cX0_sailOn 97 = .ok (.getfield 15, 3) := by decide +kernel
theorem dX0_sailOn_100 : decode cX0_sailOn 100 = .ok (.iload 8, 2) := by decide +kernel
theorem dX0_sailOn_102 : decode cX0_sailOn 102 = .ok (.iaload, 1) := by decide +kernel
theorem dX0_sailOn_103 : decode cX0_sailOn 103 = .ok (.iload 5, 2) := by decide +kernel
theorem dX0_sailOn_105 : decode cX0_sailOn 105 = .ok (.iload 9, 2) := by decide +kernel
theorem dX0_sailOn_107 : decode cX0_sailOn 107 = .ok (.imul, 1) := by decide +kernel
theorem dX0_sailOn_108 : decode cX0_sailOn 108 = .ok (.iadd, 1) := by decide +kernel
theorem dX0_sailOn_109 : decode cX0_sailOn 109 = .ok (.invokevirtual 100, 3) := by decide +kernel
theorem dX0_sailOn_112 : decode cX0_sailOn 112 = .ok (.istore 7, 2) := by decide +kernel
theorem dX0_sailOn_114 : decode cX0_sailOn 114 = .ok (.iinc 8 1, 3) := by decide +kernel
theorem dX0_sailOn_117 : decode cX0_sailOn 117 = .ok (.goto (-67), 3) := by decide +kernel
theorem dX0_sailOn_120 : decode cX0_sailOn 120 = .ok (.aload_n 0, 1) := by decide +kernel
theorem dX0_sailOn_121 : decode cX0_sailOn 121 = .ok (.getfield 26, 3) := by decide +kernel
theorem dX0_sailOn_124 : decode cX0_sailOn 124 = .ok (.iload 6, 2) := by decide +kernel
theorem dX0_sailOn_126 : decode cX0_sailOn 126 = .ok (.iload 7, 2) := by decide +kernel
theorem dX0_sailOn_128 : decode cX0_sailOn 128 = .ok (.iastore, 1) := by decide +kernel
theorem dX0_sailOn_129 : decode cX0_sailOn 129 = .ok (.iinc 6 1, 3) := by decide +kernel
theorem dX0_sailOn_132 : decode cX0_sailOn 132 = .ok (.goto (-105), 3) := by decide +kernel
theorem dX0_sailOn_135 : decode cX0_sailOn 135 = .ok (.return_, 1) := by decide +kernel
theorem dX0_homeIn_0 : decode cX0_homeIn 0 = .ok (.iconst 0, 1) := by decide +kernel
theorem dX0_homeIn_1 : decode cX0_homeIn 1 = .ok (.istore_n 2, 1) := by decide +kernel
theorem dX0_homeIn_2 : decode cX0_homeIn 2 = .ok (.iconst 0, 1) := by decide +kernel
theorem dX0_homeIn_3 : decode cX0_homeIn 3 = .ok (.istore_n 3, 1) := by decide +kernel
theorem dX0_homeIn_4 : decode cX0_homeIn 4 = .ok (.iload_n 3, 1) := by decide +kernel
theorem dX0_homeIn_5 : decode cX0_homeIn 5 = .ok (.iload_n 1, 1) := by decide +kernel
theorem dX0_homeIn_6 : decode cX0_homeIn 6 = .ok (.if_icmp .ge 22, 3) := by decide +kernel
theorem dX0_homeIn_9 : decode cX0_homeIn 9 = .ok (.aload_n 0, 1) := by decide +kernel
theorem dX0_homeIn_10 : decode cX0_homeIn 10 = .ok (.iload_n 3, 1) := by decide +kernel
theorem dX0_homeIn_11 : decode cX0_homeIn 11 = .ok (.iaload, 1) := by decide +kernel
theorem dX0_homeIn_12 : decode cX0_homeIn 12 = .ok (.invokestatic 113, 3) := by decide +kernel
theorem dX0_homeIn_15 : decode cX0_homeIn 15 = .ok (.iconst 2, 1) := by decide +kernel
theorem dX0_homeIn_16 : decode cX0_homeIn 16 = .ok (.if_icmp .ne 6, 3) := by decide +kernel
theorem dX0_homeIn_19 : decode cX0_homeIn 19 = .ok (.iinc 2 1, 3) := by decide +kernel
theorem dX0_homeIn_22 : decode cX0_homeIn 22 = .ok (.iinc 3 1, 3) := by decide +kernel
theorem dX0_homeIn_25 : decode cX0_homeIn 25 = .ok (.goto (-21), 3) := by decide +kernel
theorem dX0_homeIn_28 : decode cX0_homeIn 28 = .ok (.iload_n 2, 1) := by decide +kernel
theorem dX0_homeIn_29 : decode cX0_homeIn 29 = .ok (.ireturn, 1) := by decide +kernel
theorem dX0_lieAsTold_0 : decode cX0_lieAsTold 0 = .ok (.iconst 0, 1) := by decide +kernel
theorem dX0_lieAsTold_1 : decode cX0_lieAsTold 1 = .ok (.istore_n 3, 1) := by decide +kernel
theorem dX0_lieAsTold_2 : decode cX0_lieAsTold 2 = .ok (.iload_n 3, 1) := by decide +kernel
theorem dX0_lieAsTold_3 : decode cX0_lieAsTold 3 = .ok (.iload_n 2, 1) := by decide +kernel
theorem dX0_lieAsTold_4 : decode cX0_lieAsTold 4 = .ok (.if_icmp .ge 23, 3) := by decide +kernel
theorem dX0_lieAsTold_7 : decode cX0_lieAsTold 7 = .ok (.aload_n 0, 1) := by decide +kernel
theorem dX0_lieAsTold_8 : decode cX0_lieAsTold 8 = .ok (.iload_n 3, 1) := by decide +kernel
theorem dX0_lieAsTold_9 : decode cX0_lieAsTold 9 = .ok (.iaload, 1) := by decide +kernel
theorem dX0_lieAsTold_10 : decode cX0_lieAsTold 10 = .ok (.invokestatic 117, 3) := by decide +kernel
theorem dX0_lieAsTold_13 : decode cX0_lieAsTold 13 = .ok (.aload_n 1, 1) := by decide +kernel
theorem dX0_lieAsTold_14 : decode cX0_lieAsTold 14 = .ok (.iload_n 3, 1) := by decide +kernel
theorem dX0_lieAsTold_15 : decode cX0_lieAsTold 15 = .ok (.iaload, 1) := by decide +kernel
theorem dX0_lieAsTold_16 : decode cX0_lieAsTold 16 = .ok (.if_icmp .eq 5, 3) := by decide +kernel
theorem dX0_lieAsTold_19 : decode cX0_lieAsTold 19 = .ok (.iconst 0, 1) := by decide +kernel
theorem dX0_lieAsTold_20 : decode cX0_lieAsTold 20 = .ok (.ireturn, 1) := by decide +kernel
theorem dX0_lieAsTold_21 : decode cX0_lieAsTold 21 = .ok (.iinc 3 1, 3) := by decide +kernel
theorem dX0_lieAsTold_24 : decode cX0_lieAsTold 24 = .ok (.goto (-22), 3) := by decide +kernel
theorem dX0_lieAsTold_27 : decode cX0_lieAsTold 27 = .ok (.iconst 1, 1) := by decide +kernel
theorem dX0_lieAsTold_28 : decode cX0_lieAsTold 28 = .ok (.ireturn, 1) := by decide +kernel
theorem dX1_init_0 : decode cX1_init 0 = .ok (.aload_n 0, 1) := by decide +kernel
theorem dX1_init_1 : decode cX1_init 1 = .ok (.invokespecial 3, 3) := by decide +kernel
theorem dX1_init_4 : decode cX1_init 4 = .ok (.aload_n 0, 1) := by decide +kernel
theorem dX1_init_5 : decode cX1_init 5 = .ok (.new 9, 3) := by decide +kernel
theorem dX1_init_8 : decode cX1_init 8 = .ok (.dup, 1) := by decide +kernel
theorem dX1_init_9 : decode cX1_init 9 = .ok (.invokespecial 11, 3) := by decide +kernel
theorem dX1_init_12 : decode cX1_init 12 = .ok (.putfield 12, 3) := by decide +kernel
theorem dX1_init_15 : decode cX1_init 15 = .ok (.aload_n 0, 1) := by decide +kernel
theorem dX1_init_16 : decode cX1_init 16 = .ok (.bipush 60, 2) := by decide +kernel
theorem dX1_init_18 : decode cX1_init 18 = .ok (.newarray .int, 2) := by decide +kernel
theorem dX1_init_20 : decode cX1_init 20 = .ok (.putfield 18, 3) := by decide +kernel
theorem dX1_init_23 : decode cX1_init 23 = .ok (.aload_n 0, 1) := by decide +kernel
theorem dX1_init_24 : decode cX1_init 24 = .ok (.ldc 22, 2) := by decide +kernel
theorem dX1_init_26 : decode cX1_init 26 = .ok (.putfield 24, 3) := by decide +kernel
theorem dX1_init_29 : decode cX1_init 29 = .ok (.return_, 1) := by decide +kernel
theorem dX1_faultOf_0 : decode cX1_faultOf 0 = .ok (.aload_n 0, 1) := by decide +kernel
theorem dX1_faultOf_1 : decode cX1_faultOf 1 = .ok (.iload_n 2, 1) := by decide +kernel
theorem dX1_faultOf_2 : decode cX1_faultOf 2 = .ok (.bipush 60, 2) := by decide +kernel
theorem dX1_faultOf_4 : decode cX1_faultOf 4 = .ok (.invokestatic 28, 3) := by decide +kernel
theorem dX1_faultOf_7 : decode cX1_faultOf 7 = .ok (.putfield 34, 3) := by decide +kernel
theorem dX1_faultOf_10 : decode cX1_faultOf 10 = .ok (.aload_n 1, 1) := by decide +kernel
theorem dX1_faultOf_11 : decode cX1_faultOf 11 = .ok (.iconst 0, 1) := by decide +kernel
theorem dX1_faultOf_12 : decode cX1_faultOf 12 = .ok (.aload_n 0, 1) := by decide +kernel
theorem dX1_faultOf_13 : decode cX1_faultOf 13 = .ok (.getfield 18, 3) := by decide +kernel
theorem dX1_faultOf_16 : decode cX1_faultOf 16 = .ok (.iconst 0, 1) := by decide +kernel
theorem dX1_faultOf_17 : decode cX1_faultOf 17 = .ok (.aload_n 0, 1) := by decide +kernel
theorem dX1_faultOf_18 : decode cX1_faultOf 18 = .ok (.getfield 34, 3) := by decide +kernel
theorem dX1_faultOf_21 : decode cX1_faultOf 21 = .ok (.invokestatic 38, 3) := by decide +kernel
theorem dX1_faultOf_24 : decode cX1_faultOf 24 = .ok (.aload_n 0, 1) := by decide +kernel
theorem dX1_faultOf_25 : decode cX1_faultOf 25 = .ok (.iconst 0, 1) := by decide +kernel
theorem dX1_faultOf_26 : decode cX1_faultOf 26 = .ok (.putfield 44, 3) := by decide +kernel
theorem dX1_faultOf_29 : decode cX1_faultOf 29 = .ok (.aload_n 0, 1) := by decide +kernel
theorem dX1_faultOf_30 : decode cX1_faultOf 30 = .ok (.iconst 0, 1) := by decide +kernel
theorem dX1_faultOf_31 : decode cX1_faultOf 31 = .ok (.putfield 47, 3) := by decide +kernel
theorem dX1_faultOf_34 : decode cX1_faultOf 34 = .ok (.aload_n 0, 1) := by decide +kernel
theorem dX1_faultOf_35 : decode cX1_faultOf 35 = .ok (.iload_n 3, 1) := by decide +kernel
theorem dX1_faultOf_36 : decode cX1_faultOf 36 = .ok (.ifCond .ne 8, 3) := by decide +kernel
theorem dX1_faultOf_39 : decode cX1_faultOf 39 = .ok (.ldc 22, 2) := by decide +kernel
theorem dX1_faultOf_41 : decode cX1_faultOf 41 = .ok (.goto 5, 3) := by decide +kernel
theorem dX1_faultOf_44 : decode cX1_faultOf 44 = .ok (.ldc 51, 2) := by decide +kernel
theorem dX1_faultOf_46 : decode cX1_faultOf 46 = .ok (.putfield 24, 3) := by decide +kernel
theorem dX1_faultOf_49 : decode cX1_faultOf 49 = .ok (.aload_n 0, 1) := by decide +kernel
theorem dX1_faultOf_50 : decode cX1_faultOf 50 = .ok (.getfield 12, 3) := by decide +kernel
theorem dX1_faultOf_53 : decode cX1_faultOf 53 = .ok (.invokevirtual 53, 3) := by decide +kernel
theorem dX1_faultOf_56 : decode cX1_faultOf 56 = .ok (.aload_n 0, 1) := by decide +kernel
theorem dX1_faultOf_57 : decode cX1_faultOf 57 = .ok (.iconst 0, 1) := by decide +kernel
theorem dX1_faultOf_58 : decode cX1_faultOf 58 = .ok (.iconst 0, 1) := by decide +kernel
theorem dX1_faultOf_59 : decode cX1_faultOf 59 = .ok (.invokevirtual 56, 3) := by decide +kernel
theorem dX1_faultOf_62 : decode cX1_faultOf 62 = .ok (.aload_n 0, 1) := by decide +kernel
theorem dX1_faultOf_63 : decode cX1_faultOf 63 = .ok (.getfield 47, 3) := by decide +kernel
theorem dX1_faultOf_66 : decode cX1_faultOf 66 = .ok (.ifCond .ne 14, 3) := by decide +kernel
theorem dX1_faultOf_69 : decode cX1_faultOf 69 = .ok (.aload_n 0, 1) := by decide +kernel
theorem dX1_faultOf_70 : decode cX1_faultOf 70 = .ok (.getfield 44, 3) := by decide +kernel
theorem dX1_faultOf_73 : decode cX1_faultOf 73 = .ok (.aload_n 0, 1) := by decide +kernel
theorem dX1_faultOf_74 : decode cX1_faultOf 74 = .ok (.getfield 34, 3) := by decide +kernel
theorem dX1_faultOf_77 : decode cX1_faultOf 77 = .ok (.if_icmp .ge 10, 3) := by decide +kernel
theorem dX1_faultOf_80 : decode cX1_faultOf 80 = .ok (.aload_n 0, 1) := by decide +kernel
theorem dX1_faultOf_81 : decode cX1_faultOf 81 = .ok (.getfield 44, 3) := by decide +kernel
theorem dX1_faultOf_84 : decode cX1_faultOf 84 = .ok (.goto 4, 3) := by decide +kernel
theorem dX1_faultOf_87 : decode cX1_faultOf 87 = .ok (.iconst (-1), 1) := by decide +kernel
theorem dX1_faultOf_88 : decode cX1_faultOf 88 = .ok (.ireturn, 1) := by decide +kernel
theorem dX1_next_0 : decode cX1_next 0 = .ok (.aload_n 0, 1) := by decide +kernel
theorem dX1_next_1 : decode cX1_next 1 = .ok (.getfield 44, 3) := by decide +kernel
theorem dX1_next_4 : decode cX1_next 4 = .ok (.aload_n 0, 1) := by decide +kernel
theorem dX1_next_5 : decode cX1_next 5 = .ok (.getfield 34, 3) := by decide +kernel
theorem dX1_next_8 : decode cX1_next 8 = .ok (.if_icmp .ge 15, 3) := by decide +kernel
theorem dX1_next_11 : decode cX1_next 11 = .ok (.aload_n 0, 1) := by decide +kernel
theorem dX1_next_12 : decode cX1_next 12 = .ok (.getfield 18, 3) := by decide +kernel
theorem dX1_next_15 : decode cX1_next 15 = .ok (.aload_n 0, 1) := by decide +kernel
theorem dX1_next_16 : decode cX1_next 16 = .ok (.getfield 44, 3) := by decide +kernel
theorem dX1_next_19 : decode cX1_next 19 = .ok (.iaload, 1) := by decide +kernel
theorem dX1_next_20 : decode cX1_next 20 = .ok (.goto 4, 3) := by decide +kernel
theorem dX1_next_23 : decode cX1_next 23 = .ok (.iconst (-1), 1) := by decide +kernel
theorem dX1_next_24 : decode cX1_next 24 = .ok (.ireturn, 1) := by decide +kernel
theorem dX1_readLevel_0 : decode cX1_readLevel 0 = .ok (.iload_n 1, 1) := by decide +kernel
theorem dX1_readLevel_1 : decode cX1_readLevel 1 = .ok (.iconst 5, 1) := by decide +kernel
theorem dX1_readLevel_2 : decode cX1_readLevel 2 = .ok (.if_icmp .lt 9, 3) := by decide +kernel
theorem dX1_readLevel_5 : decode cX1_readLevel 5 = .ok (.aload_n 0, 1) := by decide +kernel
theorem dX1_readLevel_6 : decode cX1_readLevel 6 = .ok (.iload_n 2, 1) := by decide +kernel
theorem dX1_readLevel_7 : decode cX1_readLevel 7 = .ok (.invokevirtual 60, 3) := by decide +kernel
theorem dX1_readLevel_10 : decode cX1_readLevel 10 = .ok (.return_, 1) := by decide +kernel
theorem dX1_readLevel_11 : decode cX1_readLevel 11 = .ok (.aload_n 0, 1) := by decide +kernel
theorem dX1_readLevel_12 : decode cX1_readLevel 12 = .ok (.iload_n 1, 1) := by decide +kernel
theorem dX1_readLevel_13 : decode cX1_readLevel 13 = .ok (.iconst 1, 1) := by decide +kernel
theorem dX1_readLevel_14 : decode cX1_readLevel 14 = .ok (.iadd, 1) := by decide +kernel
theorem dX1_readLevel_15 : decode cX1_readLevel 15 = .ok (.iload_n 2, 1) := by decide +kernel
theorem dX1_readLevel_16 : decode cX1_readLevel 16 = .ok (.invokevirtual 56, 3) := by decide +kernel
theorem dX1_readLevel_19 : decode cX1_readLevel 19 = .ok (.iload_n 1, 1) := by decide +kernel
theorem dX1_readLevel_20 : decode cX1_readLevel 20 = .ok (.iconst 2, 1) := by decide +kernel
theorem dX1_readLevel_21 : decode cX1_readLevel 21 = .ok (.if_icmp .ne 7, 3) := by decide +kernel
theorem dX1_readLevel_24 : decode cX1_readLevel 24 = .ok (.iconst 1, 1) := by decide +kernel
theorem dX1_readLevel_25 : decode cX1_readLevel 25 = .ok (.goto 5, 3) := by decide +kernel
theorem dX1_readLevel_28 : decode cX1_readLevel 28 = .ok (.bipush 60, 2) := by decide +kernel
theorem dX1_readLevel_30 : decode cX1_readLevel 30 = .ok (.istore_n 3, 1) := by decide +kernel
theorem dX1_readLevel_31 : decode cX1_readLevel 31 = .ok (.iconst 0, 1) := by decide +kernel
theorem dX1_readLevel_32 : decode cX1_readLevel 32 = .ok (.istore 4, 2) := by decide +kernel
theorem dX1_readLevel_34 : decode cX1_readLevel 34 = .ok (.iload 4, 2) := by decide +kernel
theorem dX1_readLevel_36 : decode cX1_readLevel 36 = .ok (.iload_n 3, 1) := by decide +kernel
theorem dX1_readLevel_37 : decode cX1_readLevel 37 = .ok (.if_icmp .ge 61, 3) := by decide +kernel
theorem dX1_readLevel_40 : decode cX1_readLevel 40 = .ok (.aload_n 0, 1) := by decide +kernel
theorem dX1_readLevel_41 : decode cX1_readLevel 41 = .ok (.getfield 47, 3) := by decide +kernel
theorem dX1_readLevel_44 : decode cX1_readLevel 44 = .ok (.ifCond .ne 54, 3) := by decide +kernel
theorem dX1_readLevel_47 : decode cX1_readLevel 47 = .ok (.aload_n 0, 1) := by decide +kernel
theorem dX1_readLevel_48 : decode cX1_readLevel 48 = .ok (.invokevirtual 64, 3) := by decide +kernel
theorem dX1_readLevel_51 : decode cX1_readLevel 51 = .ok (.invokestatic 68, 3) := by decide +kernel
theorem dX1_readLevel_54 : decode cX1_readLevel 54 = .ok (.iload_n 1, 1) := by decide +kernel
theorem dX1_readLevel_55 : decode cX1_readLevel 55 = .ok (.if_icmp .ne 43, 3) := by decide +kernel
theorem dX1_readLevel_58 : decode cX1_readLevel 58 = .ok (.aload_n 0, 1) := by decide +kernel
theorem dX1_readLevel_59 : decode cX1_readLevel 59 = .ok (.invokevirtual 64, 3) := by decide +kernel
theorem dX1_readLevel_62 : decode cX1_readLevel 62 = .ok (.istore 5, 2) := by decide +kernel
theorem dX1_readLevel_64 : decode cX1_readLevel 64 = .ok (.aload_n 0, 1) := by decide +kernel
theorem dX1_readLevel_65 : decode cX1_readLevel 65 = .ok (.dup, 1) := by decide +kernel
theorem dX1_readLevel_66 : decode cX1_readLevel 66 = .ok (.getfield 44, 3) := by decide +kernel
theorem dX1_readLevel_69 : decode cX1_readLevel 69 = .ok (.iconst 1, 1) := by decide +kernel
theorem dX1_readLevel_70 : decode cX1_readLevel 70 = .ok (.iadd, 1) := by decide +kernel
theorem dX1_readLevel_71 : decode cX1_readLevel 71 = .ok (.putfield 44, 3) := by decide +kernel
theorem dX1_readLevel_74 : decode cX1_readLevel 74 = .ok (.aload_n 0, 1) := by decide +kernel
theorem dX1_readLevel_75 : decode cX1_readLevel 75 = .ok (.iload_n 1, 1) := by decide +kernel
theorem dX1_readLevel_76 : decode cX1_readLevel 76 = .ok (.iconst 1, 1) := by decide +kernel
theorem dX1_readLevel_77 : decode cX1_readLevel 77 = .ok (.iadd, 1) := by decide +kernel
theorem dX1_readLevel_78 : decode cX1_readLevel 78 = .ok (.iload_n 2, 1) := by decide +kernel
theorem dX1_readLevel_79 : decode cX1_readLevel 79 = .ok (.invokevirtual 56, 3) := by decide +kernel
theorem dX1_readLevel_82 : decode cX1_readLevel 82 = .ok (.aload_n 0, 1) := by decide +kernel
theorem dX1_readLevel_83 : decode cX1_readLevel 83 = .ok (.getfield 12, 3) := by decide +kernel
theorem dX1_readLevel_86 : decode cX1_readLevel 86 = .ok (.iload 5, 2) := by decide +kernel
theorem dX1_readLevel_88 : decode cX1_readLevel 88 = .ok (.ineg, 1) := by decide +kernel
theorem dX1_readLevel_89 : decode cX1_readLevel 89 = .ok (.invokevirtual 72, 3) := by decide +kernel
theorem dX1_readLevel_92 : decode cX1_readLevel 92 = .ok (.iinc 4 1, 3) := by decide +kernel
theorem dX1_readLevel_95 : decode cX1_readLevel 95 = .ok (.goto (-61), 3) := by decide +kernel
theorem dX1_readLevel_98 : decode cX1_readLevel 98 = .ok (.return_, 1) := by decide +kernel
theorem dX1_levelOf_0 : decode cX1_levelOf 0 = .ok (.iload_n 0, 1) := by decide +kernel
theorem dX1_levelOf_1 : decode cX1_levelOf 1 = .ok (.lookupswitch 101 #[(37, 99), (38, 93), (42, 99), (43, 97), (45, 97), (47, 99), (60, 95), (61, 95), (62, 95), (124, 91)], 91) := by decide +kernel
theorem dX1_levelOf_92 : decode cX1_levelOf 92 = .ok (.iconst 0, 1) := by decide +kernel
theorem dX1_levelOf_93 : decode cX1_levelOf 93 = .ok (.ireturn, 1) := by decide +kernel
theorem dX1_levelOf_94 : decode cX1_levelOf 94 = .ok (.iconst 1, 1) := by decide +kernel
theorem dX1_levelOf_95 : decode cX1_levelOf 95 = .ok (.ireturn, 1) := by decide +kernel
theorem dX1_levelOf_96 : decode cX1_levelOf 96 = .ok (.iconst 2, 1) := by decide +kernel
theorem dX1_levelOf_97 : decode cX1_levelOf 97 = .ok (.ireturn, 1) := by decide +kernel
theorem dX1_levelOf_98 : decode cX1_levelOf 98 = .ok (.iconst 3, 1) := by decide +kernel
theorem dX1_levelOf_99 : decode cX1_levelOf 99 = .ok (.ireturn, 1) := by decide +kernel
theorem dX1_levelOf_100 : decode cX1_levelOf 100 = .ok (.iconst 4, 1) := by decide +kernel
theorem dX1_levelOf_101 : decode cX1_levelOf 101 = .ok (.ireturn, 1) := by decide +kernel
theorem dX1_levelOf_102 : decode cX1_levelOf 102 = .ok (.iconst 5, 1) := by decide +kernel
theorem dX1_levelOf_103 : decode cX1_levelOf 103 = .ok (.ireturn, 1) := by decide +kernel
theorem dX1_readOperand_0 : decode cX1_readOperand 0 = .ok (.aload_n 0, 1) := by decide +kernel
theorem dX1_readOperand_1 : decode cX1_readOperand 1 = .ok (.invokevirtual 64, 3) := by decide +kernel
theorem dX1_readOperand_4 : decode cX1_readOperand 4 = .ok (.istore_n 2, 1) := by decide +kernel
theorem dX1_readOperand_5 : decode cX1_readOperand 5 = .ok (.iload_n 2, 1) := by decide +kernel
theorem dX1_readOperand_6 : decode cX1_readOperand 6 = .ok (.invokestatic 75, 3) := by decide +kernel
theorem dX1_readOperand_9 : decode cX1_readOperand 9 = .ok (.ifCond .eq 10, 3) := by decide +kernel
theorem dX1_readOperand_12 : decode cX1_readOperand 12 = .ok (.aload_n 0, 1) := by decide +kernel
theorem dX1_readOperand_13 : decode cX1_readOperand 13 = .ok (.invokevirtual 79, 3) := by decide +kernel
theorem dX1_readOperand_16 : decode cX1_readOperand 16 = .ok (.goto 46, 3) := by decide +kernel
theorem dX1_readOperand_19 : decode cX1_readOperand 19 = .ok (.iload_n 2, 1) := by decide +kernel
theorem dX1_readOperand_20 : decode cX1_readOperand 20 = .ok (.bipush 33, 2) := by decide +kernel
theorem dX1_readOperand_22 : decode cX1_readOperand 22 = .ok (.if_icmp .eq 9, 3) := by decide +kernel
theorem dX1_readOperand_25 : decode cX1_readOperand 25 = .ok (.iload_n 2, 1) := by decide +kernel
theorem dX1_readOperand_26 : decode cX1_readOperand 26 = .ok (.bipush 40, 2) := by decide +kernel
theorem dX1_readOperand_28 : decode cX1_readOperand 28 = .ok (.if_icmp .ne 29, 3) := by decide +kernel
theorem dX1_readOperand_31 : decode cX1_readOperand 31 = .ok (.iload_n 1, 1) := by decide +kernel
theorem dX1_readOperand_32 : decode cX1_readOperand 32 = .ok (.iconst 5, 1) := by decide +kernel
theorem dX1_readOperand_33 : decode cX1_readOperand 33 = .ok (.if_icmp .ge 24, 3) := by decide +kernel
theorem dX1_readOperand_36 : decode cX1_readOperand 36 = .ok (.aload_n 0, 1) := by decide +kernel
theorem dX1_readOperand_37 : decode cX1_readOperand 37 = .ok (.dup, 1) := by decide +kernel
theorem dX1_readOperand_38 : decode cX1_readOperand 38 = .ok (.getfield 44, 3) := by decide +kernel
theorem dX1_readOperand_41 : decode cX1_readOperand 41 = .ok (.iconst 1, 1) := by decide +kernel
theorem dX1_readOperand_42 : decode cX1_readOperand 42 = .ok (.iadd, 1) := by decide +kernel
theorem dX1_readOperand_43 : decode cX1_readOperand 43 = .ok (.putfield 44, 3) := by decide +kernel
theorem dX1_readOperand_46 : decode cX1_readOperand 46 = .ok (.aload_n 0, 1) := by decide +kernel
theorem dX1_readOperand_47 : decode cX1_readOperand 47 = .ok (.iload_n 2, 1) := by decide +kernel
theorem dX1_readOperand_48 : decode cX1_readOperand 48 = .ok (.iload_n 1, 1) := by decide +kernel
theorem dX1_readOperand_49 : decode cX1_readOperand 49 = .ok (.iconst 1, 1) := by decide +kernel
theorem dX1_readOperand_50 : decode cX1_readOperand 50 = .ok (.iadd, 1) := by decide +kernel
theorem dX1_readOperand_51 : decode cX1_readOperand 51 = .ok (.invokevirtual 82, 3) := by decide +kernel
theorem dX1_readOperand_54 : decode cX1_readOperand 54 = .ok (.goto 8, 3) := by decide +kernel
theorem dX1_readOperand_57 : decode cX1_readOperand 57 = .ok (.aload_n 0, 1) := by decide +kernel
theorem dX1_readOperand_58 : decode cX1_readOperand 58 = .ok (.iload_n 2, 1) := by decide +kernel
theorem dX1_readOperand_59 : decode cX1_readOperand 59 = .ok (.invokevirtual 85, 3) := by decide +kernel
theorem dX1_readOperand_62 : decode cX1_readOperand 62 = .ok (.return_, 1) := by decide +kernel
theorem dX1_readOpened_0 : decode cX1_readOpened 0 = .ok (.iload_n 1, 1) := by decide +kernel
theorem dX1_readOpened_1 : decode cX1_readOpened 1 = .ok (.bipush 33, 2) := by decide +kernel
theorem dX1_readOpened_3 : decode cX1_readOpened 3 = .ok (.if_icmp .ne 18, 3) := by decide +kernel
theorem dX1_readOpened_6 : decode cX1_readOpened 6 = .ok (.aload_n 0, 1) := by decide +kernel
theorem dX1_readOpened_7 : decode cX1_readOpened 7 = .ok (.iload_n 2, 1) := by decide +kernel
theorem dX1_readOpened_8 : decode cX1_readOpened 8 = .ok (.invokevirtual 60, 3) := by decide +kernel
theorem dX1_readOpened_11 : decode cX1_readOpened 11 = .ok (.aload_n 0, 1) := by decide +kernel
theorem dX1_readOpened_12 : decode cX1_readOpened 12 = .ok (.getfield 12, 3) := by decide +kernel
theorem dX1_readOpened_15 : decode cX1_readOpened 15 = .ok (.bipush (-33), 2) := by decide +kernel
theorem dX1_readOpened_17 : decode cX1_readOpened 17 = .ok (.invokevirtual 72, 3) := by decide +kernel
theorem dX1_readOpened_20 : decode cX1_readOpened 20 = .ok (.return_, 1) := by decide +kernel
theorem dX1_readOpened_21 : decode cX1_readOpened 21 = .ok (.aload_n 0, 1) := by decide +kernel
theorem dX1_readOpened_22 : decode cX1_readOpened 22 = .ok (.iconst 0, 1) := by decide +kernel
theorem dX1_readOpened_23 : decode cX1_readOpened 23 = .ok (.iload_n 2, 1) := by decide +kernel
theorem dX1_readOpened_24 : decode cX1_readOpened 24 = .ok (.invokevirtual 56, 3) := by decide +kernel
theorem dX1_readOpened_27 : decode cX1_readOpened 27 = .ok (.aload_n 0, 1) := by decide +kernel
theorem dX1_readOpened_28 : decode cX1_readOpened 28 = .ok (.getfield 47, 3) := by decide +kernel
theorem dX1_readOpened_31 : decode cX1_readOpened 31 = .ok (.ifCond .ne 12, 3) := by decide +kernel
theorem dX1_readOpened_34 : decode cX1_readOpened 34 = .ok (.aload_n 0, 1) := by decide +kernel
theorem dX1_readOpened_35 : decode cX1_readOpened 35 = .ok (.invokevirtual 64, 3) := by decide +kernel
theorem dX1_readOpened_38 : decode cX1_readOpened 38 = .ok (.bipush 41, 2) := by decide +kernel
theorem dX1_readOpened_40 : decode cX1_readOpened 40 = .ok (.if_icmp .eq 9, 3) := by decide +kernel
theorem dX1_readOpened_43 : decode cX1_readOpened 43 = .ok (.aload_n 0, 1) := by decide +kernel
theorem dX1_readOpened_44 : decode cX1_readOpened 44 = .ok (.iconst 1, 1) := by decide +kernel
theorem dX1_readOpened_45 : decode cX1_readOpened 45 = .ok (.putfield 47, 3) := by decide +kernel
theorem dX1_readOpened_48 : decode cX1_readOpened 48 = .ok (.return_, 1) := by decide +kernel
theorem dX1_readOpened_49 : decode cX1_readOpened 49 = .ok (.aload_n 0, 1) := by decide +kernel
theorem dX1_readOpened_50 : decode cX1_readOpened 50 = .ok (.dup, 1) := by decide +kernel
theorem dX1_readOpened_51 : decode cX1_readOpened 51 = .ok (.getfield 44, 3) := by decide +kernel
theorem dX1_readOpened_54 : decode cX1_readOpened 54 = .ok (.iconst 1, 1) := by decide +kernel
theorem dX1_readOpened_55 : decode cX1_readOpened 55 = .ok (.iadd, 1) := by decide +kernel
theorem dX1_readOpened_56 : decode cX1_readOpened 56 = .ok (.putfield 44, 3) := by decide +kernel
theorem dX1_readOpened_59 : decode cX1_readOpened 59 = .ok (.return_, 1) := by decide +kernel
theorem dX1_isDigit_0 : decode cX1_isDigit 0 = .ok (.iload_n 0, 1) := by decide +kernel
theorem dX1_isDigit_1 : decode cX1_isDigit 1 = .ok (.bipush 48, 2) := by decide +kernel
theorem dX1_isDigit_3 : decode cX1_isDigit 3 = .ok (.if_icmp .lt 13, 3) := by decide +kernel
theorem dX1_isDigit_6 : decode cX1_isDigit 6 = .ok (.iload_n 0, 1) := by decide +kernel
theorem dX1_isDigit_7 : decode cX1_isDigit 7 = .ok (.bipush 57, 2) := by decide +kernel
theorem dX1_isDigit_9 : decode cX1_isDigit 9 = .ok (.if_icmp .gt 7, 3) := by decide +kernel
theorem dX1_isDigit_12 : decode cX1_isDigit 12 = .ok (.iconst 1, 1) := by decide +kernel
theorem dX1_isDigit_13 : decode cX1_isDigit 13 = .ok (.goto 4, 3) := by decide +kernel
theorem dX1_isDigit_16 : decode cX1_isDigit 16 = .ok (.iconst 0, 1) := by decide +kernel
theorem dX1_isDigit_17 : decode cX1_isDigit 17 = .ok (.ireturn, 1) := by decide +kernel
theorem dX1_readNumber_0 : decode cX1_readNumber 0 = .ok (.iconst 0, 1) := by decide +kernel
theorem dX1_readNumber_1 : decode cX1_readNumber 1 = .ok (.istore_n 1, 1) := by decide +kernel
theorem dX1_readNumber_2 : decode cX1_readNumber 2 = .ok (.iconst 0, 1) := by decide +kernel
theorem dX1_readNumber_3 : decode cX1_readNumber 3 = .ok (.istore_n 2, 1) := by decide +kernel
theorem dX1_readNumber_4 : decode cX1_readNumber 4 = .ok (.iload_n 2, 1) := by decide +kernel
theorem dX1_readNumber_5 : decode cX1_readNumber 5 = .ok (.iconst 4, 1) := by decide +kernel
theorem dX1_readNumber_6 : decode cX1_readNumber 6 = .ok (.if_icmp .ge 42, 3) := by decide +kernel
theorem dX1_readNumber_9 : decode cX1_readNumber 9 = .ok (.aload_n 0, 1) := by decide +kernel
theorem dX1_readNumber_10 : decode cX1_readNumber 10 = .ok (.invokevirtual 64, 3) := by decide +kernel
theorem dX1_readNumber_13 : decode cX1_readNumber 13 = .ok (.invokestatic 75, 3) := by decide +kernel
theorem dX1_readNumber_16 : decode cX1_readNumber 16 = .ok (.ifCond .eq 32, 3) := by decide +kernel
theorem dX1_readNumber_19 : decode cX1_readNumber 19 = .ok (.bipush 10, 2) := by decide +kernel
theorem dX1_readNumber_21 : decode cX1_readNumber 21 = .ok (.iload_n 1, 1) := by decide +kernel
theorem dX1_readNumber_22 : decode cX1_readNumber 22 = .ok (.imul, 1) := by decide +kernel
theorem dX1_readNumber_23 : decode cX1_readNumber 23 = .ok (.aload_n 0, 1) := by decide +kernel
theorem dX1_readNumber_24 : decode cX1_readNumber 24 = .ok (.invokevirtual 64, 3) := by decide +kernel
theorem dX1_readNumber_27 : decode cX1_readNumber 27 = .ok (.iadd, 1) := by decide +kernel
theorem dX1_readNumber_28 : decode cX1_readNumber 28 = .ok (.bipush 48, 2) := by decide +kernel
theorem dX1_readNumber_30 : decode cX1_readNumber 30 = .ok (.isub, 1) := by decide +kernel
theorem dX1_readNumber_31 : decode cX1_readNumber 31 = .ok (.istore_n 1, 1) := by decide +kernel
theorem dX1_readNumber_32 : decode cX1_readNumber 32 = .ok (.aload_n 0, 1) := by decide +kernel
theorem dX1_readNumber_33 : decode cX1_readNumber 33 = .ok (.dup, 1) := by decide +kernel
theorem dX1_readNumber_34 : decode cX1_readNumber 34 = .ok (.getfield 44, 3) := by decide +kernel
theorem dX1_readNumber_37 : decode cX1_readNumber 37 = .ok (.iconst 1, 1) := by decide +kernel
theorem dX1_readNumber_38 : decode cX1_readNumber 38 = .ok (.iadd, 1) := by decide +kernel
theorem dX1_readNumber_39 : decode cX1_readNumber 39 = .ok (.putfield 44, 3) := by decide +kernel
theorem dX1_readNumber_42 : decode cX1_readNumber 42 = .ok (.iinc 2 1, 3) := by decide +kernel
theorem dX1_readNumber_45 : decode cX1_readNumber 45 = .ok (.goto (-41), 3) := by decide +kernel
theorem dX1_readNumber_48 : decode cX1_readNumber 48 = .ok (.aload_n 0, 1) := by decide +kernel
theorem dX1_readNumber_49 : decode cX1_readNumber 49 = .ok (.getfield 12, 3) := by decide +kernel
theorem dX1_readNumber_52 : decode cX1_readNumber 52 = .ok (.iload_n 1, 1) := by decide +kernel
theorem dX1_readNumber_53 : decode cX1_readNumber 53 = .ok (.invokevirtual 72, 3) := by decide +kernel
theorem dX1_readNumber_56 : decode cX1_readNumber 56 = .ok (.return_, 1) := by decide +kernel
theorem dX1_readName_0 : decode cX1_readName 0 = .ok (.iload_n 1, 1) := by decide +kernel
theorem dX1_readName_1 : decode cX1_readName 1 = .ok (.iconst (-1), 1) := by decide +kernel
theorem dX1_readName_2 : decode cX1_readName 2 = .ok (.if_icmp .ne 7, 3) := by decide +kernel
theorem dX1_readName_5 : decode cX1_readName 5 = .ok (.iconst (-1), 1) := by decide +kernel
theorem dX1_readName_6 : decode cX1_readName 6 = .ok (.goto 12, 3) := by decide +kernel
theorem dX1_readName_9 : decode cX1_readName 9 = .ok (.aload_n 0, 1) := by decide +kernel
theorem dX1_readName_10 : decode cX1_readName 10 = .ok (.getfield 24, 3) := by decide +kernel
theorem dX1_readName_13 : decode cX1_readName 13 = .ok (.iload_n 1, 1) := by decide +kernel
theorem dX1_readName_14 : decode cX1_readName 14 = .ok (.i2c, 1) := by decide +kernel
theorem dX1_readName_15 : decode cX1_readName 15 = .ok (.invokevirtual 88, 3) := by decide +kernel
theorem dX1_readName_18 : decode cX1_readName 18 = .ok (.istore_n 2, 1) := by decide +kernel
theorem dX1_readName_19 : decode cX1_readName 19 = .ok (.iload_n 2, 1) := by decide +kernel
theorem dX1_readName_20 : decode cX1_readName 20 = .ok (.ifCond .ge 9, 3) := by decide +kernel
theorem dX1_readName_23 : decode cX1_readName 23 = .ok (.aload_n 0, 1) := by decide +kernel
theorem dX1_readName_24 : decode cX1_readName 24 = .ok (.iconst 1, 1) := by decide +kernel
theorem dX1_readName_25 : decode cX1_readName 25 = .ok (.putfield 47, 3) := by decide +kernel
theorem dX1_readName_28 : decode cX1_readName 28 = .ok (.return_, 1) := by decide +kernel
theorem dX1_readName_29 : decode cX1_readName 29 = .ok (.aload_n 0, 1) := by decide +kernel
theorem dX1_readName_30 : decode cX1_readName 30 = .ok (.getfield 12, 3) := by decide +kernel
theorem dX1_readName_33 : decode cX1_readName 33 = .ok (.sipush 10000, 3) := by decide +kernel
theorem dX1_readName_36 : decode cX1_readName 36 = .ok (.iload_n 2, 1) := by decide +kernel
theorem dX1_readName_37 : decode cX1_readName 37 = .ok (.iadd, 1) := by decide +kernel
theorem dX1_readName_38 : decode cX1_readName 38 = .ok (.invokevirtual 72, 3) := by decide +kernel
theorem dX1_readName_41 : decode cX1_readName 41 = .ok (.aload_n 0, 1) := by decide +kernel
theorem dX1_readName_42 : decode cX1_readName 42 = .ok (.dup, 1) := by decide +kernel
theorem dX1_readName_43 : decode cX1_readName 43 = .ok (.getfield 44, 3) := by decide +kernel
theorem dX1_readName_46 : decode cX1_readName 46 = .ok (.iconst 1, 1) := by decide +kernel
theorem dX1_readName_47 : decode cX1_readName 47 = .ok (.iadd, 1) := by decide +kernel
theorem dX1_readName_48 : decode cX1_readName 48 = .ok (.putfield 44, 3) := by decide +kernel
theorem dX1_readName_51 : decode cX1_readName 51 = .ok (.return_, 1) := by decide +kernel
theorem dX2_init_0 : decode cX2_init 0 = .ok (.aload_n 0, 1) := by decide +kernel
theorem dX2_init_1 : decode cX2_init 1 = .ok (.invokespecial 3, 3) := by decide +kernel
theorem dX2_init_4 : decode cX2_init 4 = .ok (.aload_n 0, 1) := by decide +kernel
theorem dX2_init_5 : decode cX2_init 5 = .ok (.bipush 64, 2) := by decide +kernel
theorem dX2_init_7 : decode cX2_init 7 = .ok (.newarray .int, 2) := by decide +kernel
theorem dX2_init_9 : decode cX2_init 9 = .ok (.putfield 9, 3) := by decide +kernel
theorem dX2_init_12 : decode cX2_init 12 = .ok (.aload_n 0, 1) := by decide +kernel
theorem dX2_init_13 : decode cX2_init 13 = .ok (.iconst 2, 1) := by decide +kernel
theorem dX2_init_14 : decode cX2_init 14 = .ok (.newarray .int, 2) := by decide +kernel
theorem dX2_init_16 : decode cX2_init 16 = .ok (.putfield 15, 3) := by decide +kernel
theorem dX2_init_19 : decode cX2_init 19 = .ok (.aload_n 0, 1) := by decide +kernel
theorem dX2_init_20 : decode cX2_init 20 = .ok (.iconst 5, 1) := by decide +kernel
theorem dX2_init_21 : decode cX2_init 21 = .ok (.newarray .int, 2) := by decide +kernel
theorem dX2_init_23 : decode cX2_init 23 = .ok (.putfield 18, 3) := by decide +kernel
theorem dX2_init_26 : decode cX2_init 26 = .ok (.aload_n 0, 1) := by decide +kernel
theorem dX2_init_27 : decode cX2_init 27 = .ok (.iconst 5, 1) := by decide +kernel
theorem dX2_init_28 : decode cX2_init 28 = .ok (.newarray .int, 2) := by decide +kernel
theorem dX2_init_30 : decode cX2_init 30 = .ok (.putfield 21, 3) := by decide +kernel
theorem dX2_init_33 : decode cX2_init 33 = .ok (.aload_n 0, 1) := by decide +kernel
theorem dX2_init_34 : decode cX2_init 34 = .ok (.bipush 15, 2) := by decide +kernel
theorem dX2_init_36 : decode cX2_init 36 = .ok (.newarray .int, 2) := by decide +kernel
theorem dX2_init_38 : decode cX2_init 38 = .ok (.putfield 24, 3) := by decide +kernel
theorem dX2_init_41 : decode cX2_init 41 = .ok (.aload_n 0, 1) := by decide +kernel
theorem dX2_init_42 : decode cX2_init 42 = .ok (.bipush 15, 2) := by decide +kernel
theorem dX2_init_44 : decode cX2_init 44 = .ok (.newarray .int, 2) := by decide +kernel
theorem dX2_init_46 : decode cX2_init 46 = .ok (.putfield 27, 3) := by decide +kernel
theorem dX2_init_49 : decode cX2_init 49 = .ok (.aload_n 0, 1) := by decide +kernel
theorem dX2_init_50 : decode cX2_init 50 = .ok (.bipush 15, 2) := by decide +kernel
theorem dX2_init_52 : decode cX2_init 52 = .ok (.newarray .int, 2) := by decide +kernel
theorem dX2_init_54 : decode cX2_init 54 = .ok (.putfield 30, 3) := by decide +kernel
theorem dX2_init_57 : decode cX2_init 57 = .ok (.aload_n 0, 1) := by decide +kernel
theorem dX2_init_58 : decode cX2_init 58 = .ok (.bipush 15, 2) := by decide +kernel
theorem dX2_init_60 : decode cX2_init 60 = .ok (.newarray .int, 2) := by decide +kernel
theorem dX2_init_62 : decode cX2_init 62 = .ok (.putfield 33, 3) := by decide +kernel
theorem dX2_init_65 : decode cX2_init 65 = .ok (.aload_n 0, 1) := by decide +kernel
theorem dX2_init_66 : decode cX2_init 66 = .ok (.bipush 60, 2) := by decide +kernel
theorem dX2_init_68 : decode cX2_init 68 = .ok (.newarray .int, 2) := by decide +kernel
theorem dX2_init_70 : decode cX2_init 70 = .ok (.putfield 36, 3) := by decide +kernel
theorem dX2_init_73 : decode cX2_init 73 = .ok (.aload_n 0, 1) := by decide +kernel
theorem dX2_init_74 : decode cX2_init 74 = .ok (.bipush 24, 2) := by decide +kernel
theorem dX2_init_76 : decode cX2_init 76 = .ok (.newarray .int, 2) := by decide +kernel
theorem dX2_init_78 : decode cX2_init 78 = .ok (.putfield 39, 3) := by decide +kernel
theorem dX2_init_81 : decode cX2_init 81 = .ok (.aload_n 0, 1) := by decide +kernel
theorem dX2_init_82 : decode cX2_init 82 = .ok (.new 42, 3) := by decide +kernel
theorem dX2_init_85 : decode cX2_init 85 = .ok (.dup, 1) := by decide +kernel
theorem dX2_init_86 : decode cX2_init 86 = .ok (.invokespecial 44, 3) := by decide +kernel
theorem dX2_init_89 : decode cX2_init 89 = .ok (.putfield 45, 3) := by decide +kernel
theorem dX2_init_92 : decode cX2_init 92 = .ok (.aload_n 0, 1) := by decide +kernel
theorem dX2_init_93 : decode cX2_init 93 = .ok (.new 42, 3) := by decide +kernel
theorem dX2_init_96 : decode cX2_init 96 = .ok (.dup, 1) := by decide +kernel
theorem dX2_init_97 : decode cX2_init 97 = .ok (.invokespecial 44, 3) := by decide +kernel
theorem dX2_init_100 : decode cX2_init 100 = .ok (.putfield 49, 3) := by decide +kernel
theorem dX2_init_103 : decode cX2_init 103 = .ok (.aload_n 0, 1) := by decide +kernel
theorem dX2_init_104 : decode cX2_init 104 = .ok (.iconst 1, 1) := by decide +kernel
theorem dX2_init_105 : decode cX2_init 105 = .ok (.putfield 52, 3) := by decide +kernel
theorem dX2_init_108 : decode cX2_init 108 = .ok (.return_, 1) := by decide +kernel
theorem dX2_become_0 : decode cX2_become 0 = .ok (.aload_n 1, 1) := by decide +kernel
theorem dX2_become_1 : decode cX2_become 1 = .ok (.getfield 9, 3) := by decide +kernel
theorem dX2_become_4 : decode cX2_become 4 = .ok (.iconst 0, 1) := by decide +kernel
theorem dX2_become_5 : decode cX2_become 5 = .ok (.aload_n 0, 1) := by decide +kernel
theorem dX2_become_6 : decode cX2_become 6 = .ok (.getfield 9, 3) := by decide +kernel
theorem dX2_become_9 : decode cX2_become 9 = .ok (.iconst 0, 1) := by decide +kernel
theorem dX2_become_10 : decode cX2_become 10 = .ok (.bipush 64, 2) := by decide +kernel
theorem dX2_become_12 : decode cX2_become 12 = .ok (.invokestatic 56, 3) := by decide +kernel
theorem dX2_become_15 : decode cX2_become 15 = .ok (.aload_n 1, 1) := by decide +kernel
theorem dX2_become_16 : decode cX2_become 16 = .ok (.getfield 15, 3) := by decide +kernel
theorem dX2_become_19 : decode cX2_become 19 = .ok (.iconst 0, 1) := by decide +kernel
theorem dX2_become_20 : decode cX2_become 20 = .ok (.aload_n 0, 1) := by decide +kernel
theorem dX2_become_21 : decode cX2_become 21 = .ok (.getfield 15, 3) := by decide +kernel
theorem dX2_become_24 : decode cX2_become 24 = .ok (.iconst 0, 1) := by decide +kernel
theorem dX2_become_25 : decode cX2_become 25 = .ok (.iconst 2, 1) := by decide +kernel
theorem dX2_become_26 : decode cX2_become 26 = .ok (.invokestatic 56, 3) := by decide +kernel
theorem dX2_become_29 : decode cX2_become 29 = .ok (.aload_n 1, 1) := by decide +kernel
theorem dX2_become_30 : decode cX2_become 30 = .ok (.getfield 18, 3) := by decide +kernel
theorem dX2_become_33 : decode cX2_become 33 = .ok (.iconst 0, 1) := by decide +kernel
theorem dX2_become_34 : decode cX2_become 34 = .ok (.aload_n 0, 1) := by decide +kernel
theorem dX2_become_35 : decode cX2_become 35 = .ok (.getfield 18, 3) := by decide +kernel
theorem dX2_become_38 : decode cX2_become 38 = .ok (.iconst 0, 1) := by decide +kernel
theorem dX2_become_39 : decode cX2_become 39 = .ok (.iconst 5, 1) := by decide +kernel
theorem dX2_become_40 : decode cX2_become 40 = .ok (.invokestatic 56, 3) := by decide +kernel
theorem dX2_become_43 : decode cX2_become 43 = .ok (.aload_n 1, 1) := by decide +kernel
theorem dX2_become_44 : decode cX2_become 44 = .ok (.getfield 21, 3) := by decide +kernel
theorem dX2_become_47 : decode cX2_become 47 = .ok (.iconst 0, 1) := by decide +kernel
theorem dX2_become_48 : decode cX2_become 48 = .ok (.aload_n 0, 1) := by decide +kernel
theorem dX2_become_49 : decode cX2_become 49 = .ok (.getfield 21, 3) := by decide +kernel
theorem dX2_become_52 : decode cX2_become 52 = .ok (.iconst 0, 1) := by decide +kernel
theorem dX2_become_53 : decode cX2_become 53 = .ok (.iconst 5, 1) := by decide +kernel
theorem dX2_become_54 : decode cX2_become 54 = .ok (.invokestatic 56, 3) := by decide +kernel
theorem dX2_become_57 : decode cX2_become 57 = .ok (.aload_n 1, 1) := by decide +kernel
theorem dX2_become_58 : decode cX2_become 58 = .ok (.getfield 24, 3) := by decide +kernel
theorem dX2_become_61 : decode cX2_become 61 = .ok (.iconst 0, 1) := by decide +kernel
theorem dX2_become_62 : decode cX2_become 62 = .ok (.aload_n 0, 1) := by decide +kernel
theorem dX2_become_63 : decode cX2_become 63 = .ok (.getfield 24, 3) := by decide +kernel
theorem dX2_become_66 : decode cX2_become 66 = .ok (.iconst 0, 1) := by decide +kernel
theorem dX2_become_67 : decode cX2_become 67 = .ok (.bipush 15, 2) := by decide +kernel
theorem dX2_become_69 : decode cX2_become 69 = .ok (.invokestatic 56, 3) := by decide +kernel
theorem dX2_become_72 : decode cX2_become 72 = .ok (.aload_n 1, 1) := by decide +kernel
theorem dX2_become_73 : decode cX2_become 73 = .ok (.getfield 27, 3) := by decide +kernel
theorem dX2_become_76 : decode cX2_become 76 = .ok (.iconst 0, 1) := by decide +kernel
theorem dX2_become_77 : decode cX2_become 77 = .ok (.aload_n 0, 1) := by decide +kernel
theorem dX2_become_78 : decode cX2_become 78 = .ok (.getfield 27, 3) := by decide +kernel
theorem dX2_become_81 : decode cX2_become 81 = .ok (.iconst 0, 1) := by decide +kernel
theorem dX2_become_82 : decode cX2_become 82 = .ok (.bipush 15, 2) := by decide +kernel
theorem dX2_become_84 : decode cX2_become 84 = .ok (.invokestatic 56, 3) := by decide +kernel
theorem dX2_become_87 : decode cX2_become 87 = .ok (.aload_n 1, 1) := by decide +kernel
theorem dX2_become_88 : decode cX2_become 88 = .ok (.getfield 30, 3) := by decide +kernel
theorem dX2_become_91 : decode cX2_become 91 = .ok (.iconst 0, 1) := by decide +kernel
theorem dX2_become_92 : decode cX2_become 92 = .ok (.aload_n 0, 1) := by decide +kernel
theorem dX2_become_93 : decode cX2_become 93 = .ok (.getfield 30, 3) := by decide +kernel
theorem dX2_become_96 : decode cX2_become 96 = .ok (.iconst 0, 1) := by decide +kernel
theorem dX2_become_97 : decode cX2_become 97 = .ok (.bipush 15, 2) := by decide +kernel
theorem dX2_become_99 : decode cX2_become 99 = .ok (.invokestatic 56, 3) := by decide +kernel
theorem dX2_become_102 : decode cX2_become 102 = .ok (.aload_n 1, 1) := by decide +kernel
theorem dX2_become_103 : decode cX2_become 103 = .ok (.getfield 33, 3) := by decide +kernel
theorem dX2_become_106 : decode cX2_become 106 = .ok (.iconst 0, 1) := by decide +kernel
theorem dX2_become_107 : decode cX2_become 107 = .ok (.aload_n 0, 1) := by decide +kernel
theorem dX2_become_108 : decode cX2_become 108 = .ok (.getfield 33, 3) := by decide +kernel
theorem dX2_become_111 : decode cX2_become 111 = .ok (.iconst 0, 1) := by decide +kernel
theorem dX2_become_112 : decode cX2_become 112 = .ok (.bipush 15, 2) := by decide +kernel
theorem dX2_become_114 : decode cX2_become 114 = .ok (.invokestatic 56, 3) := by decide +kernel
theorem dX2_become_117 : decode cX2_become 117 = .ok (.aload_n 1, 1) := by decide +kernel
theorem dX2_become_118 : decode cX2_become 118 = .ok (.getfield 36, 3) := by decide +kernel
theorem dX2_become_121 : decode cX2_become 121 = .ok (.iconst 0, 1) := by decide +kernel
theorem dX2_become_122 : decode cX2_become 122 = .ok (.aload_n 0, 1) := by decide +kernel
theorem dX2_become_123 : decode cX2_become 123 = .ok (.getfield 36, 3) := by decide +kernel
theorem dX2_become_126 : decode cX2_become 126 = .ok (.iconst 0, 1) := by decide +kernel
theorem dX2_become_127 : decode cX2_become 127 = .ok (.bipush 60, 2) := by decide +kernel
theorem dX2_become_129 : decode cX2_become 129 = .ok (.invokestatic 56, 3) := by decide +kernel
theorem dX2_become_132 : decode cX2_become 132 = .ok (.aload_n 1, 1) := by decide +kernel
theorem dX2_become_133 : decode cX2_become 133 = .ok (.getfield 39, 3) := by decide +kernel
theorem dX2_become_136 : decode cX2_become 136 = .ok (.iconst 0, 1) := by decide +kernel
theorem dX2_become_137 : decode cX2_become 137 = .ok (.aload_n 0, 1) := by decide +kernel
theorem dX2_become_138 : decode cX2_become 138 = .ok (.getfield 39, 3) := by decide +kernel
theorem dX2_become_141 : decode cX2_become 141 = .ok (.iconst 0, 1) := by decide +kernel
theorem dX2_become_142 : decode cX2_become 142 = .ok (.bipush 24, 2) := by decide +kernel
theorem dX2_become_144 : decode cX2_become 144 = .ok (.invokestatic 56, 3) := by decide +kernel
theorem dX2_become_147 : decode cX2_become 147 = .ok (.aload_n 0, 1) := by decide +kernel
theorem dX2_become_148 : decode cX2_become 148 = .ok (.getfield 45, 3) := by decide +kernel
theorem dX2_become_151 : decode cX2_become 151 = .ok (.aload_n 1, 1) := by decide +kernel
theorem dX2_become_152 : decode cX2_become 152 = .ok (.getfield 45, 3) := by decide +kernel
theorem dX2_become_155 : decode cX2_become 155 = .ok (.invokevirtual 62, 3) := by decide +kernel
theorem dX2_become_158 : decode cX2_become 158 = .ok (.aload_n 0, 1) := by decide +kernel
theorem dX2_become_159 : decode cX2_become 159 = .ok (.getfield 49, 3) := by decide +kernel
theorem dX2_become_162 : decode cX2_become 162 = .ok (.aload_n 1, 1) := by decide +kernel
theorem dX2_become_163 : decode cX2_become 163 = .ok (.getfield 49, 3) := by decide +kernel
theorem dX2_become_166 : decode cX2_become 166 = .ok (.invokevirtual 62, 3) := by decide +kernel
theorem dX2_become_169 : decode cX2_become 169 = .ok (.aload_n 0, 1) := by decide +kernel
theorem dX2_become_170 : decode cX2_become 170 = .ok (.aload_n 1, 1) := by decide +kernel
theorem dX2_become_171 : decode cX2_become 171 = .ok (.getfield 66, 3) := by decide +kernel
theorem dX2_become_174 : decode cX2_become 174 = .ok (.putfield 66, 3) := by decide +kernel
theorem dX2_become_177 : decode cX2_become 177 = .ok (.aload_n 0, 1) := by decide +kernel
theorem dX2_become_178 : decode cX2_become 178 = .ok (.aload_n 1, 1) := by decide +kernel
theorem dX2_become_179 : decode cX2_become 179 = .ok (.getfield 69, 3) := by decide +kernel
theorem dX2_become_182 : decode cX2_become 182 = .ok (.putfield 69, 3) := by decide +kernel
theorem dX2_become_185 : decode cX2_become 185 = .ok (.aload_n 0, 1) := by decide +kernel
theorem dX2_become_186 : decode cX2_become 186 = .ok (.aload_n 1, 1) := by decide +kernel
theorem dX2_become_187 : decode cX2_become 187 = .ok (.getfield 72, 3) := by decide +kernel
theorem dX2_become_190 : decode cX2_become 190 = .ok (.putfield 72, 3) := by decide +kernel
theorem dX2_become_193 : decode cX2_become 193 = .ok (.aload_n 0, 1) := by decide +kernel
theorem dX2_become_194 : decode cX2_become 194 = .ok (.aload_n 1, 1) := by decide +kernel
theorem dX2_become_195 : decode cX2_become 195 = .ok (.getfield 75, 3) := by decide +kernel
theorem dX2_become_198 : decode cX2_become 198 = .ok (.putfield 75, 3) := by decide +kernel
theorem dX2_become_201 : decode cX2_become 201 = .ok (.aload_n 0, 1) := by decide +kernel
theorem dX2_become_202 : decode cX2_become 202 = .ok (.aload_n 1, 1) := by decide +kernel
theorem dX2_become_203 : decode cX2_become 203 = .ok (.getfield 52, 3) := by decide +kernel
theorem dX2_become_206 : decode cX2_become 206 = .ok (.putfield 52, 3) := by decide +kernel
theorem dX2_become_209 : decode cX2_become 209 = .ok (.return_, 1) := by decide +kernel
theorem dX2_launch_0 : decode cX2_launch 0 = .ok (.aload_n 0, 1) := by decide +kernel
theorem dX2_launch_1 : decode cX2_launch 1 = .ok (.getfield 66, 3) := by decide +kernel
theorem dX2_launch_4 : decode cX2_launch 4 = .ok (.istore_n 3, 1) := by decide +kernel
theorem dX2_launch_5 : decode cX2_launch 5 = .ok (.aload_n 0, 1) := by decide +kernel
theorem dX2_launch_6 : decode cX2_launch 6 = .ok (.getfield 18, 3) := by decide +kernel
theorem dX2_launch_9 : decode cX2_launch 9 = .ok (.iload_n 3, 1) := by decide +kernel
theorem dX2_launch_10 : decode cX2_launch 10 = .ok (.iload_n 1, 1) := by decide +kernel
theorem dX2_launch_11 : decode cX2_launch 11 = .ok (.iload_n 2, 1) := by decide +kernel
theorem dX2_launch_12 : decode cX2_launch 12 = .ok (.invokestatic 78, 3) := by decide +kernel
theorem dX2_launch_15 : decode cX2_launch 15 = .ok (.iastore, 1) := by decide +kernel
theorem dX2_launch_16 : decode cX2_launch 16 = .ok (.aload_n 0, 1) := by decide +kernel
theorem dX2_launch_17 : decode cX2_launch 17 = .ok (.getfield 21, 3) := by decide +kernel
theorem dX2_launch_20 : decode cX2_launch 20 = .ok (.iload_n 3, 1) := by decide +kernel
theorem dX2_launch_21 : decode cX2_launch 21 = .ok (.iload_n 2, 1) := by decide +kernel
theorem dX2_launch_22 : decode cX2_launch 22 = .ok (.iastore, 1) := by decide +kernel
theorem dX2_launch_23 : decode cX2_launch 23 = .ok (.iconst 0, 1) := by decide +kernel
theorem dX2_launch_24 : decode cX2_launch 24 = .ok (.istore 4, 2) := by decide +kernel
theorem dX2_launch_26 : decode cX2_launch 26 = .ok (.iload 4, 2) := by decide +kernel
theorem dX2_launch_28 : decode cX2_launch 28 = .ok (.iconst 3, 1) := by decide +kernel
theorem dX2_launch_29 : decode cX2_launch 29 = .ok (.if_icmp .ge 21, 3) := by decide +kernel
theorem dX2_launch_32 : decode cX2_launch 32 = .ok (.aload_n 0, 1) := by decide +kernel
theorem dX2_launch_33 : decode cX2_launch 33 = .ok (.iconst 3, 1) := by decide +kernel
theorem dX2_launch_34 : decode cX2_launch 34 = .ok (.iload_n 3, 1) := by decide +kernel
theorem dX2_launch_35 : decode cX2_launch 35 = .ok (.imul, 1) := by decide +kernel
theorem dX2_launch_36 : decode cX2_launch 36 = .ok (.iload 4, 2) := by decide +kernel
theorem dX2_launch_38 : decode cX2_launch 38 = .ok (.iadd, 1) := by decide +kernel
theorem dX2_launch_39 : decode cX2_launch 39 = .ok (.iconst 0, 1) := by decide +kernel
theorem dX2_launch_40 : decode cX2_launch 40 = .ok (.iconst 0, 1) := by decide +kernel
theorem dX2_launch_41 : decode cX2_launch 41 = .ok (.invokevirtual 82, 3) := by decide +kernel
theorem dX2_launch_44 : decode cX2_launch 44 = .ok (.iinc 4 1, 3) := by decide +kernel
theorem dX2_launch_47 : decode cX2_launch 47 = .ok (.goto (-21), 3) := by decide +kernel
theorem dX2_launch_50 : decode cX2_launch 50 = .ok (.aload_n 0, 1) := by decide +kernel
theorem dX2_launch_51 : decode cX2_launch 51 = .ok (.dup, 1) := by decide +kernel
theorem dX2_launch_52 : decode cX2_launch 52 = .ok (.getfield 66, 3) := by decide +kernel
theorem dX2_launch_55 : decode cX2_launch 55 = .ok (.iconst 1, 1) := by decide +kernel
theorem dX2_launch_56 : decode cX2_launch 56 = .ok (.iadd, 1) := by decide +kernel
theorem dX2_launch_57 : decode cX2_launch 57 = .ok (.putfield 66, 3) := by decide +kernel
theorem dX2_launch_60 : decode cX2_launch 60 = .ok (.iload_n 3, 1) := by decide +kernel
theorem dX2_launch_61 : decode cX2_launch 61 = .ok (.ireturn, 1) := by decide +kernel
theorem dX2_tieAnew_0 : decode cX2_tieAnew 0 = .ok (.aload_n 0, 1) := by decide +kernel
theorem dX2_tieAnew_1 : decode cX2_tieAnew 1 = .ok (.getfield 24, 3) := by decide +kernel
theorem dX2_tieAnew_4 : decode cX2_tieAnew 4 = .ok (.iload_n 1, 1) := by decide +kernel
theorem dX2_tieAnew_5 : decode cX2_tieAnew 5 = .ok (.iload_n 2, 1) := by decide +kernel
theorem dX2_tieAnew_6 : decode cX2_tieAnew 6 = .ok (.bipush 10, 2) := by decide +kernel
theorem dX2_tieAnew_8 : decode cX2_tieAnew 8 = .ok (.idiv, 1) := by decide +kernel
theorem dX2_tieAnew_9 : decode cX2_tieAnew 9 = .ok (.iastore, 1) := by decide +kernel
theorem dX2_tieAnew_10 : decode cX2_tieAnew 10 = .ok (.aload_n 0, 1) := by decide +kernel
theorem dX2_tieAnew_11 : decode cX2_tieAnew 11 = .ok (.getfield 27, 3) := by decide +kernel
theorem dX2_tieAnew_14 : decode cX2_tieAnew 14 = .ok (.iload_n 1, 1) := by decide +kernel
theorem dX2_tieAnew_15 : decode cX2_tieAnew 15 = .ok (.iload_n 2, 1) := by decide +kernel
theorem dX2_tieAnew_16 : decode cX2_tieAnew 16 = .ok (.bipush 10, 2) := by decide +kernel
theorem dX2_tieAnew_18 : decode cX2_tieAnew 18 = .ok (.irem, 1) := by decide +kernel
theorem dX2_tieAnew_19 : decode cX2_tieAnew 19 = .ok (.iastore, 1) := by decide +kernel
theorem dX2_tieAnew_20 : decode cX2_tieAnew 20 = .ok (.aload_n 0, 1) := by decide +kernel
theorem dX2_tieAnew_21 : decode cX2_tieAnew 21 = .ok (.getfield 30, 3) := by decide +kernel
theorem dX2_tieAnew_24 : decode cX2_tieAnew 24 = .ok (.iload_n 1, 1) := by decide +kernel
theorem dX2_tieAnew_25 : decode cX2_tieAnew 25 = .ok (.iload_n 3, 1) := by decide +kernel
theorem dX2_tieAnew_26 : decode cX2_tieAnew 26 = .ok (.iastore, 1) := by decide +kernel
theorem dX2_tieAnew_27 : decode cX2_tieAnew 27 = .ok (.aload_n 0, 1) := by decide +kernel
theorem dX2_tieAnew_28 : decode cX2_tieAnew 28 = .ok (.getfield 33, 3) := by decide +kernel
theorem dX2_tieAnew_31 : decode cX2_tieAnew 31 = .ok (.iload_n 1, 1) := by decide +kernel
theorem dX2_tieAnew_32 : decode cX2_tieAnew 32 = .ok (.iconst (-1), 1) := by decide +kernel
theorem dX2_tieAnew_33 : decode cX2_tieAnew 33 = .ok (.iastore, 1) := by decide +kernel
theorem dX2_tieAnew_34 : decode cX2_tieAnew 34 = .ok (.return_, 1) := by decide +kernel
theorem dX2_textOf_0 : decode cX2_textOf 0 = .ok (.iload_n 1, 1) := by decide +kernel
theorem dX2_textOf_1 : decode cX2_textOf 1 = .ok (.ifCond .ne 10, 3) := by decide +kernel
theorem dX2_textOf_4 : decode cX2_textOf 4 = .ok (.aload_n 0, 1) := by decide +kernel
theorem dX2_textOf_5 : decode cX2_textOf 5 = .ok (.getfield 45, 3) := by decide +kernel
theorem dX2_textOf_8 : decode cX2_textOf 8 = .ok (.goto 7, 3) := by decide +kernel
theorem dX2_textOf_11 : decode cX2_textOf 11 = .ok (.aload_n 0, 1) := by decide +kernel
theorem dX2_textOf_12 : decode cX2_textOf 12 = .ok (.getfield 49, 3) := by decide +kernel
theorem dX2_textOf_15 : decode cX2_textOf 15 = .ok (.areturn, 1) := by decide +kernel
theorem dX2_shipFact_0 : decode cX2_shipFact 0 = .ok (.iload_n 3, 1) := by decide +kernel
theorem dX2_shipFact_1 : decode cX2_shipFact 1 = .ok (.tableswitch 54 0 3 #[31, 36, 43, 48], 31) := by decide +kernel
theorem dX2_shipFact_32 : decode cX2_shipFact 32 = .ok (.iload_n 2, 1) := by decide +kernel
theorem dX2_shipFact_33 : decode cX2_shipFact 33 = .ok (.invokestatic 86, 3) := by decide +kernel
theorem dX2_shipFact_36 : decode cX2_shipFact 36 = .ok (.ireturn, 1) := by decide +kernel
theorem dX2_shipFact_37 : decode cX2_shipFact 37 = .ok (.aload_n 0, 1) := by decide +kernel
theorem dX2_shipFact_38 : decode cX2_shipFact 38 = .ok (.getfield 21, 3) := by decide +kernel
theorem dX2_shipFact_41 : decode cX2_shipFact 41 = .ok (.iload_n 1, 1) := by decide +kernel
theorem dX2_shipFact_42 : decode cX2_shipFact 42 = .ok (.iaload, 1) := by decide +kernel
theorem dX2_shipFact_43 : decode cX2_shipFact 43 = .ok (.ireturn, 1) := by decide +kernel
theorem dX2_shipFact_44 : decode cX2_shipFact 44 = .ok (.iload_n 2, 1) := by decide +kernel
theorem dX2_shipFact_45 : decode cX2_shipFact 45 = .ok (.invokestatic 90, 3) := by decide +kernel
theorem dX2_shipFact_48 : decode cX2_shipFact 48 = .ok (.ireturn, 1) := by decide +kernel
theorem dX2_shipFact_49 : decode cX2_shipFact 49 = .ok (.aload_n 0, 1) := by decide +kernel
theorem dX2_shipFact_50 : decode cX2_shipFact 50 = .ok (.iload_n 1, 1) := by decide +kernel
theorem dX2_shipFact_51 : decode cX2_shipFact 51 = .ok (.invokevirtual 93, 3) := by decide +kernel
theorem dX2_shipFact_54 : decode cX2_shipFact 54 = .ok (.ireturn, 1) := by decide +kernel
theorem dX2_shipFact_55 : decode cX2_shipFact 55 = .ok (.aload_n 0, 1) := by decide +kernel
theorem dX2_shipFact_56 : decode cX2_shipFact 56 = .ok (.iload_n 1, 1) := by decide +kernel
theorem dX2_shipFact_57 : decode cX2_shipFact 57 = .ok (.invokevirtual 96, 3) := by decide +kernel
theorem dX2_shipFact_60 : decode cX2_shipFact 60 = .ok (.ireturn, 1) := by decide +kernel
theorem dX2_knotFact_0 : decode cX2_knotFact 0 = .ok (.aload_n 0, 1) := by decide +kernel
theorem dX2_knotFact_1 : decode cX2_knotFact 1 = .ok (.getfield 33, 3) := by decide +kernel
theorem dX2_knotFact_4 : decode cX2_knotFact 4 = .ok (.iload_n 1, 1) := by decide +kernel
theorem dX2_knotFact_5 : decode cX2_knotFact 5 = .ok (.iaload, 1) := by decide +kernel
theorem dX2_knotFact_6 : decode cX2_knotFact 6 = .ok (.iconst (-1), 1) := by decide +kernel
theorem dX2_knotFact_7 : decode cX2_knotFact 7 = .ok (.if_icmp .ne 7, 3) := by decide +kernel
theorem dX2_knotFact_10 : decode cX2_knotFact 10 = .ok (.iconst 1, 1) := by decide +kernel
theorem dX2_knotFact_11 : decode cX2_knotFact 11 = .ok (.goto 4, 3) := by decide +kernel
theorem dX2_knotFact_14 : decode cX2_knotFact 14 = .ok (.iconst 0, 1) := by decide +kernel
theorem dX2_knotFact_15 : decode cX2_knotFact 15 = .ok (.istore_n 3, 1) := by decide +kernel
theorem dX2_knotFact_16 : decode cX2_knotFact 16 = .ok (.iload_n 2, 1) := by decide +kernel
theorem dX2_knotFact_17 : decode cX2_knotFact 17 = .ok (.tableswitch 88 0 4 #[35, 42, 49, 56, 63], 35) := by decide +kernel
theorem dX2_knotFact_52 : decode cX2_knotFact 52 = .ok (.aload_n 0, 1) := by decide +kernel
theorem dX2_knotFact_53 : decode cX2_knotFact 53 = .ok (.getfield 24, 3) := by decide +kernel
theorem dX2_knotFact_56 : decode cX2_knotFact 56 = .ok (.iload_n 1, 1) := by decide +kernel
theorem dX2_knotFact_57 : decode cX2_knotFact 57 = .ok (.iaload, 1) := by decide +kernel
theorem dX2_knotFact_58 : decode cX2_knotFact 58 = .ok (.ireturn, 1) := by decide +kernel
theorem dX2_knotFact_59 : decode cX2_knotFact 59 = .ok (.aload_n 0, 1) := by decide +kernel
theorem dX2_knotFact_60 : decode cX2_knotFact 60 = .ok (.getfield 27, 3) := by decide +kernel
theorem dX2_knotFact_63 : decode cX2_knotFact 63 = .ok (.iload_n 1, 1) := by decide +kernel
theorem dX2_knotFact_64 : decode cX2_knotFact 64 = .ok (.iaload, 1) := by decide +kernel
theorem dX2_knotFact_65 : decode cX2_knotFact 65 = .ok (.ireturn, 1) := by decide +kernel
theorem dX2_knotFact_66 : decode cX2_knotFact 66 = .ok (.aload_n 0, 1) := by decide +kernel
theorem dX2_knotFact_67 : decode cX2_knotFact 67 = .ok (.getfield 30, 3) := by decide +kernel
theorem dX2_knotFact_70 : decode cX2_knotFact 70 = .ok (.iload_n 1, 1) := by decide +kernel
theorem dX2_knotFact_71 : decode cX2_knotFact 71 = .ok (.iaload, 1) := by decide +kernel
theorem dX2_knotFact_72 : decode cX2_knotFact 72 = .ok (.ireturn, 1) := by decide +kernel
theorem dX2_knotFact_73 : decode cX2_knotFact 73 = .ok (.aload_n 0, 1) := by decide +kernel
theorem dX2_knotFact_74 : decode cX2_knotFact 74 = .ok (.getfield 33, 3) := by decide +kernel
theorem dX2_knotFact_77 : decode cX2_knotFact 77 = .ok (.iload_n 1, 1) := by decide +kernel
theorem dX2_knotFact_78 : decode cX2_knotFact 78 = .ok (.iaload, 1) := by decide +kernel
theorem dX2_knotFact_79 : decode cX2_knotFact 79 = .ok (.ireturn, 1) := by decide +kernel
theorem dX2_knotFact_80 : decode cX2_knotFact 80 = .ok (.iload_n 3, 1) := by decide +kernel
theorem dX2_knotFact_81 : decode cX2_knotFact 81 = .ok (.ifCond .eq 7, 3) := by decide +kernel
theorem dX2_knotFact_84 : decode cX2_knotFact 84 = .ok (.iconst 0, 1) := by decide +kernel
theorem dX2_knotFact_85 : decode cX2_knotFact 85 = .ok (.goto 19, 3) := by decide +kernel
theorem dX2_knotFact_88 : decode cX2_knotFact 88 = .ok (.aload_n 0, 1) := by decide +kernel
theorem dX2_knotFact_89 : decode cX2_knotFact 89 = .ok (.iload_n 1, 1) := by decide +kernel
theorem dX2_knotFact_90 : decode cX2_knotFact 90 = .ok (.aload_n 0, 1) := by decide +kernel
theorem dX2_knotFact_91 : decode cX2_knotFact 91 = .ok (.getfield 69, 3) := by decide +kernel
theorem dX2_knotFact_94 : decode cX2_knotFact 94 = .ok (.aload_n 0, 1) := by decide +kernel
theorem dX2_knotFact_95 : decode cX2_knotFact 95 = .ok (.getfield 33, 3) := by decide +kernel
theorem dX2_knotFact_98 : decode cX2_knotFact 98 = .ok (.iload_n 1, 1) := by decide +kernel
theorem dX2_knotFact_99 : decode cX2_knotFact 99 = .ok (.iaload, 1) := by decide +kernel
theorem dX2_knotFact_100 : decode cX2_knotFact 100 = .ok (.isub, 1) := by decide +kernel
theorem dX2_knotFact_101 : decode cX2_knotFact 101 = .ok (.invokevirtual 99, 3) := by decide +kernel
theorem dX2_knotFact_104 : decode cX2_knotFact 104 = .ok (.ireturn, 1) := by decide +kernel
theorem dX2_knotFact_105 : decode cX2_knotFact 105 = .ok (.iload_n 3, 1) := by decide +kernel
theorem dX2_knotFact_106 : decode cX2_knotFact 106 = .ok (.ifCond .eq 11, 3) := by decide +kernel
theorem dX2_knotFact_109 : decode cX2_knotFact 109 = .ok (.aload_n 0, 1) := by decide +kernel
theorem dX2_knotFact_110 : decode cX2_knotFact 110 = .ok (.iload_n 1, 1) := by decide +kernel
theorem dX2_knotFact_111 : decode cX2_knotFact 111 = .ok (.invokevirtual 102, 3) := by decide +kernel
theorem dX2_knotFact_114 : decode cX2_knotFact 114 = .ok (.goto 4, 3) := by decide +kernel
theorem dX2_knotFact_117 : decode cX2_knotFact 117 = .ok (.iconst 0, 1) := by decide +kernel
theorem dX2_knotFact_118 : decode cX2_knotFact 118 = .ok (.ireturn, 1) := by decide +kernel
theorem dX2_tally_0 : decode cX2_tally 0 = .ok (.iload_n 1, 1) := by decide +kernel
theorem dX2_tally_1 : decode cX2_tally 1 = .ok (.tableswitch 124 0 10 #[59, 64, 69, 85, 91, 97, 102, 107, 124, 112, 117], 59) := by decide +kernel
theorem dX2_tally_60 : decode cX2_tally 60 = .ok (.aload_n 0, 1) := by decide +kernel
theorem dX2_tally_61 : decode cX2_tally 61 = .ok (.getfield 66, 3) := by decide +kernel
theorem dX2_tally_64 : decode cX2_tally 64 = .ok (.ireturn, 1) := by decide +kernel
theorem dX2_tally_65 : decode cX2_tally 65 = .ok (.aload_n 0, 1) := by decide +kernel
theorem dX2_tally_66 : decode cX2_tally 66 = .ok (.getfield 69, 3) := by decide +kernel
theorem dX2_tally_69 : decode cX2_tally 69 = .ok (.ireturn, 1) := by decide +kernel
theorem dX2_tally_70 : decode cX2_tally 70 = .ok (.aload_n 0, 1) := by decide +kernel
theorem dX2_tally_71 : decode cX2_tally 71 = .ok (.getfield 69, 3) := by decide +kernel
theorem dX2_tally_74 : decode cX2_tally 74 = .ok (.invokestatic 105, 3) := by decide +kernel
theorem dX2_tally_77 : decode cX2_tally 77 = .ok (.ifCond .eq 7, 3) := by decide +kernel
theorem dX2_tally_80 : decode cX2_tally 80 = .ok (.iconst 1, 1) := by decide +kernel
theorem dX2_tally_81 : decode cX2_tally 81 = .ok (.goto 4, 3) := by decide +kernel
theorem dX2_tally_84 : decode cX2_tally 84 = .ok (.iconst 0, 1) := by decide +kernel
theorem dX2_tally_85 : decode cX2_tally 85 = .ok (.ireturn, 1) := by decide +kernel
theorem dX2_tally_86 : decode cX2_tally 86 = .ok (.aload_n 0, 1) := by decide +kernel
theorem dX2_tally_87 : decode cX2_tally 87 = .ok (.iconst 2, 1) := by decide +kernel
theorem dX2_tally_88 : decode cX2_tally 88 = .ok (.invokevirtual 109, 3) := by decide +kernel
theorem dX2_tally_91 : decode cX2_tally 91 = .ok (.ireturn, 1) := by decide +kernel
theorem dX2_tally_92 : decode cX2_tally 92 = .ok (.aload_n 0, 1) := by decide +kernel
theorem dX2_tally_93 : decode cX2_tally 93 = .ok (.iconst 1, 1) := by decide +kernel
theorem dX2_tally_94 : decode cX2_tally 94 = .ok (.invokevirtual 109, 3) := by decide +kernel
theorem dX2_tally_97 : decode cX2_tally 97 = .ok (.ireturn, 1) := by decide +kernel
theorem dX2_tally_98 : decode cX2_tally 98 = .ok (.aload_n 0, 1) := by decide +kernel
theorem dX2_tally_99 : decode cX2_tally 99 = .ok (.invokevirtual 112, 3) := by decide +kernel
theorem dX2_tally_102 : decode cX2_tally 102 = .ok (.ireturn, 1) := by decide +kernel
theorem dX2_tally_103 : decode cX2_tally 103 = .ok (.aload_n 0, 1) := by decide +kernel
theorem dX2_tally_104 : decode cX2_tally 104 = .ok (.getfield 72, 3) := by decide +kernel
theorem dX2_tally_107 : decode cX2_tally 107 = .ok (.ireturn, 1) := by decide +kernel
theorem dX2_tally_108 : decode cX2_tally 108 = .ok (.aload_n 0, 1) := by decide +kernel
theorem dX2_tally_109 : decode cX2_tally 109 = .ok (.getfield 75, 3) := by decide +kernel
theorem dX2_tally_112 : decode cX2_tally 112 = .ok (.ireturn, 1) := by decide +kernel
theorem dX2_tally_113 : decode cX2_tally 113 = .ok (.aload_n 0, 1) := by decide +kernel
theorem dX2_tally_114 : decode cX2_tally 114 = .ok (.getfield 52, 3) := by decide +kernel
theorem dX2_tally_117 : decode cX2_tally 117 = .ok (.ireturn, 1) := by decide +kernel
theorem dX2_tally_118 : decode cX2_tally 118 = .ok (.aload_n 0, 1) := by decide +kernel
theorem dX2_tally_119 : decode cX2_tally 119 = .ok (.getfield 15, 3) := by decide +kernel
theorem dX2_tally_122 : decode cX2_tally 122 = .ok (.iconst 0, 1) := by decide +kernel
theorem dX2_tally_123 : decode cX2_tally 123 = .ok (.iaload, 1) := by decide +kernel
theorem dX2_tally_124 : decode cX2_tally 124 = .ok (.ireturn, 1) := by decide +kernel
theorem dX2_tally_125 : decode cX2_tally 125 = .ok (.aload_n 0, 1) := by decide +kernel
theorem dX2_tally_126 : decode cX2_tally 126 = .ok (.getfield 15, 3) := by decide +kernel
theorem dX2_tally_129 : decode cX2_tally 129 = .ok (.iconst 1, 1) := by decide +kernel
theorem dX2_tally_130 : decode cX2_tally 130 = .ok (.iaload, 1) := by decide +kernel
theorem dX2_tally_131 : decode cX2_tally 131 = .ok (.ireturn, 1) := by decide +kernel
theorem dX2_tiedOf_0 : decode cX2_tiedOf 0 = .ok (.iconst 0, 1) := by decide +kernel
theorem dX2_tiedOf_1 : decode cX2_tiedOf 1 = .ok (.istore_n 2, 1) := by decide +kernel
theorem dX2_tiedOf_2 : decode cX2_tiedOf 2 = .ok (.iconst 0, 1) := by decide +kernel
theorem dX2_tiedOf_3 : decode cX2_tiedOf 3 = .ok (.istore_n 3, 1) := by decide +kernel
theorem dX2_tiedOf_4 : decode cX2_tiedOf 4 = .ok (.iload_n 3, 1) := by decide +kernel
theorem dX2_tiedOf_5 : decode cX2_tiedOf 5 = .ok (.iconst 3, 1) := by decide +kernel
theorem dX2_tiedOf_6 : decode cX2_tiedOf 6 = .ok (.if_icmp .ge 26, 3) := by decide +kernel
theorem dX2_tiedOf_9 : decode cX2_tiedOf 9 = .ok (.aload_n 0, 1) := by decide +kernel
theorem dX2_tiedOf_10 : decode cX2_tiedOf 10 = .ok (.getfield 33, 3) := by decide +kernel
theorem dX2_tiedOf_13 : decode cX2_tiedOf 13 = .ok (.iconst 3, 1) := by decide +kernel
theorem dX2_tiedOf_14 : decode cX2_tiedOf 14 = .ok (.iload_n 1, 1) := by decide +kernel
theorem dX2_tiedOf_15 : decode cX2_tiedOf 15 = .ok (.imul, 1) := by decide +kernel
theorem dX2_tiedOf_16 : decode cX2_tiedOf 16 = .ok (.iload_n 3, 1) := by decide +kernel
theorem dX2_tiedOf_17 : decode cX2_tiedOf 17 = .ok (.iadd, 1) := by decide +kernel
theorem dX2_tiedOf_18 : decode cX2_tiedOf 18 = .ok (.iaload, 1) := by decide +kernel
theorem dX2_tiedOf_19 : decode cX2_tiedOf 19 = .ok (.iconst (-1), 1) := by decide +kernel
theorem dX2_tiedOf_20 : decode cX2_tiedOf 20 = .ok (.if_icmp .ne 6, 3) := by decide +kernel
theorem dX2_tiedOf_23 : decode cX2_tiedOf 23 = .ok (.iinc 2 1, 3) := by decide +kernel
theorem dX2_tiedOf_26 : decode cX2_tiedOf 26 = .ok (.iinc 3 1, 3) := by decide +kernel
theorem dX2_tiedOf_29 : decode cX2_tiedOf 29 = .ok (.goto (-25), 3) := by decide +kernel
theorem dX2_tiedOf_32 : decode cX2_tiedOf 32 = .ok (.iload_n 2, 1) := by decide +kernel
theorem dX2_tiedOf_33 : decode cX2_tiedOf 33 = .ok (.ireturn, 1) := by decide +kernel
theorem dX2_tiedOfAll_0 : decode cX2_tiedOfAll 0 = .ok (.iconst 0, 1) := by decide +kernel
theorem dX2_tiedOfAll_1 : decode cX2_tiedOfAll 1 = .ok (.istore_n 1, 1) := by decide +kernel
theorem dX2_tiedOfAll_2 : decode cX2_tiedOfAll 2 = .ok (.iconst 0, 1) := by decide +kernel
theorem dX2_tiedOfAll_3 : decode cX2_tiedOfAll 3 = .ok (.istore_n 2, 1) := by decide +kernel
theorem dX2_tiedOfAll_4 : decode cX2_tiedOfAll 4 = .ok (.iload_n 2, 1) := by decide +kernel
theorem dX2_tiedOfAll_5 : decode cX2_tiedOfAll 5 = .ok (.aload_n 0, 1) := by decide +kernel
theorem dX2_tiedOfAll_6 : decode cX2_tiedOfAll 6 = .ok (.getfield 66, 3) := by decide +kernel
theorem dX2_tiedOfAll_9 : decode cX2_tiedOfAll 9 = .ok (.if_icmp .ge 17, 3) := by decide +kernel
theorem dX2_tiedOfAll_12 : decode cX2_tiedOfAll 12 = .ok (.iload_n 1, 1) := by decide +kernel
theorem dX2_tiedOfAll_13 : decode cX2_tiedOfAll 13 = .ok (.aload_n 0, 1) := by decide +kernel
theorem dX2_tiedOfAll_14 : decode cX2_tiedOfAll 14 = .ok (.iload_n 2, 1) := by decide +kernel
theorem dX2_tiedOfAll_15 : decode cX2_tiedOfAll 15 = .ok (.invokevirtual 93, 3) := by decide +kernel
theorem dX2_tiedOfAll_18 : decode cX2_tiedOfAll 18 = .ok (.iadd, 1) := by decide +kernel
theorem dX2_tiedOfAll_19 : decode cX2_tiedOfAll 19 = .ok (.istore_n 1, 1) := by decide +kernel
theorem dX2_tiedOfAll_20 : decode cX2_tiedOfAll 20 = .ok (.iinc 2 1, 3) := by decide +kernel
theorem dX2_tiedOfAll_23 : decode cX2_tiedOfAll 23 = .ok (.goto (-19), 3) := by decide +kernel
theorem dX2_tiedOfAll_26 : decode cX2_tiedOfAll 26 = .ok (.iload_n 1, 1) := by decide +kernel
theorem dX2_tiedOfAll_27 : decode cX2_tiedOfAll 27 = .ok (.ireturn, 1) := by decide +kernel
theorem dX2_shipsThatAre_0 : decode cX2_shipsThatAre 0 = .ok (.iconst 0, 1) := by decide +kernel
theorem dX2_shipsThatAre_1 : decode cX2_shipsThatAre 1 = .ok (.istore_n 2, 1) := by decide +kernel
theorem dX2_shipsThatAre_2 : decode cX2_shipsThatAre 2 = .ok (.iconst 0, 1) := by decide +kernel
theorem dX2_shipsThatAre_3 : decode cX2_shipsThatAre 3 = .ok (.istore_n 3, 1) := by decide +kernel
theorem dX2_shipsThatAre_4 : decode cX2_shipsThatAre 4 = .ok (.iload_n 3, 1) := by decide +kernel
theorem dX2_shipsThatAre_5 : decode cX2_shipsThatAre 5 = .ok (.aload_n 0, 1) := by decide +kernel
theorem dX2_shipsThatAre_6 : decode cX2_shipsThatAre 6 = .ok (.getfield 66, 3) := by decide +kernel
theorem dX2_shipsThatAre_9 : decode cX2_shipsThatAre 9 = .ok (.if_icmp .ge 25, 3) := by decide +kernel
theorem dX2_shipsThatAre_12 : decode cX2_shipsThatAre 12 = .ok (.aload_n 0, 1) := by decide +kernel
theorem dX2_shipsThatAre_13 : decode cX2_shipsThatAre 13 = .ok (.getfield 18, 3) := by decide +kernel
theorem dX2_shipsThatAre_16 : decode cX2_shipsThatAre 16 = .ok (.iload_n 3, 1) := by decide +kernel
theorem dX2_shipsThatAre_17 : decode cX2_shipsThatAre 17 = .ok (.iaload, 1) := by decide +kernel
theorem dX2_shipsThatAre_18 : decode cX2_shipsThatAre 18 = .ok (.invokestatic 90, 3) := by decide +kernel
theorem dX2_shipsThatAre_21 : decode cX2_shipsThatAre 21 = .ok (.iload_n 1, 1) := by decide +kernel
theorem dX2_shipsThatAre_22 : decode cX2_shipsThatAre 22 = .ok (.if_icmp .ne 6, 3) := by decide +kernel
theorem dX2_shipsThatAre_25 : decode cX2_shipsThatAre 25 = .ok (.iinc 2 1, 3) := by decide +kernel
theorem dX2_shipsThatAre_28 : decode cX2_shipsThatAre 28 = .ok (.iinc 3 1, 3) := by decide +kernel
theorem dX2_shipsThatAre_31 : decode cX2_shipsThatAre 31 = .ok (.goto (-27), 3) := by decide +kernel
theorem dX2_shipsThatAre_34 : decode cX2_shipsThatAre 34 = .ok (.iload_n 2, 1) := by decide +kernel
theorem dX2_shipsThatAre_35 : decode cX2_shipsThatAre 35 = .ok (.ireturn, 1) := by decide +kernel
theorem dX2_priceOf_0 : decode cX2_priceOf 0 = .ok (.aload_n 0, 1) := by decide +kernel
theorem dX2_priceOf_1 : decode cX2_priceOf 1 = .ok (.getfield 27, 3) := by decide +kernel
theorem dX2_priceOf_4 : decode cX2_priceOf 4 = .ok (.iload_n 1, 1) := by decide +kernel
theorem dX2_priceOf_5 : decode cX2_priceOf 5 = .ok (.iaload, 1) := by decide +kernel
theorem dX2_priceOf_6 : decode cX2_priceOf 6 = .ok (.istore_n 2, 1) := by decide +kernel
theorem dX2_priceOf_7 : decode cX2_priceOf 7 = .ok (.aload_n 0, 1) := by decide +kernel
theorem dX2_priceOf_8 : decode cX2_priceOf 8 = .ok (.iload_n 1, 1) := by decide +kernel
theorem dX2_priceOf_9 : decode cX2_priceOf 9 = .ok (.iconst 3, 1) := by decide +kernel
theorem dX2_priceOf_10 : decode cX2_priceOf 10 = .ok (.idiv, 1) := by decide +kernel
theorem dX2_priceOf_11 : decode cX2_priceOf 11 = .ok (.invokevirtual 93, 3) := by decide +kernel
theorem dX2_priceOf_14 : decode cX2_priceOf 14 = .ok (.istore_n 3, 1) := by decide +kernel
theorem dX2_priceOf_15 : decode cX2_priceOf 15 = .ok (.aload_n 0, 1) := by decide +kernel
theorem dX2_priceOf_16 : decode cX2_priceOf 16 = .ok (.getfield 49, 3) := by decide +kernel
theorem dX2_priceOf_19 : decode cX2_priceOf 19 = .ok (.invokevirtual 116, 3) := by decide +kernel
theorem dX2_priceOf_22 : decode cX2_priceOf 22 = .ok (.ifCond .eq 21, 3) := by decide +kernel
theorem dX2_priceOf_25 : decode cX2_priceOf 25 = .ok (.aload_n 0, 1) := by decide +kernel
theorem dX2_priceOf_26 : decode cX2_priceOf 26 = .ok (.getfield 49, 3) := by decide +kernel
theorem dX2_priceOf_29 : decode cX2_priceOf 29 = .ok (.aload_n 0, 1) := by decide +kernel
theorem dX2_priceOf_30 : decode cX2_priceOf 30 = .ok (.getfield 24, 3) := by decide +kernel
theorem dX2_priceOf_33 : decode cX2_priceOf 33 = .ok (.iload_n 1, 1) := by decide +kernel
theorem dX2_priceOf_34 : decode cX2_priceOf 34 = .ok (.iaload, 1) := by decide +kernel
theorem dX2_priceOf_35 : decode cX2_priceOf 35 = .ok (.iload_n 2, 1) := by decide +kernel
theorem dX2_priceOf_36 : decode cX2_priceOf 36 = .ok (.iload_n 3, 1) := by decide +kernel
theorem dX2_priceOf_37 : decode cX2_priceOf 37 = .ok (.invokevirtual 120, 3) := by decide +kernel
theorem dX2_priceOf_40 : decode cX2_priceOf 40 = .ok (.goto 6, 3) := by decide +kernel
theorem dX2_priceOf_43 : decode cX2_priceOf 43 = .ok (.iload_n 2, 1) := by decide +kernel
theorem dX2_priceOf_44 : decode cX2_priceOf 44 = .ok (.iload_n 3, 1) := by decide +kernel
theorem dX2_priceOf_45 : decode cX2_priceOf 45 = .ok (.imul, 1) := by decide +kernel
theorem dX2_priceOf_46 : decode cX2_priceOf 46 = .ok (.istore 4, 2) := by decide +kernel
theorem dX2_priceOf_48 : decode cX2_priceOf 48 = .ok (.iload 4, 2) := by decide +kernel
theorem dX2_priceOf_50 : decode cX2_priceOf 50 = .ok (.iconst 0, 1) := by decide +kernel
theorem dX2_priceOf_51 : decode cX2_priceOf 51 = .ok (.sipush 999, 3) := by decide +kernel
theorem dX2_priceOf_54 : decode cX2_priceOf 54 = .ok (.invokestatic 124, 3) := by decide +kernel
theorem dX2_priceOf_57 : decode cX2_priceOf 57 = .ok (.ireturn, 1) := by decide +kernel
theorem dX2_worth_0 : decode cX2_worth 0 = .ok (.iconst 0, 1) := by decide +kernel
theorem dX2_worth_1 : decode cX2_worth 1 = .ok (.istore_n 2, 1) := by decide +kernel
theorem dX2_worth_2 : decode cX2_worth 2 = .ok (.iconst 0, 1) := by decide +kernel
theorem dX2_worth_3 : decode cX2_worth 3 = .ok (.istore_n 3, 1) := by decide +kernel
theorem dX2_worth_4 : decode cX2_worth 4 = .ok (.iload_n 3, 1) := by decide +kernel
theorem dX2_worth_5 : decode cX2_worth 5 = .ok (.iconst 3, 1) := by decide +kernel
theorem dX2_worth_6 : decode cX2_worth 6 = .ok (.if_icmp .ge 36, 3) := by decide +kernel
theorem dX2_worth_9 : decode cX2_worth 9 = .ok (.iconst 3, 1) := by decide +kernel
theorem dX2_worth_10 : decode cX2_worth 10 = .ok (.iload_n 1, 1) := by decide +kernel
theorem dX2_worth_11 : decode cX2_worth 11 = .ok (.imul, 1) := by decide +kernel
theorem dX2_worth_12 : decode cX2_worth 12 = .ok (.iload_n 3, 1) := by decide +kernel
theorem dX2_worth_13 : decode cX2_worth 13 = .ok (.iadd, 1) := by decide +kernel
theorem dX2_worth_14 : decode cX2_worth 14 = .ok (.istore 4, 2) := by decide +kernel
theorem dX2_worth_16 : decode cX2_worth 16 = .ok (.aload_n 0, 1) := by decide +kernel
theorem dX2_worth_17 : decode cX2_worth 17 = .ok (.getfield 33, 3) := by decide +kernel
theorem dX2_worth_20 : decode cX2_worth 20 = .ok (.iload 4, 2) := by decide +kernel
theorem dX2_worth_22 : decode cX2_worth 22 = .ok (.iaload, 1) := by decide +kernel
theorem dX2_worth_23 : decode cX2_worth 23 = .ok (.iconst (-1), 1) := by decide +kernel
theorem dX2_worth_24 : decode cX2_worth 24 = .ok (.if_icmp .ne 12, 3) := by decide +kernel
theorem dX2_worth_27 : decode cX2_worth 27 = .ok (.iload_n 2, 1) := by decide +kernel
theorem dX2_worth_28 : decode cX2_worth 28 = .ok (.aload_n 0, 1) := by decide +kernel
theorem dX2_worth_29 : decode cX2_worth 29 = .ok (.iload 4, 2) := by decide +kernel
theorem dX2_worth_31 : decode cX2_worth 31 = .ok (.invokevirtual 102, 3) := by decide +kernel
theorem dX2_worth_34 : decode cX2_worth 34 = .ok (.iadd, 1) := by decide +kernel
theorem dX2_worth_35 : decode cX2_worth 35 = .ok (.istore_n 2, 1) := by decide +kernel
theorem dX2_worth_36 : decode cX2_worth 36 = .ok (.iinc 3 1, 3) := by decide +kernel
theorem dX2_worth_39 : decode cX2_worth 39 = .ok (.goto (-35), 3) := by decide +kernel
theorem dX2_worth_42 : decode cX2_worth 42 = .ok (.iload_n 2, 1) := by decide +kernel
theorem dX2_worth_43 : decode cX2_worth 43 = .ok (.ireturn, 1) := by decide +kernel
theorem dX2_force_0 : decode cX2_force 0 = .ok (.aload_n 0, 1) := by decide +kernel
theorem dX2_force_1 : decode cX2_force 1 = .ok (.getfield 27, 3) := by decide +kernel
theorem dX2_force_4 : decode cX2_force 4 = .ok (.iload_n 1, 1) := by decide +kernel
theorem dX2_force_5 : decode cX2_force 5 = .ok (.iaload, 1) := by decide +kernel
theorem dX2_force_6 : decode cX2_force 6 = .ok (.istore_n 3, 1) := by decide +kernel
theorem dX2_force_7 : decode cX2_force 7 = .ok (.iload_n 2, 1) := by decide +kernel
theorem dX2_force_8 : decode cX2_force 8 = .ok (.iconst 3, 1) := by decide +kernel
theorem dX2_force_9 : decode cX2_force 9 = .ok (.if_icmp .ge 7, 3) := by decide +kernel
theorem dX2_force_12 : decode cX2_force 12 = .ok (.iload_n 3, 1) := by decide +kernel
theorem dX2_force_13 : decode cX2_force 13 = .ok (.goto 4, 3) := by decide +kernel
theorem dX2_force_16 : decode cX2_force 16 = .ok (.iconst 0, 1) := by decide +kernel
theorem dX2_force_17 : decode cX2_force 17 = .ok (.istore 4, 2) := by decide +kernel
theorem dX2_force_19 : decode cX2_force 19 = .ok (.aload_n 0, 1) := by decide +kernel
theorem dX2_force_20 : decode cX2_force 20 = .ok (.getfield 24, 3) := by decide +kernel
theorem dX2_force_23 : decode cX2_force 23 = .ok (.iload_n 1, 1) := by decide +kernel
theorem dX2_force_24 : decode cX2_force 24 = .ok (.iaload, 1) := by decide +kernel
theorem dX2_force_25 : decode cX2_force 25 = .ok (.tableswitch 113 1 6 #[39, 43, 49, 51, 67, 75], 39) := by decide +kernel
theorem dX2_force_64 : decode cX2_force 64 = .ok (.iload 4, 2) := by decide +kernel
theorem dX2_force_66 : decode cX2_force 66 = .ok (.ineg, 1) := by decide +kernel
theorem dX2_force_67 : decode cX2_force 67 = .ok (.ireturn, 1) := by decide +kernel
theorem dX2_force_68 : decode cX2_force 68 = .ok (.iload_n 3, 1) := by decide +kernel
theorem dX2_force_69 : decode cX2_force 69 = .ok (.iload_n 2, 1) := by decide +kernel
theorem dX2_force_70 : decode cX2_force 70 = .ok (.invokestatic 127, 3) := by decide +kernel
theorem dX2_force_73 : decode cX2_force 73 = .ok (.ireturn, 1) := by decide +kernel
theorem dX2_force_74 : decode cX2_force 74 = .ok (.iconst 0, 1) := by decide +kernel
theorem dX2_force_75 : decode cX2_force 75 = .ok (.ireturn, 1) := by decide +kernel
theorem dX2_force_76 : decode cX2_force 76 = .ok (.iload_n 2, 1) := by decide +kernel
theorem dX2_force_77 : decode cX2_force 77 = .ok (.ifCond .ne 11, 3) := by decide +kernel
theorem dX2_force_80 : decode cX2_force 80 = .ok (.bipush (-2), 2) := by decide +kernel
theorem dX2_force_82 : decode cX2_force 82 = .ok (.iload 4, 2) := by decide +kernel
theorem dX2_force_84 : decode cX2_force 84 = .ok (.imul, 1) := by decide +kernel
theorem dX2_force_85 : decode cX2_force 85 = .ok (.goto 6, 3) := by decide +kernel
theorem dX2_force_88 : decode cX2_force 88 = .ok (.iload 4, 2) := by decide +kernel
theorem dX2_force_90 : decode cX2_force 90 = .ok (.ineg, 1) := by decide +kernel
theorem dX2_force_91 : decode cX2_force 91 = .ok (.ireturn, 1) := by decide +kernel
theorem dX2_force_92 : decode cX2_force 92 = .ok (.iload_n 3, 1) := by decide +kernel
theorem dX2_force_93 : decode cX2_force 93 = .ok (.iload_n 2, 1) := by decide +kernel
theorem dX2_force_94 : decode cX2_force 94 = .ok (.iconst 2, 1) := by decide +kernel
theorem dX2_force_95 : decode cX2_force 95 = .ok (.idiv, 1) := by decide +kernel
theorem dX2_force_96 : decode cX2_force 96 = .ok (.invokestatic 127, 3) := by decide +kernel
theorem dX2_force_99 : decode cX2_force 99 = .ok (.ireturn, 1) := by decide +kernel
theorem dX2_force_100 : decode cX2_force 100 = .ok (.aload_n 0, 1) := by decide +kernel
theorem dX2_force_101 : decode cX2_force 101 = .ok (.getfield 45, 3) := by decide +kernel
theorem dX2_force_104 : decode cX2_force 104 = .ok (.invokevirtual 116, 3) := by decide +kernel
theorem dX2_force_107 : decode cX2_force 107 = .ok (.ifCond .eq 28, 3) := by decide +kernel
theorem dX2_force_110 : decode cX2_force 110 = .ok (.aload_n 0, 1) := by decide +kernel
theorem dX2_force_111 : decode cX2_force 111 = .ok (.getfield 45, 3) := by decide +kernel
theorem dX2_force_114 : decode cX2_force 114 = .ok (.iload_n 2, 1) := by decide +kernel
theorem dX2_force_115 : decode cX2_force 115 = .ok (.aload_n 0, 1) := by decide +kernel
theorem dX2_force_116 : decode cX2_force 116 = .ok (.getfield 30, 3) := by decide +kernel
theorem dX2_force_119 : decode cX2_force 119 = .ok (.iload_n 1, 1) := by decide +kernel
theorem dX2_force_120 : decode cX2_force 120 = .ok (.iaload, 1) := by decide +kernel
theorem dX2_force_121 : decode cX2_force 121 = .ok (.iload_n 3, 1) := by decide +kernel
theorem dX2_force_122 : decode cX2_force 122 = .ok (.invokevirtual 120, 3) := by decide +kernel
theorem dX2_force_125 : decode cX2_force 125 = .ok (.bipush (-20), 2) := by decide +kernel
theorem dX2_force_127 : decode cX2_force 127 = .ok (.bipush 20, 2) := by decide +kernel
theorem dX2_force_129 : decode cX2_force 129 = .ok (.invokestatic 124, 3) := by decide +kernel
theorem dX2_force_132 : decode cX2_force 132 = .ok (.goto 5, 3) := by decide +kernel
theorem dX2_force_135 : decode cX2_force 135 = .ok (.iload 4, 2) := by decide +kernel
theorem dX2_force_137 : decode cX2_force 137 = .ok (.ireturn, 1) := by decide +kernel
theorem dX2_force_138 : decode cX2_force 138 = .ok (.iload 4, 2) := by decide +kernel
theorem dX2_force_140 : decode cX2_force 140 = .ok (.ireturn, 1) := by decide +kernel
theorem dX2_slowForce_0 : decode cX2_slowForce 0 = .ok (.iload_n 1, 1) := by decide +kernel
theorem dX2_slowForce_1 : decode cX2_slowForce 1 = .ok (.bipush 6, 2) := by decide +kernel
theorem dX2_slowForce_3 : decode cX2_slowForce 3 = .ok (.if_icmp .ge 9, 3) := by decide +kernel
theorem dX2_slowForce_6 : decode cX2_slowForce 6 = .ok (.iload_n 0, 1) := by decide +kernel
theorem dX2_slowForce_7 : decode cX2_slowForce 7 = .ok (.iconst 2, 1) := by decide +kernel
theorem dX2_slowForce_8 : decode cX2_slowForce 8 = .ok (.idiv, 1) := by decide +kernel
theorem dX2_slowForce_9 : decode cX2_slowForce 9 = .ok (.goto 4, 3) := by decide +kernel
theorem dX2_slowForce_12 : decode cX2_slowForce 12 = .ok (.iconst 0, 1) := by decide +kernel
theorem dX2_slowForce_13 : decode cX2_slowForce 13 = .ok (.ireturn, 1) := by decide +kernel
theorem dX2_windAt_0 : decode cX2_windAt 0 = .ok (.aload_n 0, 1) := by decide +kernel
theorem dX2_windAt_1 : decode cX2_windAt 1 = .ok (.getfield 15, 3) := by decide +kernel
theorem dX2_windAt_4 : decode cX2_windAt 4 = .ok (.iload_n 1, 1) := by decide +kernel
theorem dX2_windAt_5 : decode cX2_windAt 5 = .ok (.iaload, 1) := by decide +kernel
theorem dX2_windAt_6 : decode cX2_windAt 6 = .ok (.istore_n 3, 1) := by decide +kernel
theorem dX2_windAt_7 : decode cX2_windAt 7 = .ok (.iconst 0, 1) := by decide +kernel
theorem dX2_windAt_8 : decode cX2_windAt 8 = .ok (.istore 4, 2) := by decide +kernel
theorem dX2_windAt_10 : decode cX2_windAt 10 = .ok (.iload 4, 2) := by decide +kernel
theorem dX2_windAt_12 : decode cX2_windAt 12 = .ok (.iconst 3, 1) := by decide +kernel
theorem dX2_windAt_13 : decode cX2_windAt 13 = .ok (.aload_n 0, 1) := by decide +kernel
theorem dX2_windAt_14 : decode cX2_windAt 14 = .ok (.getfield 66, 3) := by decide +kernel
theorem dX2_windAt_17 : decode cX2_windAt 17 = .ok (.imul, 1) := by decide +kernel
theorem dX2_windAt_18 : decode cX2_windAt 18 = .ok (.if_icmp .ge 59, 3) := by decide +kernel
theorem dX2_windAt_21 : decode cX2_windAt 21 = .ok (.aload_n 0, 1) := by decide +kernel
theorem dX2_windAt_22 : decode cX2_windAt 22 = .ok (.getfield 30, 3) := by decide +kernel
theorem dX2_windAt_25 : decode cX2_windAt 25 = .ok (.iload 4, 2) := by decide +kernel
theorem dX2_windAt_27 : decode cX2_windAt 27 = .ok (.iaload, 1) := by decide +kernel
theorem dX2_windAt_28 : decode cX2_windAt 28 = .ok (.iload_n 1, 1) := by decide +kernel
theorem dX2_windAt_29 : decode cX2_windAt 29 = .ok (.invokestatic 130, 3) := by decide +kernel
theorem dX2_windAt_32 : decode cX2_windAt 32 = .ok (.istore 5, 2) := by decide +kernel
theorem dX2_windAt_34 : decode cX2_windAt 34 = .ok (.aload_n 0, 1) := by decide +kernel
theorem dX2_windAt_35 : decode cX2_windAt 35 = .ok (.getfield 33, 3) := by decide +kernel
theorem dX2_windAt_38 : decode cX2_windAt 38 = .ok (.iload 4, 2) := by decide +kernel
theorem dX2_windAt_40 : decode cX2_windAt 40 = .ok (.iaload, 1) := by decide +kernel
theorem dX2_windAt_41 : decode cX2_windAt 41 = .ok (.iconst (-1), 1) := by decide +kernel
theorem dX2_windAt_42 : decode cX2_windAt 42 = .ok (.if_icmp .eq 29, 3) := by decide +kernel
theorem dX2_windAt_45 : decode cX2_windAt 45 = .ok (.iload 5, 2) := by decide +kernel
theorem dX2_windAt_47 : decode cX2_windAt 47 = .ok (.ifCond .eq 24, 3) := by decide +kernel
theorem dX2_windAt_50 : decode cX2_windAt 50 = .ok (.iload_n 3, 1) := by decide +kernel
theorem dX2_windAt_51 : decode cX2_windAt 51 = .ok (.iload 5, 2) := by decide +kernel
theorem dX2_windAt_53 : decode cX2_windAt 53 = .ok (.aload_n 0, 1) := by decide +kernel
theorem dX2_windAt_54 : decode cX2_windAt 54 = .ok (.iload 4, 2) := by decide +kernel
theorem dX2_windAt_56 : decode cX2_windAt 56 = .ok (.iload_n 2, 1) := by decide +kernel
theorem dX2_windAt_57 : decode cX2_windAt 57 = .ok (.aload_n 0, 1) := by decide +kernel
theorem dX2_windAt_58 : decode cX2_windAt 58 = .ok (.getfield 33, 3) := by decide +kernel
theorem dX2_windAt_61 : decode cX2_windAt 61 = .ok (.iload 4, 2) := by decide +kernel
theorem dX2_windAt_63 : decode cX2_windAt 63 = .ok (.iaload, 1) := by decide +kernel
theorem dX2_windAt_64 : decode cX2_windAt 64 = .ok (.isub, 1) := by decide +kernel
theorem dX2_windAt_65 : decode cX2_windAt 65 = .ok (.invokevirtual 99, 3) := by decide +kernel
theorem dX2_windAt_68 : decode cX2_windAt 68 = .ok (.imul, 1) := by decide +kernel
theorem dX2_windAt_69 : decode cX2_windAt 69 = .ok (.iadd, 1) := by decide +kernel
theorem dX2_windAt_70 : decode cX2_windAt 70 = .ok (.istore_n 3, 1) := by decide +kernel
theorem dX2_windAt_71 : decode cX2_windAt 71 = .ok (.iinc 4 1, 3) := by decide +kernel
theorem dX2_windAt_74 : decode cX2_windAt 74 = .ok (.goto (-64), 3) := by decide +kernel
theorem dX2_windAt_77 : decode cX2_windAt 77 = .ok (.iload_n 3, 1) := by decide +kernel
theorem dX2_windAt_78 : decode cX2_windAt 78 = .ok (.ireturn, 1) := by decide +kernel
theorem dX2_mayBeLoosed_0 : decode cX2_mayBeLoosed 0 = .ok (.aload_n 0, 1) := by decide +kernel
theorem dX2_mayBeLoosed_1 : decode cX2_mayBeLoosed 1 = .ok (.getfield 33, 3) := by decide +kernel
theorem dX2_mayBeLoosed_4 : decode cX2_mayBeLoosed 4 = .ok (.iload_n 1, 1) := by decide +kernel
theorem dX2_mayBeLoosed_5 : decode cX2_mayBeLoosed 5 = .ok (.iaload, 1) := by decide +kernel
theorem dX2_mayBeLoosed_6 : decode cX2_mayBeLoosed 6 = .ok (.iconst (-1), 1) := by decide +kernel
theorem dX2_mayBeLoosed_7 : decode cX2_mayBeLoosed 7 = .ok (.if_icmp .ne 22, 3) := by decide +kernel
theorem dX2_mayBeLoosed_10 : decode cX2_mayBeLoosed 10 = .ok (.iload_n 2, 1) := by decide +kernel
theorem dX2_mayBeLoosed_11 : decode cX2_mayBeLoosed 11 = .ok (.invokestatic 105, 3) := by decide +kernel
theorem dX2_mayBeLoosed_14 : decode cX2_mayBeLoosed 14 = .ok (.ifCond .eq 15, 3) := by decide +kernel
theorem dX2_mayBeLoosed_17 : decode cX2_mayBeLoosed 17 = .ok (.iload_n 3, 1) := by decide +kernel
theorem dX2_mayBeLoosed_18 : decode cX2_mayBeLoosed 18 = .ok (.invokestatic 90, 3) := by decide +kernel
theorem dX2_mayBeLoosed_21 : decode cX2_mayBeLoosed 21 = .ok (.iconst 1, 1) := by decide +kernel
theorem dX2_mayBeLoosed_22 : decode cX2_mayBeLoosed 22 = .ok (.if_icmp .eq 7, 3) := by decide +kernel
theorem dX2_mayBeLoosed_25 : decode cX2_mayBeLoosed 25 = .ok (.iconst 1, 1) := by decide +kernel
theorem dX2_mayBeLoosed_26 : decode cX2_mayBeLoosed 26 = .ok (.goto 4, 3) := by decide +kernel
theorem dX2_mayBeLoosed_29 : decode cX2_mayBeLoosed 29 = .ok (.iconst 0, 1) := by decide +kernel
theorem dX2_mayBeLoosed_30 : decode cX2_mayBeLoosed 30 = .ok (.ireturn, 1) := by decide +kernel
theorem dX2_placeBehindHour_0 : decode cX2_placeBehindHour 0 = .ok (.iload_n 2, 1) := by decide +kernel
theorem dX2_placeBehindHour_1 : decode cX2_placeBehindHour 1 = .ok (.invokestatic 90, 3) := by decide +kernel
theorem dX2_placeBehindHour_4 : decode cX2_placeBehindHour 4 = .ok (.ifCond .eq 5, 3) := by decide +kernel
theorem dX2_placeBehindHour_7 : decode cX2_placeBehindHour 7 = .ok (.iload_n 2, 1) := by decide +kernel
theorem dX2_placeBehindHour_8 : decode cX2_placeBehindHour 8 = .ok (.ireturn, 1) := by decide +kernel
theorem dX2_placeBehindHour_9 : decode cX2_placeBehindHour 9 = .ok (.aload_n 0, 1) := by decide +kernel
theorem dX2_placeBehindHour_10 : decode cX2_placeBehindHour 10 = .ok (.iload_n 1, 1) := by decide +kernel
theorem dX2_placeBehindHour_11 : decode cX2_placeBehindHour 11 = .ok (.iload_n 2, 1) := by decide +kernel
theorem dX2_placeBehindHour_12 : decode cX2_placeBehindHour 12 = .ok (.aload_n 0, 1) := by decide +kernel
theorem dX2_placeBehindHour_13 : decode cX2_placeBehindHour 13 = .ok (.iconst 0, 1) := by decide +kernel
theorem dX2_placeBehindHour_14 : decode cX2_placeBehindHour 14 = .ok (.iload_n 3, 1) := by decide +kernel
theorem dX2_placeBehindHour_15 : decode cX2_placeBehindHour 15 = .ok (.invokevirtual 133, 3) := by decide +kernel
theorem dX2_placeBehindHour_18 : decode cX2_placeBehindHour 18 = .ok (.aload_n 0, 1) := by decide +kernel
theorem dX2_placeBehindHour_19 : decode cX2_placeBehindHour 19 = .ok (.iconst 1, 1) := by decide +kernel
theorem dX2_placeBehindHour_20 : decode cX2_placeBehindHour 20 = .ok (.iload_n 3, 1) := by decide +kernel
theorem dX2_placeBehindHour_21 : decode cX2_placeBehindHour 21 = .ok (.invokevirtual 133, 3) := by decide +kernel
theorem dX2_placeBehindHour_24 : decode cX2_placeBehindHour 24 = .ok (.invokevirtual 136, 3) := by decide +kernel
theorem dX2_placeBehindHour_27 : decode cX2_placeBehindHour 27 = .ok (.ireturn, 1) := by decide +kernel
theorem dX2_sailed_0 : decode cX2_sailed 0 = .ok (.aload_n 0, 1) := by decide +kernel
theorem dX2_sailed_1 : decode cX2_sailed 1 = .ok (.iload_n 1, 1) := by decide +kernel
theorem dX2_sailed_2 : decode cX2_sailed 2 = .ok (.iload_n 2, 1) := by decide +kernel
theorem dX2_sailed_3 : decode cX2_sailed 3 = .ok (.iconst 0, 1) := by decide +kernel
theorem dX2_sailed_4 : decode cX2_sailed 4 = .ok (.iload_n 3, 1) := by decide +kernel
theorem dX2_sailed_5 : decode cX2_sailed 5 = .ok (.iconst 3, 1) := by decide +kernel
theorem dX2_sailed_6 : decode cX2_sailed 6 = .ok (.idiv, 1) := by decide +kernel
theorem dX2_sailed_7 : decode cX2_sailed 7 = .ok (.invokevirtual 140, 3) := by decide +kernel
theorem dX2_sailed_10 : decode cX2_sailed 10 = .ok (.istore 5, 2) := by decide +kernel
theorem dX2_sailed_12 : decode cX2_sailed 12 = .ok (.aload_n 0, 1) := by decide +kernel
theorem dX2_sailed_13 : decode cX2_sailed 13 = .ok (.iload_n 1, 1) := by decide +kernel
theorem dX2_sailed_14 : decode cX2_sailed 14 = .ok (.iload 5, 2) := by decide +kernel
theorem dX2_sailed_16 : decode cX2_sailed 16 = .ok (.iconst 1, 1) := by decide +kernel
theorem dX2_sailed_17 : decode cX2_sailed 17 = .ok (.iload 4, 2) := by decide +kernel
theorem dX2_sailed_19 : decode cX2_sailed 19 = .ok (.iconst 3, 1) := by decide +kernel
theorem dX2_sailed_20 : decode cX2_sailed 20 = .ok (.idiv, 1) := by decide +kernel
theorem dX2_sailed_21 : decode cX2_sailed 21 = .ok (.invokevirtual 140, 3) := by decide +kernel
theorem dX2_sailed_24 : decode cX2_sailed 24 = .ok (.ireturn, 1) := by decide +kernel
theorem dX2_along_0 : decode cX2_along 0 = .ok (.iload 4, 2) := by decide +kernel
theorem dX2_along_2 : decode cX2_along 2 = .ok (.ifCond .ge 7, 3) := by decide +kernel
theorem dX2_along_5 : decode cX2_along 5 = .ok (.iconst (-1), 1) := by decide +kernel
theorem dX2_along_6 : decode cX2_along 6 = .ok (.goto 4, 3) := by decide +kernel
theorem dX2_along_9 : decode cX2_along 9 = .ok (.iconst 1, 1) := by decide +kernel
theorem dX2_along_10 : decode cX2_along 10 = .ok (.istore 5, 2) := by decide +kernel
theorem dX2_along_12 : decode cX2_along 12 = .ok (.iload_n 2, 1) := by decide +kernel
theorem dX2_along_13 : decode cX2_along 13 = .ok (.istore 6, 2) := by decide +kernel
theorem dX2_along_15 : decode cX2_along 15 = .ok (.iload 4, 2) := by decide +kernel
theorem dX2_along_17 : decode cX2_along 17 = .ok (.iload 5, 2) := by decide +kernel
theorem dX2_along_19 : decode cX2_along 19 = .ok (.imul, 1) := by decide +kernel
theorem dX2_along_20 : decode cX2_along 20 = .ok (.istore 7, 2) := by decide +kernel
theorem dX2_along_22 : decode cX2_along 22 = .ok (.iload 7, 2) := by decide +kernel
theorem dX2_along_24 : decode cX2_along 24 = .ok (.ifCond .le 98, 3) := by decide +kernel
theorem dX2_along_27 : decode cX2_along 27 = .ok (.iload 6, 2) := by decide +kernel
theorem dX2_along_29 : decode cX2_along 29 = .ok (.invokestatic 90, 3) := by decide +kernel
theorem dX2_along_32 : decode cX2_along 32 = .ok (.ifCond .ne 90, 3) := by decide +kernel
theorem dX2_along_35 : decode cX2_along 35 = .ok (.iload 6, 2) := by decide +kernel
theorem dX2_along_37 : decode cX2_along 37 = .ok (.invokestatic 86, 3) := by decide +kernel
theorem dX2_along_40 : decode cX2_along 40 = .ok (.bipush 8, 2) := by decide +kernel
theorem dX2_along_42 : decode cX2_along 42 = .ok (.idiv, 1) := by decide +kernel
theorem dX2_along_43 : decode cX2_along 43 = .ok (.iload_n 3, 1) := by decide +kernel
theorem dX2_along_44 : decode cX2_along 44 = .ok (.iconst 1, 1) := by decide +kernel
theorem dX2_along_45 : decode cX2_along 45 = .ok (.if_icmp .ne 8, 3) := by decide +kernel
theorem dX2_along_48 : decode cX2_along 48 = .ok (.iload 5, 2) := by decide +kernel
theorem dX2_along_50 : decode cX2_along 50 = .ok (.goto 4, 3) := by decide +kernel
theorem dX2_along_53 : decode cX2_along 53 = .ok (.iconst 0, 1) := by decide +kernel
theorem dX2_along_54 : decode cX2_along 54 = .ok (.iadd, 1) := by decide +kernel
theorem dX2_along_55 : decode cX2_along 55 = .ok (.istore 8, 2) := by decide +kernel
theorem dX2_along_57 : decode cX2_along 57 = .ok (.iload 6, 2) := by decide +kernel
theorem dX2_along_59 : decode cX2_along 59 = .ok (.invokestatic 86, 3) := by decide +kernel
theorem dX2_along_62 : decode cX2_along 62 = .ok (.bipush 8, 2) := by decide +kernel
theorem dX2_along_64 : decode cX2_along 64 = .ok (.irem, 1) := by decide +kernel
theorem dX2_along_65 : decode cX2_along 65 = .ok (.iload_n 3, 1) := by decide +kernel
theorem dX2_along_66 : decode cX2_along 66 = .ok (.ifCond .ne 8, 3) := by decide +kernel
theorem dX2_along_69 : decode cX2_along 69 = .ok (.iload 5, 2) := by decide +kernel
theorem dX2_along_71 : decode cX2_along 71 = .ok (.goto 4, 3) := by decide +kernel
theorem dX2_along_74 : decode cX2_along 74 = .ok (.iconst 0, 1) := by decide +kernel
theorem dX2_along_75 : decode cX2_along 75 = .ok (.iadd, 1) := by decide +kernel
theorem dX2_along_76 : decode cX2_along 76 = .ok (.istore 9, 2) := by decide +kernel
theorem dX2_along_78 : decode cX2_along 78 = .ok (.iload 8, 2) := by decide +kernel
theorem dX2_along_80 : decode cX2_along 80 = .ok (.bipush 8, 2) := by decide +kernel
theorem dX2_along_82 : decode cX2_along 82 = .ok (.invokestatic 143, 3) := by decide +kernel
theorem dX2_along_85 : decode cX2_along 85 = .ok (.ifCond .eq 13, 3) := by decide +kernel
theorem dX2_along_88 : decode cX2_along 88 = .ok (.iload 9, 2) := by decide +kernel
theorem dX2_along_90 : decode cX2_along 90 = .ok (.bipush 8, 2) := by decide +kernel
theorem dX2_along_92 : decode cX2_along 92 = .ok (.invokestatic 143, 3) := by decide +kernel
theorem dX2_along_95 : decode cX2_along 95 = .ok (.ifCond .ne 6, 3) := by decide +kernel
theorem dX2_along_98 : decode cX2_along 98 = .ok (.iload 6, 2) := by decide +kernel
theorem dX2_along_100 : decode cX2_along 100 = .ok (.ireturn, 1) := by decide +kernel
theorem dX2_along_101 : decode cX2_along 101 = .ok (.aload_n 0, 1) := by decide +kernel
theorem dX2_along_102 : decode cX2_along 102 = .ok (.iload_n 1, 1) := by decide +kernel
theorem dX2_along_103 : decode cX2_along 103 = .ok (.bipush 8, 2) := by decide +kernel
theorem dX2_along_105 : decode cX2_along 105 = .ok (.iload 8, 2) := by decide +kernel
theorem dX2_along_107 : decode cX2_along 107 = .ok (.imul, 1) := by decide +kernel
theorem dX2_along_108 : decode cX2_along 108 = .ok (.iload 9, 2) := by decide +kernel
theorem dX2_along_110 : decode cX2_along 110 = .ok (.iadd, 1) := by decide +kernel
theorem dX2_along_111 : decode cX2_along 111 = .ok (.invokevirtual 147, 3) := by decide +kernel
theorem dX2_along_114 : decode cX2_along 114 = .ok (.istore 6, 2) := by decide +kernel
theorem dX2_along_116 : decode cX2_along 116 = .ok (.iinc 7 (-1), 3) := by decide +kernel
theorem dX2_along_119 : decode cX2_along 119 = .ok (.goto (-97), 3) := by decide +kernel
theorem dX2_along_122 : decode cX2_along 122 = .ok (.iload 6, 2) := by decide +kernel
theorem dX2_along_124 : decode cX2_along 124 = .ok (.ireturn, 1) := by decide +kernel
theorem dX2_entered_0 : decode cX2_entered 0 = .ok (.iload_n 2, 1) := by decide +kernel
theorem dX2_entered_1 : decode cX2_entered 1 = .ok (.aload_n 0, 1) := by decide +kernel
theorem dX2_entered_2 : decode cX2_entered 2 = .ok (.getfield 21, 3) := by decide +kernel
theorem dX2_entered_5 : decode cX2_entered 5 = .ok (.iload_n 1, 1) := by decide +kernel
theorem dX2_entered_6 : decode cX2_entered 6 = .ok (.iaload, 1) := by decide +kernel
theorem dX2_entered_7 : decode cX2_entered 7 = .ok (.if_icmp .ne 9, 3) := by decide +kernel
theorem dX2_entered_10 : decode cX2_entered 10 = .ok (.sipush 128, 3) := by decide +kernel
theorem dX2_entered_13 : decode cX2_entered 13 = .ok (.iload_n 2, 1) := by decide +kernel
theorem dX2_entered_14 : decode cX2_entered 14 = .ok (.iadd, 1) := by decide +kernel
theorem dX2_entered_15 : decode cX2_entered 15 = .ok (.ireturn, 1) := by decide +kernel
theorem dX2_entered_16 : decode cX2_entered 16 = .ok (.aload_n 0, 1) := by decide +kernel
theorem dX2_entered_17 : decode cX2_entered 17 = .ok (.getfield 9, 3) := by decide +kernel
theorem dX2_entered_20 : decode cX2_entered 20 = .ok (.iload_n 2, 1) := by decide +kernel
theorem dX2_entered_21 : decode cX2_entered 21 = .ok (.iaload, 1) := by decide +kernel
theorem dX2_entered_22 : decode cX2_entered 22 = .ok (.iconst 1, 1) := by decide +kernel
theorem dX2_entered_23 : decode cX2_entered 23 = .ok (.if_icmp .ne 10, 3) := by decide +kernel
theorem dX2_entered_26 : decode cX2_entered 26 = .ok (.bipush 64, 2) := by decide +kernel
theorem dX2_entered_28 : decode cX2_entered 28 = .ok (.iload_n 2, 1) := by decide +kernel
theorem dX2_entered_29 : decode cX2_entered 29 = .ok (.iadd, 1) := by decide +kernel
theorem dX2_entered_30 : decode cX2_entered 30 = .ok (.goto 6, 3) := by decide +kernel
theorem dX2_entered_33 : decode cX2_entered 33 = .ok (.iconst 0, 1) := by decide +kernel
theorem dX2_entered_34 : decode cX2_entered 34 = .ok (.iload_n 2, 1) := by decide +kernel
theorem dX2_entered_35 : decode cX2_entered 35 = .ok (.iadd, 1) := by decide +kernel
theorem dX2_entered_36 : decode cX2_entered 36 = .ok (.ireturn, 1) := by decide +kernel
theorem dX2_passHour_0 : decode cX2_passHour 0 = .ok (.aload_n 0, 1) := by decide +kernel
theorem dX2_passHour_1 : decode cX2_passHour 1 = .ok (.iconst 0, 1) := by decide +kernel
theorem dX2_passHour_2 : decode cX2_passHour 2 = .ok (.aload_n 0, 1) := by decide +kernel
theorem dX2_passHour_3 : decode cX2_passHour 3 = .ok (.getfield 69, 3) := by decide +kernel
theorem dX2_passHour_6 : decode cX2_passHour 6 = .ok (.invokevirtual 133, 3) := by decide +kernel
theorem dX2_passHour_9 : decode cX2_passHour 9 = .ok (.istore_n 1, 1) := by decide +kernel
theorem dX2_passHour_10 : decode cX2_passHour 10 = .ok (.aload_n 0, 1) := by decide +kernel
theorem dX2_passHour_11 : decode cX2_passHour 11 = .ok (.iconst 1, 1) := by decide +kernel
theorem dX2_passHour_12 : decode cX2_passHour 12 = .ok (.aload_n 0, 1) := by decide +kernel
theorem dX2_passHour_13 : decode cX2_passHour 13 = .ok (.getfield 69, 3) := by decide +kernel
theorem dX2_passHour_16 : decode cX2_passHour 16 = .ok (.invokevirtual 133, 3) := by decide +kernel
theorem dX2_passHour_19 : decode cX2_passHour 19 = .ok (.istore_n 2, 1) := by decide +kernel
theorem dX2_passHour_20 : decode cX2_passHour 20 = .ok (.iconst 0, 1) := by decide +kernel
theorem dX2_passHour_21 : decode cX2_passHour 21 = .ok (.istore_n 3, 1) := by decide +kernel
theorem dX2_passHour_22 : decode cX2_passHour 22 = .ok (.iload_n 3, 1) := by decide +kernel
theorem dX2_passHour_23 : decode cX2_passHour 23 = .ok (.aload_n 0, 1) := by decide +kernel
theorem dX2_passHour_24 : decode cX2_passHour 24 = .ok (.getfield 66, 3) := by decide +kernel
theorem dX2_passHour_27 : decode cX2_passHour 27 = .ok (.if_icmp .ge 28, 3) := by decide +kernel
theorem dX2_passHour_30 : decode cX2_passHour 30 = .ok (.aload_n 0, 1) := by decide +kernel
theorem dX2_passHour_31 : decode cX2_passHour 31 = .ok (.getfield 18, 3) := by decide +kernel
theorem dX2_passHour_34 : decode cX2_passHour 34 = .ok (.iload_n 3, 1) := by decide +kernel
theorem dX2_passHour_35 : decode cX2_passHour 35 = .ok (.aload_n 0, 1) := by decide +kernel
theorem dX2_passHour_36 : decode cX2_passHour 36 = .ok (.iload_n 3, 1) := by decide +kernel
theorem dX2_passHour_37 : decode cX2_passHour 37 = .ok (.aload_n 0, 1) := by decide +kernel
theorem dX2_passHour_38 : decode cX2_passHour 38 = .ok (.getfield 18, 3) := by decide +kernel
theorem dX2_passHour_41 : decode cX2_passHour 41 = .ok (.iload_n 3, 1) := by decide +kernel
theorem dX2_passHour_42 : decode cX2_passHour 42 = .ok (.iaload, 1) := by decide +kernel
theorem dX2_passHour_43 : decode cX2_passHour 43 = .ok (.iload_n 1, 1) := by decide +kernel
theorem dX2_passHour_44 : decode cX2_passHour 44 = .ok (.iload_n 2, 1) := by decide +kernel
theorem dX2_passHour_45 : decode cX2_passHour 45 = .ok (.invokevirtual 136, 3) := by decide +kernel
theorem dX2_passHour_48 : decode cX2_passHour 48 = .ok (.iastore, 1) := by decide +kernel
theorem dX2_passHour_49 : decode cX2_passHour 49 = .ok (.iinc 3 1, 3) := by decide +kernel
theorem dX2_passHour_52 : decode cX2_passHour 52 = .ok (.goto (-30), 3) := by decide +kernel
theorem dX2_passHour_55 : decode cX2_passHour 55 = .ok (.aload_n 0, 1) := by decide +kernel
theorem dX2_passHour_56 : decode cX2_passHour 56 = .ok (.dup, 1) := by decide +kernel
theorem dX2_passHour_57 : decode cX2_passHour 57 = .ok (.getfield 69, 3) := by decide +kernel
theorem dX2_passHour_60 : decode cX2_passHour 60 = .ok (.iconst 1, 1) := by decide +kernel
theorem dX2_passHour_61 : decode cX2_passHour 61 = .ok (.iadd, 1) := by decide +kernel
theorem dX2_passHour_62 : decode cX2_passHour 62 = .ok (.putfield 69, 3) := by decide +kernel
theorem dX2_passHour_65 : decode cX2_passHour 65 = .ok (.return_, 1) := by decide +kernel
theorem dX2_looseByDraw_0 : decode cX2_looseByDraw 0 = .ok (.aload_n 0, 1) := by decide +kernel
theorem dX2_looseByDraw_1 : decode cX2_looseByDraw 1 = .ok (.getfield 66, 3) := by decide +kernel
theorem dX2_looseByDraw_4 : decode cX2_looseByDraw 4 = .ok (.ifCond .ne 5, 3) := by decide +kernel
theorem dX2_looseByDraw_7 : decode cX2_looseByDraw 7 = .ok (.iconst 0, 1) := by decide +kernel
theorem dX2_looseByDraw_8 : decode cX2_looseByDraw 8 = .ok (.ireturn, 1) := by decide +kernel
theorem dX2_looseByDraw_9 : decode cX2_looseByDraw 9 = .ok (.aload_n 0, 1) := by decide +kernel
theorem dX2_looseByDraw_10 : decode cX2_looseByDraw 10 = .ok (.invokevirtual 150, 3) := by decide +kernel
theorem dX2_looseByDraw_13 : decode cX2_looseByDraw 13 = .ok (.aload_n 0, 1) := by decide +kernel
theorem dX2_looseByDraw_14 : decode cX2_looseByDraw 14 = .ok (.getfield 66, 3) := by decide +kernel
theorem dX2_looseByDraw_17 : decode cX2_looseByDraw 17 = .ok (.irem, 1) := by decide +kernel
theorem dX2_looseByDraw_18 : decode cX2_looseByDraw 18 = .ok (.istore_n 1, 1) := by decide +kernel
theorem dX2_looseByDraw_19 : decode cX2_looseByDraw 19 = .ok (.aload_n 0, 1) := by decide +kernel
theorem dX2_looseByDraw_20 : decode cX2_looseByDraw 20 = .ok (.getfield 69, 3) := by decide +kernel
theorem dX2_looseByDraw_23 : decode cX2_looseByDraw 23 = .ok (.invokestatic 105, 3) := by decide +kernel
theorem dX2_looseByDraw_26 : decode cX2_looseByDraw 26 = .ok (.ifCond .ne 5, 3) := by decide +kernel
theorem dX2_looseByDraw_29 : decode cX2_looseByDraw 29 = .ok (.iconst 0, 1) := by decide +kernel
theorem dX2_looseByDraw_30 : decode cX2_looseByDraw 30 = .ok (.ireturn, 1) := by decide +kernel
theorem dX2_looseByDraw_31 : decode cX2_looseByDraw 31 = .ok (.aload_n 0, 1) := by decide +kernel
theorem dX2_looseByDraw_32 : decode cX2_looseByDraw 32 = .ok (.invokevirtual 150, 3) := by decide +kernel
theorem dX2_looseByDraw_35 : decode cX2_looseByDraw 35 = .ok (.iconst 4, 1) := by decide +kernel
theorem dX2_looseByDraw_36 : decode cX2_looseByDraw 36 = .ok (.irem, 1) := by decide +kernel
theorem dX2_looseByDraw_37 : decode cX2_looseByDraw 37 = .ok (.istore_n 2, 1) := by decide +kernel
theorem dX2_looseByDraw_38 : decode cX2_looseByDraw 38 = .ok (.iconst 3, 1) := by decide +kernel
theorem dX2_looseByDraw_39 : decode cX2_looseByDraw 39 = .ok (.iload_n 1, 1) := by decide +kernel
theorem dX2_looseByDraw_40 : decode cX2_looseByDraw 40 = .ok (.imul, 1) := by decide +kernel
theorem dX2_looseByDraw_41 : decode cX2_looseByDraw 41 = .ok (.iload_n 2, 1) := by decide +kernel
theorem dX2_looseByDraw_42 : decode cX2_looseByDraw 42 = .ok (.iadd, 1) := by decide +kernel
theorem dX2_looseByDraw_43 : decode cX2_looseByDraw 43 = .ok (.istore_n 3, 1) := by decide +kernel
theorem dX2_looseByDraw_44 : decode cX2_looseByDraw 44 = .ok (.iload_n 2, 1) := by decide +kernel
theorem dX2_looseByDraw_45 : decode cX2_looseByDraw 45 = .ok (.iconst 3, 1) := by decide +kernel
theorem dX2_looseByDraw_46 : decode cX2_looseByDraw 46 = .ok (.if_icmp .eq 21, 3) := by decide +kernel
theorem dX2_looseByDraw_49 : decode cX2_looseByDraw 49 = .ok (.aload_n 0, 1) := by decide +kernel
theorem dX2_looseByDraw_50 : decode cX2_looseByDraw 50 = .ok (.iload_n 3, 1) := by decide +kernel
theorem dX2_looseByDraw_51 : decode cX2_looseByDraw 51 = .ok (.aload_n 0, 1) := by decide +kernel
theorem dX2_looseByDraw_52 : decode cX2_looseByDraw 52 = .ok (.getfield 69, 3) := by decide +kernel
theorem dX2_looseByDraw_55 : decode cX2_looseByDraw 55 = .ok (.aload_n 0, 1) := by decide +kernel
theorem dX2_looseByDraw_56 : decode cX2_looseByDraw 56 = .ok (.getfield 18, 3) := by decide +kernel
theorem dX2_looseByDraw_59 : decode cX2_looseByDraw 59 = .ok (.iload_n 1, 1) := by decide +kernel
theorem dX2_looseByDraw_60 : decode cX2_looseByDraw 60 = .ok (.iaload, 1) := by decide +kernel
theorem dX2_looseByDraw_61 : decode cX2_looseByDraw 61 = .ok (.invokevirtual 153, 3) := by decide +kernel
theorem dX2_looseByDraw_64 : decode cX2_looseByDraw 64 = .ok (.ifCond .ne 5, 3) := by decide +kernel
theorem dX2_looseByDraw_67 : decode cX2_looseByDraw 67 = .ok (.iconst 0, 1) := by decide +kernel
theorem dX2_looseByDraw_68 : decode cX2_looseByDraw 68 = .ok (.ireturn, 1) := by decide +kernel
theorem dX2_looseByDraw_69 : decode cX2_looseByDraw 69 = .ok (.aload_n 0, 1) := by decide +kernel
theorem dX2_looseByDraw_70 : decode cX2_looseByDraw 70 = .ok (.getfield 33, 3) := by decide +kernel
theorem dX2_looseByDraw_73 : decode cX2_looseByDraw 73 = .ok (.iload_n 3, 1) := by decide +kernel
theorem dX2_looseByDraw_74 : decode cX2_looseByDraw 74 = .ok (.aload_n 0, 1) := by decide +kernel
theorem dX2_looseByDraw_75 : decode cX2_looseByDraw 75 = .ok (.getfield 69, 3) := by decide +kernel
theorem dX2_looseByDraw_78 : decode cX2_looseByDraw 78 = .ok (.iastore, 1) := by decide +kernel
theorem dX2_looseByDraw_79 : decode cX2_looseByDraw 79 = .ok (.iconst 1, 1) := by decide +kernel
theorem dX2_looseByDraw_80 : decode cX2_looseByDraw 80 = .ok (.ireturn, 1) := by decide +kernel
theorem dX2_drawn_0 : decode cX2_drawn 0 = .ok (.aload_n 0, 1) := by decide +kernel
theorem dX2_drawn_1 : decode cX2_drawn 1 = .ok (.aload_n 0, 1) := by decide +kernel
theorem dX2_drawn_2 : decode cX2_drawn 2 = .ok (.getfield 52, 3) := by decide +kernel
theorem dX2_drawn_5 : decode cX2_drawn 5 = .ok (.ldc 157, 2) := by decide +kernel
theorem dX2_drawn_7 : decode cX2_drawn 7 = .ok (.imul, 1) := by decide +kernel
theorem dX2_drawn_8 : decode cX2_drawn 8 = .ok (.sipush 12345, 3) := by decide +kernel
theorem dX2_drawn_11 : decode cX2_drawn 11 = .ok (.iadd, 1) := by decide +kernel
theorem dX2_drawn_12 : decode cX2_drawn 12 = .ok (.putfield 52, 3) := by decide +kernel
theorem dX2_drawn_15 : decode cX2_drawn 15 = .ok (.aload_n 0, 1) := by decide +kernel
theorem dX2_drawn_16 : decode cX2_drawn 16 = .ok (.getfield 52, 3) := by decide +kernel
theorem dX2_drawn_19 : decode cX2_drawn 19 = .ok (.bipush 8, 2) := by decide +kernel
theorem dX2_drawn_21 : decode cX2_drawn 21 = .ok (.iushr, 1) := by decide +kernel
theorem dX2_drawn_22 : decode cX2_drawn 22 = .ok (.ireturn, 1) := by decide +kernel
theorem dX3_init_0 : decode cX3_init 0 = .ok (.aload_n 0, 1) := by decide +kernel
theorem dX3_init_1 : decode cX3_init 1 = .ok (.invokespecial 3, 3) := by decide +kernel
theorem dX3_init_4 : decode cX3_init 4 = .ok (.aload_n 0, 1) := by decide +kernel
theorem dX3_init_5 : decode cX3_init 5 = .ok (.bipush 10, 2) := by decide +kernel
theorem dX3_init_7 : decode cX3_init 7 = .ok (.newarray .int, 2) := by decide +kernel
theorem dX3_init_9 : decode cX3_init 9 = .ok (.putfield 9, 3) := by decide +kernel
theorem dX3_init_12 : decode cX3_init 12 = .ok (.aload_n 0, 1) := by decide +kernel
theorem dX3_init_13 : decode cX3_init 13 = .ok (.bipush 10, 2) := by decide +kernel
theorem dX3_init_15 : decode cX3_init 15 = .ok (.newarray .int, 2) := by decide +kernel
theorem dX3_init_17 : decode cX3_init 17 = .ok (.putfield 15, 3) := by decide +kernel
theorem dX3_init_20 : decode cX3_init 20 = .ok (.aload_n 0, 1) := by decide +kernel
theorem dX3_init_21 : decode cX3_init 21 = .ok (.bipush 30, 2) := by decide +kernel
theorem dX3_init_23 : decode cX3_init 23 = .ok (.newarray .int, 2) := by decide +kernel
theorem dX3_init_25 : decode cX3_init 25 = .ok (.putfield 18, 3) := by decide +kernel
theorem dX3_init_28 : decode cX3_init 28 = .ok (.aload_n 0, 1) := by decide +kernel
theorem dX3_init_29 : decode cX3_init 29 = .ok (.iconst 3, 1) := by decide +kernel
theorem dX3_init_30 : decode cX3_init 30 = .ok (.newarray .int, 2) := by decide +kernel
theorem dX3_init_32 : decode cX3_init 32 = .ok (.putfield 21, 3) := by decide +kernel
theorem dX3_init_35 : decode cX3_init 35 = .ok (.return_, 1) := by decide +kernel
theorem dX3_find_0 : decode cX3_find 0 = .ok (.aload_n 0, 1) := by decide +kernel
theorem dX3_find_1 : decode cX3_find 1 = .ok (.iload_n 2, 1) := by decide +kernel
theorem dX3_find_2 : decode cX3_find 2 = .ok (.putfield 24, 3) := by decide +kernel
theorem dX3_find_5 : decode cX3_find 5 = .ok (.aload_n 0, 1) := by decide +kernel
theorem dX3_find_6 : decode cX3_find 6 = .ok (.iload_n 3, 1) := by decide +kernel
theorem dX3_find_7 : decode cX3_find 7 = .ok (.iconst 0, 1) := by decide +kernel
theorem dX3_find_8 : decode cX3_find 8 = .ok (.bipush 10, 2) := by decide +kernel
theorem dX3_find_10 : decode cX3_find 10 = .ok (.invokestatic 28, 3) := by decide +kernel
theorem dX3_find_13 : decode cX3_find 13 = .ok (.putfield 32, 3) := by decide +kernel
theorem dX3_find_16 : decode cX3_find 16 = .ok (.iconst 0, 1) := by decide +kernel
theorem dX3_find_17 : decode cX3_find 17 = .ok (.istore 4, 2) := by decide +kernel
theorem dX3_find_19 : decode cX3_find 19 = .ok (.iload 4, 2) := by decide +kernel
theorem dX3_find_21 : decode cX3_find 21 = .ok (.aload_n 0, 1) := by decide +kernel
theorem dX3_find_22 : decode cX3_find 22 = .ok (.getfield 32, 3) := by decide +kernel
theorem dX3_find_25 : decode cX3_find 25 = .ok (.if_icmp .ge 47, 3) := by decide +kernel
theorem dX3_find_28 : decode cX3_find 28 = .ok (.aload_n 0, 1) := by decide +kernel
theorem dX3_find_29 : decode cX3_find 29 = .ok (.getfield 9, 3) := by decide +kernel
theorem dX3_find_32 : decode cX3_find 32 = .ok (.iload 4, 2) := by decide +kernel
theorem dX3_find_34 : decode cX3_find 34 = .ok (.aload_n 1, 1) := by decide +kernel
theorem dX3_find_35 : decode cX3_find 35 = .ok (.iconst 0, 1) := by decide +kernel
theorem dX3_find_36 : decode cX3_find 36 = .ok (.aload_n 1, 1) := by decide +kernel
theorem dX3_find_37 : decode cX3_find 37 = .ok (.getfield 35, 3) := by decide +kernel
theorem dX3_find_40 : decode cX3_find 40 = .ok (.iload 4, 2) := by decide +kernel
theorem dX3_find_42 : decode cX3_find 42 = .ok (.iadd, 1) := by decide +kernel
theorem dX3_find_43 : decode cX3_find 43 = .ok (.invokevirtual 40, 3) := by decide +kernel
theorem dX3_find_46 : decode cX3_find 46 = .ok (.iastore, 1) := by decide +kernel
theorem dX3_find_47 : decode cX3_find 47 = .ok (.aload_n 0, 1) := by decide +kernel
theorem dX3_find_48 : decode cX3_find 48 = .ok (.getfield 15, 3) := by decide +kernel
theorem dX3_find_51 : decode cX3_find 51 = .ok (.iload 4, 2) := by decide +kernel
theorem dX3_find_53 : decode cX3_find 53 = .ok (.aload_n 1, 1) := by decide +kernel
theorem dX3_find_54 : decode cX3_find 54 = .ok (.iconst 1, 1) := by decide +kernel
theorem dX3_find_55 : decode cX3_find 55 = .ok (.aload_n 1, 1) := by decide +kernel
theorem dX3_find_56 : decode cX3_find 56 = .ok (.getfield 35, 3) := by decide +kernel
theorem dX3_find_59 : decode cX3_find 59 = .ok (.iload 4, 2) := by decide +kernel
theorem dX3_find_61 : decode cX3_find 61 = .ok (.iadd, 1) := by decide +kernel
theorem dX3_find_62 : decode cX3_find 62 = .ok (.invokevirtual 40, 3) := by decide +kernel
theorem dX3_find_65 : decode cX3_find 65 = .ok (.iastore, 1) := by decide +kernel
theorem dX3_find_66 : decode cX3_find 66 = .ok (.iinc 4 1, 3) := by decide +kernel
theorem dX3_find_69 : decode cX3_find 69 = .ok (.goto (-50), 3) := by decide +kernel
theorem dX3_find_72 : decode cX3_find 72 = .ok (.iconst 0, 1) := by decide +kernel
theorem dX3_find_73 : decode cX3_find 73 = .ok (.istore 4, 2) := by decide +kernel
theorem dX3_find_75 : decode cX3_find 75 = .ok (.iload 4, 2) := by decide +kernel
theorem dX3_find_77 : decode cX3_find 77 = .ok (.iconst 3, 1) := by decide +kernel
theorem dX3_find_78 : decode cX3_find 78 = .ok (.if_icmp .ge 60, 3) := by decide +kernel
theorem dX3_find_81 : decode cX3_find 81 = .ok (.aload_n 0, 1) := by decide +kernel
theorem dX3_find_82 : decode cX3_find 82 = .ok (.getfield 21, 3) := by decide +kernel
theorem dX3_find_85 : decode cX3_find 85 = .ok (.iload 4, 2) := by decide +kernel
theorem dX3_find_87 : decode cX3_find 87 = .ok (.iconst (-1), 1) := by decide +kernel
theorem dX3_find_88 : decode cX3_find 88 = .ok (.iastore, 1) := by decide +kernel
theorem dX3_find_89 : decode cX3_find 89 = .ok (.iconst 0, 1) := by decide +kernel
theorem dX3_find_90 : decode cX3_find 90 = .ok (.istore 5, 2) := by decide +kernel
theorem dX3_find_92 : decode cX3_find 92 = .ok (.iload 5, 2) := by decide +kernel
theorem dX3_find_94 : decode cX3_find 94 = .ok (.aload_n 0, 1) := by decide +kernel
theorem dX3_find_95 : decode cX3_find 95 = .ok (.getfield 32, 3) := by decide +kernel
theorem dX3_find_98 : decode cX3_find 98 = .ok (.if_icmp .ge 34, 3) := by decide +kernel
theorem dX3_find_101 : decode cX3_find 101 = .ok (.aload_n 0, 1) := by decide +kernel
theorem dX3_find_102 : decode cX3_find 102 = .ok (.getfield 18, 3) := by decide +kernel
theorem dX3_find_105 : decode cX3_find 105 = .ok (.bipush 10, 2) := by decide +kernel
theorem dX3_find_107 : decode cX3_find 107 = .ok (.iload 4, 2) := by decide +kernel
theorem dX3_find_109 : decode cX3_find 109 = .ok (.imul, 1) := by decide +kernel
theorem dX3_find_110 : decode cX3_find 110 = .ok (.iload 5, 2) := by decide +kernel
theorem dX3_find_112 : decode cX3_find 112 = .ok (.iadd, 1) := by decide +kernel
theorem dX3_find_113 : decode cX3_find 113 = .ok (.aload_n 1, 1) := by decide +kernel
theorem dX3_find_114 : decode cX3_find 114 = .ok (.iconst 3, 1) := by decide +kernel
theorem dX3_find_115 : decode cX3_find 115 = .ok (.iload_n 2, 1) := by decide +kernel
theorem dX3_find_116 : decode cX3_find 116 = .ok (.imul, 1) := by decide +kernel
theorem dX3_find_117 : decode cX3_find 117 = .ok (.iload 4, 2) := by decide +kernel
theorem dX3_find_119 : decode cX3_find 119 = .ok (.iadd, 1) := by decide +kernel
theorem dX3_find_120 : decode cX3_find 120 = .ok (.iload 5, 2) := by decide +kernel
theorem dX3_find_122 : decode cX3_find 122 = .ok (.invokevirtual 44, 3) := by decide +kernel
theorem dX3_find_125 : decode cX3_find 125 = .ok (.iastore, 1) := by decide +kernel
theorem dX3_find_126 : decode cX3_find 126 = .ok (.iinc 5 1, 3) := by decide +kernel
theorem dX3_find_129 : decode cX3_find 129 = .ok (.goto (-37), 3) := by decide +kernel
theorem dX3_find_132 : decode cX3_find 132 = .ok (.iinc 4 1, 3) := by decide +kernel
theorem dX3_find_135 : decode cX3_find 135 = .ok (.goto (-60), 3) := by decide +kernel
theorem dX3_find_138 : decode cX3_find 138 = .ok (.aload_n 0, 1) := by decide +kernel
theorem dX3_find_139 : decode cX3_find 139 = .ok (.iconst 3, 1) := by decide +kernel
theorem dX3_find_140 : decode cX3_find 140 = .ok (.putfield 47, 3) := by decide +kernel
theorem dX3_find_143 : decode cX3_find 143 = .ok (.aload_n 0, 1) := by decide +kernel
theorem dX3_find_144 : decode cX3_find 144 = .ok (.iload_n 3, 1) := by decide +kernel
theorem dX3_find_145 : decode cX3_find 145 = .ok (.iconst 1, 1) := by decide +kernel
theorem dX3_find_146 : decode cX3_find 146 = .ok (.iadd, 1) := by decide +kernel
theorem dX3_find_147 : decode cX3_find 147 = .ok (.putfield 50, 3) := by decide +kernel
theorem dX3_find_150 : decode cX3_find 150 = .ok (.aload_n 0, 1) := by decide +kernel
theorem dX3_find_151 : decode cX3_find 151 = .ok (.iconst 0, 1) := by decide +kernel
theorem dX3_find_152 : decode cX3_find 152 = .ok (.putfield 53, 3) := by decide +kernel
theorem dX3_find_155 : decode cX3_find 155 = .ok (.aload_n 0, 1) := by decide +kernel
theorem dX3_find_156 : decode cX3_find 156 = .ok (.iconst 3, 1) := by decide +kernel
theorem dX3_find_157 : decode cX3_find 157 = .ok (.putfield 56, 3) := by decide +kernel
theorem dX3_find_160 : decode cX3_find 160 = .ok (.aload_n 0, 1) := by decide +kernel
theorem dX3_find_161 : decode cX3_find 161 = .ok (.aload_n 1, 1) := by decide +kernel
theorem dX3_find_162 : decode cX3_find 162 = .ok (.iconst 0, 1) := by decide +kernel
theorem dX3_find_163 : decode cX3_find 163 = .ok (.aload_n 1, 1) := by decide +kernel
theorem dX3_find_164 : decode cX3_find 164 = .ok (.getfield 59, 3) := by decide +kernel
theorem dX3_find_167 : decode cX3_find 167 = .ok (.iload_n 2, 1) := by decide +kernel
theorem dX3_find_168 : decode cX3_find 168 = .ok (.iaload, 1) := by decide +kernel
theorem dX3_find_169 : decode cX3_find 169 = .ok (.iconst 0, 1) := by decide +kernel
theorem dX3_find_170 : decode cX3_find 170 = .ok (.invokevirtual 62, 3) := by decide +kernel
theorem dX3_find_173 : decode cX3_find 173 = .ok (.return_, 1) := by decide +kernel
theorem dX3_goOn_0 : decode cX3_goOn 0 = .ok (.iload_n 3, 1) := by decide +kernel
theorem dX3_goOn_1 : decode cX3_goOn 1 = .ok (.invokestatic 66, 3) := by decide +kernel
theorem dX3_goOn_4 : decode cX3_goOn 4 = .ok (.iconst 2, 1) := by decide +kernel
theorem dX3_goOn_5 : decode cX3_goOn 5 = .ok (.if_icmp .ne 11, 3) := by decide +kernel
theorem dX3_goOn_8 : decode cX3_goOn 8 = .ok (.aload_n 0, 1) := by decide +kernel
theorem dX3_goOn_9 : decode cX3_goOn 9 = .ok (.iload_n 2, 1) := by decide +kernel
theorem dX3_goOn_10 : decode cX3_goOn 10 = .ok (.iload 4, 2) := by decide +kernel
theorem dX3_goOn_12 : decode cX3_goOn 12 = .ok (.invokevirtual 70, 3) := by decide +kernel
theorem dX3_goOn_15 : decode cX3_goOn 15 = .ok (.return_, 1) := by decide +kernel
theorem dX3_goOn_16 : decode cX3_goOn 16 = .ok (.iload_n 3, 1) := by decide +kernel
theorem dX3_goOn_17 : decode cX3_goOn 17 = .ok (.invokestatic 66, 3) := by decide +kernel
theorem dX3_goOn_20 : decode cX3_goOn 20 = .ok (.iconst 1, 1) := by decide +kernel
theorem dX3_goOn_21 : decode cX3_goOn 21 = .ok (.if_icmp .eq 19, 3) := by decide +kernel
theorem dX3_goOn_24 : decode cX3_goOn 24 = .ok (.iload_n 2, 1) := by decide +kernel
theorem dX3_goOn_25 : decode cX3_goOn 25 = .ok (.aload_n 0, 1) := by decide +kernel
theorem dX3_goOn_26 : decode cX3_goOn 26 = .ok (.getfield 32, 3) := by decide +kernel
theorem dX3_goOn_29 : decode cX3_goOn 29 = .ok (.if_icmp .ge 11, 3) := by decide +kernel
theorem dX3_goOn_32 : decode cX3_goOn 32 = .ok (.iload_n 2, 1) := by decide +kernel
theorem dX3_goOn_33 : decode cX3_goOn 33 = .ok (.aload_n 0, 1) := by decide +kernel
theorem dX3_goOn_34 : decode cX3_goOn 34 = .ok (.getfield 50, 3) := by decide +kernel
theorem dX3_goOn_37 : decode cX3_goOn 37 = .ok (.if_icmp .lt 4, 3) := by decide +kernel
theorem dX3_goOn_40 : decode cX3_goOn 40 = .ok (.return_, 1) := by decide +kernel
theorem dX3_goOn_41 : decode cX3_goOn 41 = .ok (.iconst 0, 1) := by decide +kernel
theorem dX3_goOn_42 : decode cX3_goOn 42 = .ok (.istore 5, 2) := by decide +kernel
theorem dX3_goOn_44 : decode cX3_goOn 44 = .ok (.iload 5, 2) := by decide +kernel
theorem dX3_goOn_46 : decode cX3_goOn 46 = .ok (.iconst 3, 1) := by decide +kernel
theorem dX3_goOn_47 : decode cX3_goOn 47 = .ok (.if_icmp .ge 99, 3) := by decide +kernel
theorem dX3_goOn_50 : decode cX3_goOn 50 = .ok (.iconst 3, 1) := by decide +kernel
theorem dX3_goOn_51 : decode cX3_goOn 51 = .ok (.aload_n 0, 1) := by decide +kernel
theorem dX3_goOn_52 : decode cX3_goOn 52 = .ok (.getfield 24, 3) := by decide +kernel
theorem dX3_goOn_55 : decode cX3_goOn 55 = .ok (.imul, 1) := by decide +kernel
theorem dX3_goOn_56 : decode cX3_goOn 56 = .ok (.iload 5, 2) := by decide +kernel
theorem dX3_goOn_58 : decode cX3_goOn 58 = .ok (.iadd, 1) := by decide +kernel
theorem dX3_goOn_59 : decode cX3_goOn 59 = .ok (.istore 6, 2) := by decide +kernel
theorem dX3_goOn_61 : decode cX3_goOn 61 = .ok (.aload_n 0, 1) := by decide +kernel
theorem dX3_goOn_62 : decode cX3_goOn 62 = .ok (.getfield 21, 3) := by decide +kernel
theorem dX3_goOn_65 : decode cX3_goOn 65 = .ok (.iload 5, 2) := by decide +kernel
theorem dX3_goOn_67 : decode cX3_goOn 67 = .ok (.iaload, 1) := by decide +kernel
theorem dX3_goOn_68 : decode cX3_goOn 68 = .ok (.iconst (-1), 1) := by decide +kernel
theorem dX3_goOn_69 : decode cX3_goOn 69 = .ok (.if_icmp .ne 71, 3) := by decide +kernel
theorem dX3_goOn_72 : decode cX3_goOn 72 = .ok (.aload_n 1, 1) := by decide +kernel
theorem dX3_goOn_73 : decode cX3_goOn 73 = .ok (.iload 6, 2) := by decide +kernel
theorem dX3_goOn_75 : decode cX3_goOn 75 = .ok (.aload_n 1, 1) := by decide +kernel
theorem dX3_goOn_76 : decode cX3_goOn 76 = .ok (.getfield 35, 3) := by decide +kernel
theorem dX3_goOn_79 : decode cX3_goOn 79 = .ok (.iload_n 2, 1) := by decide +kernel
theorem dX3_goOn_80 : decode cX3_goOn 80 = .ok (.iadd, 1) := by decide +kernel
theorem dX3_goOn_81 : decode cX3_goOn 81 = .ok (.iload_n 3, 1) := by decide +kernel
theorem dX3_goOn_82 : decode cX3_goOn 82 = .ok (.invokevirtual 74, 3) := by decide +kernel
theorem dX3_goOn_85 : decode cX3_goOn 85 = .ok (.ifCond .eq 55, 3) := by decide +kernel
theorem dX3_goOn_88 : decode cX3_goOn 88 = .ok (.aload_n 0, 1) := by decide +kernel
theorem dX3_goOn_89 : decode cX3_goOn 89 = .ok (.getfield 21, 3) := by decide +kernel
theorem dX3_goOn_92 : decode cX3_goOn 92 = .ok (.iload 5, 2) := by decide +kernel
theorem dX3_goOn_94 : decode cX3_goOn 94 = .ok (.iload_n 2, 1) := by decide +kernel
theorem dX3_goOn_95 : decode cX3_goOn 95 = .ok (.iastore, 1) := by decide +kernel
theorem dX3_goOn_96 : decode cX3_goOn 96 = .ok (.aload_n 0, 1) := by decide +kernel
theorem dX3_goOn_97 : decode cX3_goOn 97 = .ok (.iload_n 2, 1) := by decide +kernel
theorem dX3_goOn_98 : decode cX3_goOn 98 = .ok (.ifCond .ne 8, 3) := by decide +kernel
theorem dX3_goOn_101 : decode cX3_goOn 101 = .ok (.iload 5, 2) := by decide +kernel
theorem dX3_goOn_103 : decode cX3_goOn 103 = .ok (.goto 7, 3) := by decide +kernel
theorem dX3_goOn_106 : decode cX3_goOn 106 = .ok (.aload_n 0, 1) := by decide +kernel
theorem dX3_goOn_107 : decode cX3_goOn 107 = .ok (.getfield 47, 3) := by decide +kernel
theorem dX3_goOn_110 : decode cX3_goOn 110 = .ok (.putfield 47, 3) := by decide +kernel
theorem dX3_goOn_113 : decode cX3_goOn 113 = .ok (.aload_n 0, 1) := by decide +kernel
theorem dX3_goOn_114 : decode cX3_goOn 114 = .ok (.aload_n 1, 1) := by decide +kernel
theorem dX3_goOn_115 : decode cX3_goOn 115 = .ok (.iload_n 2, 1) := by decide +kernel
theorem dX3_goOn_116 : decode cX3_goOn 116 = .ok (.iconst 1, 1) := by decide +kernel
theorem dX3_goOn_117 : decode cX3_goOn 117 = .ok (.iadd, 1) := by decide +kernel
theorem dX3_goOn_118 : decode cX3_goOn 118 = .ok (.aload_n 0, 1) := by decide +kernel
theorem dX3_goOn_119 : decode cX3_goOn 119 = .ok (.aload_n 1, 1) := by decide +kernel
theorem dX3_goOn_120 : decode cX3_goOn 120 = .ok (.iload_n 2, 1) := by decide +kernel
theorem dX3_goOn_121 : decode cX3_goOn 121 = .ok (.iload_n 3, 1) := by decide +kernel
theorem dX3_goOn_122 : decode cX3_goOn 122 = .ok (.invokevirtual 78, 3) := by decide +kernel
theorem dX3_goOn_125 : decode cX3_goOn 125 = .ok (.iload 4, 2) := by decide +kernel
theorem dX3_goOn_127 : decode cX3_goOn 127 = .ok (.iconst 1, 1) := by decide +kernel
theorem dX3_goOn_128 : decode cX3_goOn 128 = .ok (.iadd, 1) := by decide +kernel
theorem dX3_goOn_129 : decode cX3_goOn 129 = .ok (.invokevirtual 62, 3) := by decide +kernel
theorem dX3_goOn_132 : decode cX3_goOn 132 = .ok (.aload_n 0, 1) := by decide +kernel
theorem dX3_goOn_133 : decode cX3_goOn 133 = .ok (.getfield 21, 3) := by decide +kernel
theorem dX3_goOn_136 : decode cX3_goOn 136 = .ok (.iload 5, 2) := by decide +kernel
theorem dX3_goOn_138 : decode cX3_goOn 138 = .ok (.iconst (-1), 1) := by decide +kernel
theorem dX3_goOn_139 : decode cX3_goOn 139 = .ok (.iastore, 1) := by decide +kernel
theorem dX3_goOn_140 : decode cX3_goOn 140 = .ok (.iinc 5 1, 3) := by decide +kernel
theorem dX3_goOn_143 : decode cX3_goOn 143 = .ok (.goto (-99), 3) := by decide +kernel
theorem dX3_goOn_146 : decode cX3_goOn 146 = .ok (.aload_n 0, 1) := by decide +kernel
theorem dX3_goOn_147 : decode cX3_goOn 147 = .ok (.iload_n 2, 1) := by decide +kernel
theorem dX3_goOn_148 : decode cX3_goOn 148 = .ok (.ifCond .ne 7, 3) := by decide +kernel
theorem dX3_goOn_151 : decode cX3_goOn 151 = .ok (.iconst 3, 1) := by decide +kernel
theorem dX3_goOn_152 : decode cX3_goOn 152 = .ok (.goto 7, 3) := by decide +kernel
theorem dX3_goOn_155 : decode cX3_goOn 155 = .ok (.aload_n 0, 1) := by decide +kernel
theorem dX3_goOn_156 : decode cX3_goOn 156 = .ok (.getfield 47, 3) := by decide +kernel
theorem dX3_goOn_159 : decode cX3_goOn 159 = .ok (.putfield 47, 3) := by decide +kernel
theorem dX3_goOn_162 : decode cX3_goOn 162 = .ok (.aload_n 0, 1) := by decide +kernel
theorem dX3_goOn_163 : decode cX3_goOn 163 = .ok (.aload_n 1, 1) := by decide +kernel
theorem dX3_goOn_164 : decode cX3_goOn 164 = .ok (.iload_n 2, 1) := by decide +kernel
theorem dX3_goOn_165 : decode cX3_goOn 165 = .ok (.iconst 1, 1) := by decide +kernel
theorem dX3_goOn_166 : decode cX3_goOn 166 = .ok (.iadd, 1) := by decide +kernel
theorem dX3_goOn_167 : decode cX3_goOn 167 = .ok (.aload_n 0, 1) := by decide +kernel
theorem dX3_goOn_168 : decode cX3_goOn 168 = .ok (.aload_n 1, 1) := by decide +kernel
theorem dX3_goOn_169 : decode cX3_goOn 169 = .ok (.iload_n 2, 1) := by decide +kernel
theorem dX3_goOn_170 : decode cX3_goOn 170 = .ok (.iload_n 3, 1) := by decide +kernel
theorem dX3_goOn_171 : decode cX3_goOn 171 = .ok (.invokevirtual 78, 3) := by decide +kernel
theorem dX3_goOn_174 : decode cX3_goOn 174 = .ok (.iload 4, 2) := by decide +kernel
theorem dX3_goOn_176 : decode cX3_goOn 176 = .ok (.invokevirtual 62, 3) := by decide +kernel
theorem dX3_goOn_179 : decode cX3_goOn 179 = .ok (.return_, 1) := by decide +kernel
theorem dX3_keep_0 : decode cX3_keep 0 = .ok (.iload_n 1, 1) := by decide +kernel
theorem dX3_keep_1 : decode cX3_keep 1 = .ok (.aload_n 0, 1) := by decide +kernel
theorem dX3_keep_2 : decode cX3_keep 2 = .ok (.getfield 50, 3) := by decide +kernel
theorem dX3_keep_5 : decode cX3_keep 5 = .ok (.if_icmp .lt 19, 3) := by decide +kernel
theorem dX3_keep_8 : decode cX3_keep 8 = .ok (.iload_n 1, 1) := by decide +kernel
theorem dX3_keep_9 : decode cX3_keep 9 = .ok (.aload_n 0, 1) := by decide +kernel
theorem dX3_keep_10 : decode cX3_keep 10 = .ok (.getfield 50, 3) := by decide +kernel
theorem dX3_keep_13 : decode cX3_keep 13 = .ok (.if_icmp .ne 29, 3) := by decide +kernel
theorem dX3_keep_16 : decode cX3_keep 16 = .ok (.iload_n 2, 1) := by decide +kernel
theorem dX3_keep_17 : decode cX3_keep 17 = .ok (.aload_n 0, 1) := by decide +kernel
theorem dX3_keep_18 : decode cX3_keep 18 = .ok (.getfield 53, 3) := by decide +kernel
theorem dX3_keep_21 : decode cX3_keep 21 = .ok (.if_icmp .ge 21, 3) := by decide +kernel
theorem dX3_keep_24 : decode cX3_keep 24 = .ok (.aload_n 0, 1) := by decide +kernel
theorem dX3_keep_25 : decode cX3_keep 25 = .ok (.iload_n 1, 1) := by decide +kernel
theorem dX3_keep_26 : decode cX3_keep 26 = .ok (.putfield 50, 3) := by decide +kernel
theorem dX3_keep_29 : decode cX3_keep 29 = .ok (.aload_n 0, 1) := by decide +kernel
theorem dX3_keep_30 : decode cX3_keep 30 = .ok (.iload_n 2, 1) := by decide +kernel
theorem dX3_keep_31 : decode cX3_keep 31 = .ok (.putfield 53, 3) := by decide +kernel
theorem dX3_keep_34 : decode cX3_keep 34 = .ok (.aload_n 0, 1) := by decide +kernel
theorem dX3_keep_35 : decode cX3_keep 35 = .ok (.aload_n 0, 1) := by decide +kernel
theorem dX3_keep_36 : decode cX3_keep 36 = .ok (.getfield 47, 3) := by decide +kernel
theorem dX3_keep_39 : decode cX3_keep 39 = .ok (.putfield 56, 3) := by decide +kernel
theorem dX3_keep_42 : decode cX3_keep 42 = .ok (.return_, 1) := by decide +kernel
theorem dX3_behind_0 : decode cX3_behind 0 = .ok (.aload_n 0, 1) := by decide +kernel
theorem dX3_behind_1 : decode cX3_behind 1 = .ok (.getfield 9, 3) := by decide +kernel
theorem dX3_behind_4 : decode cX3_behind 4 = .ok (.iload_n 2, 1) := by decide +kernel
theorem dX3_behind_5 : decode cX3_behind 5 = .ok (.iaload, 1) := by decide +kernel
theorem dX3_behind_6 : decode cX3_behind 6 = .ok (.istore 4, 2) := by decide +kernel
theorem dX3_behind_8 : decode cX3_behind 8 = .ok (.aload_n 0, 1) := by decide +kernel
theorem dX3_behind_9 : decode cX3_behind 9 = .ok (.getfield 15, 3) := by decide +kernel
theorem dX3_behind_12 : decode cX3_behind 12 = .ok (.iload_n 2, 1) := by decide +kernel
theorem dX3_behind_13 : decode cX3_behind 13 = .ok (.iaload, 1) := by decide +kernel
theorem dX3_behind_14 : decode cX3_behind 14 = .ok (.istore 5, 2) := by decide +kernel
theorem dX3_behind_16 : decode cX3_behind 16 = .ok (.iconst 0, 1) := by decide +kernel
theorem dX3_behind_17 : decode cX3_behind 17 = .ok (.istore 6, 2) := by decide +kernel
theorem dX3_behind_19 : decode cX3_behind 19 = .ok (.iload 6, 2) := by decide +kernel
theorem dX3_behind_21 : decode cX3_behind 21 = .ok (.iconst 3, 1) := by decide +kernel
theorem dX3_behind_22 : decode cX3_behind 22 = .ok (.if_icmp .ge 86, 3) := by decide +kernel
theorem dX3_behind_25 : decode cX3_behind 25 = .ok (.aload_n 0, 1) := by decide +kernel
theorem dX3_behind_26 : decode cX3_behind 26 = .ok (.getfield 21, 3) := by decide +kernel
theorem dX3_behind_29 : decode cX3_behind 29 = .ok (.iload 6, 2) := by decide +kernel
theorem dX3_behind_31 : decode cX3_behind 31 = .ok (.iaload, 1) := by decide +kernel
theorem dX3_behind_32 : decode cX3_behind 32 = .ok (.iconst (-1), 1) := by decide +kernel
theorem dX3_behind_33 : decode cX3_behind 33 = .ok (.if_icmp .eq 69, 3) := by decide +kernel
theorem dX3_behind_36 : decode cX3_behind 36 = .ok (.aload_n 0, 1) := by decide +kernel
theorem dX3_behind_37 : decode cX3_behind 37 = .ok (.getfield 18, 3) := by decide +kernel
theorem dX3_behind_40 : decode cX3_behind 40 = .ok (.bipush 10, 2) := by decide +kernel
theorem dX3_behind_42 : decode cX3_behind 42 = .ok (.iload 6, 2) := by decide +kernel
theorem dX3_behind_44 : decode cX3_behind 44 = .ok (.imul, 1) := by decide +kernel
theorem dX3_behind_45 : decode cX3_behind 45 = .ok (.iload_n 2, 1) := by decide +kernel
theorem dX3_behind_46 : decode cX3_behind 46 = .ok (.iadd, 1) := by decide +kernel
theorem dX3_behind_47 : decode cX3_behind 47 = .ok (.aload_n 0, 1) := by decide +kernel
theorem dX3_behind_48 : decode cX3_behind 48 = .ok (.getfield 21, 3) := by decide +kernel
theorem dX3_behind_51 : decode cX3_behind 51 = .ok (.iload 6, 2) := by decide +kernel
theorem dX3_behind_53 : decode cX3_behind 53 = .ok (.iaload, 1) := by decide +kernel
theorem dX3_behind_54 : decode cX3_behind 54 = .ok (.isub, 1) := by decide +kernel
theorem dX3_behind_55 : decode cX3_behind 55 = .ok (.iaload, 1) := by decide +kernel
theorem dX3_behind_56 : decode cX3_behind 56 = .ok (.istore 7, 2) := by decide +kernel
theorem dX3_behind_58 : decode cX3_behind 58 = .ok (.aload_n 1, 1) := by decide +kernel
theorem dX3_behind_59 : decode cX3_behind 59 = .ok (.getfield 82, 3) := by decide +kernel
theorem dX3_behind_62 : decode cX3_behind 62 = .ok (.iconst 3, 1) := by decide +kernel
theorem dX3_behind_63 : decode cX3_behind 63 = .ok (.aload_n 0, 1) := by decide +kernel
theorem dX3_behind_64 : decode cX3_behind 64 = .ok (.getfield 24, 3) := by decide +kernel
theorem dX3_behind_67 : decode cX3_behind 67 = .ok (.imul, 1) := by decide +kernel
theorem dX3_behind_68 : decode cX3_behind 68 = .ok (.iload 6, 2) := by decide +kernel
theorem dX3_behind_70 : decode cX3_behind 70 = .ok (.iadd, 1) := by decide +kernel
theorem dX3_behind_71 : decode cX3_behind 71 = .ok (.iaload, 1) := by decide +kernel
theorem dX3_behind_72 : decode cX3_behind 72 = .ok (.istore 8, 2) := by decide +kernel
theorem dX3_behind_74 : decode cX3_behind 74 = .ok (.iload 4, 2) := by decide +kernel
theorem dX3_behind_76 : decode cX3_behind 76 = .ok (.iload 8, 2) := by decide +kernel
theorem dX3_behind_78 : decode cX3_behind 78 = .ok (.iconst 0, 1) := by decide +kernel
theorem dX3_behind_79 : decode cX3_behind 79 = .ok (.invokestatic 85, 3) := by decide +kernel
theorem dX3_behind_82 : decode cX3_behind 82 = .ok (.iload 7, 2) := by decide +kernel
theorem dX3_behind_84 : decode cX3_behind 84 = .ok (.imul, 1) := by decide +kernel
theorem dX3_behind_85 : decode cX3_behind 85 = .ok (.iadd, 1) := by decide +kernel
theorem dX3_behind_86 : decode cX3_behind 86 = .ok (.istore 4, 2) := by decide +kernel
theorem dX3_behind_88 : decode cX3_behind 88 = .ok (.iload 5, 2) := by decide +kernel
theorem dX3_behind_90 : decode cX3_behind 90 = .ok (.iload 8, 2) := by decide +kernel
theorem dX3_behind_92 : decode cX3_behind 92 = .ok (.iconst 1, 1) := by decide +kernel
theorem dX3_behind_93 : decode cX3_behind 93 = .ok (.invokestatic 85, 3) := by decide +kernel
theorem dX3_behind_96 : decode cX3_behind 96 = .ok (.iload 7, 2) := by decide +kernel
theorem dX3_behind_98 : decode cX3_behind 98 = .ok (.imul, 1) := by decide +kernel
theorem dX3_behind_99 : decode cX3_behind 99 = .ok (.iadd, 1) := by decide +kernel
theorem dX3_behind_100 : decode cX3_behind 100 = .ok (.istore 5, 2) := by decide +kernel
theorem dX3_behind_102 : decode cX3_behind 102 = .ok (.iinc 6 1, 3) := by decide +kernel
theorem dX3_behind_105 : decode cX3_behind 105 = .ok (.goto (-86), 3) := by decide +kernel
theorem dX3_behind_108 : decode cX3_behind 108 = .ok (.aload_n 1, 1) := by decide +kernel
theorem dX3_behind_109 : decode cX3_behind 109 = .ok (.aload_n 0, 1) := by decide +kernel
theorem dX3_behind_110 : decode cX3_behind 110 = .ok (.getfield 24, 3) := by decide +kernel
theorem dX3_behind_113 : decode cX3_behind 113 = .ok (.iload_n 3, 1) := by decide +kernel
theorem dX3_behind_114 : decode cX3_behind 114 = .ok (.iload 4, 2) := by decide +kernel
theorem dX3_behind_116 : decode cX3_behind 116 = .ok (.iload 5, 2) := by decide +kernel
theorem dX3_behind_118 : decode cX3_behind 118 = .ok (.invokevirtual 88, 3) := by decide +kernel
theorem dX3_behind_121 : decode cX3_behind 121 = .ok (.ireturn, 1) := by decide +kernel
theorem dX4_init_0 : decode cX4_init 0 = .ok (.aload_n 0, 1) := by decide +kernel
theorem dX4_init_1 : decode cX4_init 1 = .ok (.invokespecial 3, 3) := by decide +kernel
theorem dX4_init_4 : decode cX4_init 4 = .ok (.aload_n 0, 1) := by decide +kernel
theorem dX4_init_5 : decode cX4_init 5 = .ok (.bipush 24, 2) := by decide +kernel
theorem dX4_init_7 : decode cX4_init 7 = .ok (.newarray .int, 2) := by decide +kernel
theorem dX4_init_9 : decode cX4_init 9 = .ok (.putfield 9, 3) := by decide +kernel
theorem dX4_init_12 : decode cX4_init 12 = .ok (.return_, 1) := by decide +kernel
theorem dX4_isThere_0 : decode cX4_isThere 0 = .ok (.aload_n 0, 1) := by decide +kernel
theorem dX4_isThere_1 : decode cX4_isThere 1 = .ok (.getfield 15, 3) := by decide +kernel
theorem dX4_isThere_4 : decode cX4_isThere 4 = .ok (.ifCond .eq 7, 3) := by decide +kernel
theorem dX4_isThere_7 : decode cX4_isThere 7 = .ok (.iconst 1, 1) := by decide +kernel
theorem dX4_isThere_8 : decode cX4_isThere 8 = .ok (.goto 4, 3) := by decide +kernel
theorem dX4_isThere_11 : decode cX4_isThere 11 = .ok (.iconst 0, 1) := by decide +kernel
theorem dX4_isThere_12 : decode cX4_isThere 12 = .ok (.ireturn, 1) := by decide +kernel
theorem dX4_begin_0 : decode cX4_begin 0 = .ok (.aload_n 0, 1) := by decide +kernel
theorem dX4_begin_1 : decode cX4_begin 1 = .ok (.iload_n 1, 1) := by decide +kernel
theorem dX4_begin_2 : decode cX4_begin 2 = .ok (.putfield 15, 3) := by decide +kernel
theorem dX4_begin_5 : decode cX4_begin 5 = .ok (.aload_n 0, 1) := by decide +kernel
theorem dX4_begin_6 : decode cX4_begin 6 = .ok (.iload_n 2, 1) := by decide +kernel
theorem dX4_begin_7 : decode cX4_begin 7 = .ok (.iconst 0, 1) := by decide +kernel
theorem dX4_begin_8 : decode cX4_begin 8 = .ok (.bipush 24, 2) := by decide +kernel
theorem dX4_begin_10 : decode cX4_begin 10 = .ok (.invokestatic 19, 3) := by decide +kernel
theorem dX4_begin_13 : decode cX4_begin 13 = .ok (.putfield 23, 3) := by decide +kernel
theorem dX4_begin_16 : decode cX4_begin 16 = .ok (.iconst 0, 1) := by decide +kernel
theorem dX4_begin_17 : decode cX4_begin 17 = .ok (.istore_n 3, 1) := by decide +kernel
theorem dX4_begin_18 : decode cX4_begin 18 = .ok (.iload_n 3, 1) := by decide +kernel
theorem dX4_begin_19 : decode cX4_begin 19 = .ok (.bipush 24, 2) := by decide +kernel
theorem dX4_begin_21 : decode cX4_begin 21 = .ok (.if_icmp .ge 16, 3) := by decide +kernel
theorem dX4_begin_24 : decode cX4_begin 24 = .ok (.aload_n 0, 1) := by decide +kernel
theorem dX4_begin_25 : decode cX4_begin 25 = .ok (.getfield 9, 3) := by decide +kernel
theorem dX4_begin_28 : decode cX4_begin 28 = .ok (.iload_n 3, 1) := by decide +kernel
theorem dX4_begin_29 : decode cX4_begin 29 = .ok (.iconst 0, 1) := by decide +kernel
theorem dX4_begin_30 : decode cX4_begin 30 = .ok (.iastore, 1) := by decide +kernel
theorem dX4_begin_31 : decode cX4_begin 31 = .ok (.iinc 3 1, 3) := by decide +kernel
theorem dX4_begin_34 : decode cX4_begin 34 = .ok (.goto (-16), 3) := by decide +kernel
theorem dX4_begin_37 : decode cX4_begin 37 = .ok (.return_, 1) := by decide +kernel
theorem dX4_write_0 : decode cX4_write 0 = .ok (.iload_n 1, 1) := by decide +kernel
theorem dX4_write_1 : decode cX4_write 1 = .ok (.aload_n 0, 1) := by decide +kernel
theorem dX4_write_2 : decode cX4_write 2 = .ok (.getfield 23, 3) := by decide +kernel
theorem dX4_write_5 : decode cX4_write 5 = .ok (.invokestatic 26, 3) := by decide +kernel
theorem dX4_write_8 : decode cX4_write 8 = .ok (.ifCond .eq 32, 3) := by decide +kernel
theorem dX4_write_11 : decode cX4_write 11 = .ok (.aload_n 0, 1) := by decide +kernel
theorem dX4_write_12 : decode cX4_write 12 = .ok (.getfield 9, 3) := by decide +kernel
theorem dX4_write_15 : decode cX4_write 15 = .ok (.iload_n 1, 1) := by decide +kernel
theorem dX4_write_16 : decode cX4_write 16 = .ok (.aload_n 0, 1) := by decide +kernel
theorem dX4_write_17 : decode cX4_write 17 = .ok (.getfield 15, 3) := by decide +kernel
theorem dX4_write_20 : decode cX4_write 20 = .ok (.bipush 32, 2) := by decide +kernel
theorem dX4_write_22 : decode cX4_write 22 = .ok (.if_icmp .ne 7, 3) := by decide +kernel
theorem dX4_write_25 : decode cX4_write 25 = .ok (.iload_n 2, 1) := by decide +kernel
theorem dX4_write_26 : decode cX4_write 26 = .ok (.goto 13, 3) := by decide +kernel
theorem dX4_write_29 : decode cX4_write 29 = .ok (.iload_n 2, 1) := by decide +kernel
theorem dX4_write_30 : decode cX4_write 30 = .ok (.iconst 1, 1) := by decide +kernel
theorem dX4_write_31 : decode cX4_write 31 = .ok (.aload_n 0, 1) := by decide +kernel
theorem dX4_write_32 : decode cX4_write 32 = .ok (.getfield 15, 3) := by decide +kernel
theorem dX4_write_35 : decode cX4_write 35 = .ok (.ishl, 1) := by decide +kernel
theorem dX4_write_36 : decode cX4_write 36 = .ok (.iconst 1, 1) := by decide +kernel
theorem dX4_write_37 : decode cX4_write 37 = .ok (.isub, 1) := by decide +kernel
theorem dX4_write_38 : decode cX4_write 38 = .ok (.iand, 1) := by decide +kernel
theorem dX4_write_39 : decode cX4_write 39 = .ok (.iastore, 1) := by decide +kernel
theorem dX4_write_40 : decode cX4_write 40 = .ok (.return_, 1) := by decide +kernel
theorem dX4_holds_0 : decode cX4_holds 0 = .ok (.iload_n 2, 1) := by decide +kernel
theorem dX4_holds_1 : decode cX4_holds 1 = .ok (.ifCond .lt 29, 3) := by decide +kernel
theorem dX4_holds_4 : decode cX4_holds 4 = .ok (.iload_n 2, 1) := by decide +kernel
theorem dX4_holds_5 : decode cX4_holds 5 = .ok (.aload_n 0, 1) := by decide +kernel
theorem dX4_holds_6 : decode cX4_holds 6 = .ok (.getfield 23, 3) := by decide +kernel
theorem dX4_holds_9 : decode cX4_holds 9 = .ok (.if_icmp .gt 21, 3) := by decide +kernel
theorem dX4_holds_12 : decode cX4_holds 12 = .ok (.iload_n 1, 1) := by decide +kernel
theorem dX4_holds_13 : decode cX4_holds 13 = .ok (.ifCond .lt 17, 3) := by decide +kernel
theorem dX4_holds_16 : decode cX4_holds 16 = .ok (.iload_n 1, 1) := by decide +kernel
theorem dX4_holds_17 : decode cX4_holds 17 = .ok (.aload_n 0, 1) := by decide +kernel
theorem dX4_holds_18 : decode cX4_holds 18 = .ok (.getfield 23, 3) := by decide +kernel
theorem dX4_holds_21 : decode cX4_holds 21 = .ok (.iload_n 2, 1) := by decide +kernel
theorem dX4_holds_22 : decode cX4_holds 22 = .ok (.isub, 1) := by decide +kernel
theorem dX4_holds_23 : decode cX4_holds 23 = .ok (.if_icmp .gt 7, 3) := by decide +kernel
theorem dX4_holds_26 : decode cX4_holds 26 = .ok (.iconst 1, 1) := by decide +kernel
theorem dX4_holds_27 : decode cX4_holds 27 = .ok (.goto 4, 3) := by decide +kernel
theorem dX4_holds_30 : decode cX4_holds 30 = .ok (.iconst 0, 1) := by decide +kernel
theorem dX4_holds_31 : decode cX4_holds 31 = .ok (.ireturn, 1) := by decide +kernel
theorem dX5_init_0 : decode cX5_init 0 = .ok (.aload_n 0, 1) := by decide +kernel
theorem dX5_init_1 : decode cX5_init 1 = .ok (.invokespecial 3, 3) := by decide +kernel
theorem dX5_init_4 : decode cX5_init 4 = .ok (.aload_n 0, 1) := by decide +kernel
theorem dX5_init_5 : decode cX5_init 5 = .ok (.bipush 30, 2) := by decide +kernel
theorem dX5_init_7 : decode cX5_init 7 = .ok (.newarray .int, 2) := by decide +kernel
theorem dX5_init_9 : decode cX5_init 9 = .ok (.putfield 11, 3) := by decide +kernel
theorem dX5_init_12 : decode cX5_init 12 = .ok (.return_, 1) := by decide +kernel
theorem dX5_answer_0 : decode cX5_answer 0 = .ok (.aload_n 0, 1) := by decide +kernel
theorem dX5_answer_1 : decode cX5_answer 1 = .ok (.iload_n 1, 1) := by decide +kernel
theorem dX5_answer_2 : decode cX5_answer 2 = .ok (.putfield 15, 3) := by decide +kernel
theorem dX5_answer_5 : decode cX5_answer 5 = .ok (.aload_n 0, 1) := by decide +kernel
theorem dX5_answer_6 : decode cX5_answer 6 = .ok (.iload_n 2, 1) := by decide +kernel
theorem dX5_answer_7 : decode cX5_answer 7 = .ok (.putfield 19, 3) := by decide +kernel
theorem dX5_answer_10 : decode cX5_answer 10 = .ok (.aload_n 0, 1) := by decide +kernel
theorem dX5_answer_11 : decode cX5_answer 11 = .ok (.iload_n 3, 1) := by decide +kernel
theorem dX5_answer_12 : decode cX5_answer 12 = .ok (.putfield 22, 3) := by decide +kernel
theorem dX5_answer_15 : decode cX5_answer 15 = .ok (.aload_n 0, 1) := by decide +kernel
theorem dX5_answer_16 : decode cX5_answer 16 = .ok (.iconst 0, 1) := by decide +kernel
theorem dX5_answer_17 : decode cX5_answer 17 = .ok (.putfield 25, 3) := by decide +kernel
theorem dX5_answer_20 : decode cX5_answer 20 = .ok (.aload_n 0, 1) := by decide +kernel
theorem dX5_answer_21 : decode cX5_answer 21 = .ok (.iconst 0, 1) := by decide +kernel
theorem dX5_answer_22 : decode cX5_answer 22 = .ok (.putfield 29, 3) := by decide +kernel
theorem dX5_answer_25 : decode cX5_answer 25 = .ok (.aload_n 0, 1) := by decide +kernel
theorem dX5_answer_26 : decode cX5_answer 26 = .ok (.iload 4, 2) := by decide +kernel
theorem dX5_answer_28 : decode cX5_answer 28 = .ok (.aload_n 0, 1) := by decide +kernel
theorem dX5_answer_29 : decode cX5_answer 29 = .ok (.getfield 15, 3) := by decide +kernel
theorem dX5_answer_32 : decode cX5_answer 32 = .ok (.iload 5, 2) := by decide +kernel
theorem dX5_answer_34 : decode cX5_answer 34 = .ok (.iconst 0, 1) := by decide +kernel
theorem dX5_answer_35 : decode cX5_answer 35 = .ok (.invokevirtual 32, 3) := by decide +kernel
theorem dX5_answer_38 : decode cX5_answer 38 = .ok (.ireturn, 1) := by decide +kernel
theorem dX5_bodyFrom_0 : decode cX5_bodyFrom 0 = .ok (.iload_n 1, 1) := by decide +kernel
theorem dX5_bodyFrom_1 : decode cX5_bodyFrom 1 = .ok (.istore_n 2, 1) := by decide +kernel
theorem dX5_bodyFrom_2 : decode cX5_bodyFrom 2 = .ok (.iconst 0, 1) := by decide +kernel
theorem dX5_bodyFrom_3 : decode cX5_bodyFrom 3 = .ok (.istore_n 3, 1) := by decide +kernel
theorem dX5_bodyFrom_4 : decode cX5_bodyFrom 4 = .ok (.iload_n 3, 1) := by decide +kernel
theorem dX5_bodyFrom_5 : decode cX5_bodyFrom 5 = .ok (.bipush 7, 2) := by decide +kernel
theorem dX5_bodyFrom_7 : decode cX5_bodyFrom 7 = .ok (.if_icmp .ge 43, 3) := by decide +kernel
theorem dX5_bodyFrom_10 : decode cX5_bodyFrom 10 = .ok (.iload_n 2, 1) := by decide +kernel
theorem dX5_bodyFrom_11 : decode cX5_bodyFrom 11 = .ok (.bipush 7, 2) := by decide +kernel
theorem dX5_bodyFrom_13 : decode cX5_bodyFrom 13 = .ok (.invokestatic 36, 3) := by decide +kernel
theorem dX5_bodyFrom_16 : decode cX5_bodyFrom 16 = .ok (.ifCond .eq 34, 3) := by decide +kernel
theorem dX5_bodyFrom_19 : decode cX5_bodyFrom 19 = .ok (.getstatic 40, 3) := by decide +kernel
theorem dX5_bodyFrom_22 : decode cX5_bodyFrom 22 = .ok (.iconst 4, 1) := by decide +kernel
theorem dX5_bodyFrom_23 : decode cX5_bodyFrom 23 = .ok (.iload_n 2, 1) := by decide +kernel
theorem dX5_bodyFrom_24 : decode cX5_bodyFrom 24 = .ok (.imul, 1) := by decide +kernel
theorem dX5_bodyFrom_25 : decode cX5_bodyFrom 25 = .ok (.iload_n 0, 1) := by decide +kernel
theorem dX5_bodyFrom_26 : decode cX5_bodyFrom 26 = .ok (.iadd, 1) := by decide +kernel
theorem dX5_bodyFrom_27 : decode cX5_bodyFrom 27 = .ok (.iaload, 1) := by decide +kernel
theorem dX5_bodyFrom_28 : decode cX5_bodyFrom 28 = .ok (.istore 4, 2) := by decide +kernel
theorem dX5_bodyFrom_30 : decode cX5_bodyFrom 30 = .ok (.iload 4, 2) := by decide +kernel
theorem dX5_bodyFrom_32 : decode cX5_bodyFrom 32 = .ok (.ifCond .eq 6, 3) := by decide +kernel
theorem dX5_bodyFrom_35 : decode cX5_bodyFrom 35 = .ok (.iload 4, 2) := by decide +kernel
theorem dX5_bodyFrom_37 : decode cX5_bodyFrom 37 = .ok (.ireturn, 1) := by decide +kernel
theorem dX5_bodyFrom_38 : decode cX5_bodyFrom 38 = .ok (.getstatic 43, 3) := by decide +kernel
theorem dX5_bodyFrom_41 : decode cX5_bodyFrom 41 = .ok (.iload_n 2, 1) := by decide +kernel
theorem dX5_bodyFrom_42 : decode cX5_bodyFrom 42 = .ok (.iaload, 1) := by decide +kernel
theorem dX5_bodyFrom_43 : decode cX5_bodyFrom 43 = .ok (.istore_n 2, 1) := by decide +kernel
theorem dX5_bodyFrom_44 : decode cX5_bodyFrom 44 = .ok (.iinc 3 1, 3) := by decide +kernel
theorem dX5_bodyFrom_47 : decode cX5_bodyFrom 47 = .ok (.goto (-43), 3) := by decide +kernel
theorem dX5_bodyFrom_50 : decode cX5_bodyFrom 50 = .ok (.iconst 0, 1) := by decide +kernel
theorem dX5_bodyFrom_51 : decode cX5_bodyFrom 51 = .ok (.ireturn, 1) := by decide +kernel
theorem dX5_begin_0 : decode cX5_begin 0 = .ok (.aload_n 0, 1) := by decide +kernel
theorem dX5_begin_1 : decode cX5_begin 1 = .ok (.getfield 29, 3) := by decide +kernel
theorem dX5_begin_4 : decode cX5_begin 4 = .ok (.bipush 30, 2) := by decide +kernel
theorem dX5_begin_6 : decode cX5_begin 6 = .ok (.if_icmp .ge 23, 3) := by decide +kernel
theorem dX5_begin_9 : decode cX5_begin 9 = .ok (.aload_n 0, 1) := by decide +kernel
theorem dX5_begin_10 : decode cX5_begin 10 = .ok (.getfield 11, 3) := by decide +kernel
theorem dX5_begin_13 : decode cX5_begin 13 = .ok (.aload_n 0, 1) := by decide +kernel
theorem dX5_begin_14 : decode cX5_begin 14 = .ok (.getfield 29, 3) := by decide +kernel
theorem dX5_begin_17 : decode cX5_begin 17 = .ok (.iload_n 1, 1) := by decide +kernel
theorem dX5_begin_18 : decode cX5_begin 18 = .ok (.iastore, 1) := by decide +kernel
theorem dX5_begin_19 : decode cX5_begin 19 = .ok (.aload_n 0, 1) := by decide +kernel
theorem dX5_begin_20 : decode cX5_begin 20 = .ok (.dup, 1) := by decide +kernel
theorem dX5_begin_21 : decode cX5_begin 21 = .ok (.getfield 29, 3) := by decide +kernel
theorem dX5_begin_24 : decode cX5_begin 24 = .ok (.iconst 1, 1) := by decide +kernel
theorem dX5_begin_25 : decode cX5_begin 25 = .ok (.iadd, 1) := by decide +kernel
theorem dX5_begin_26 : decode cX5_begin 26 = .ok (.putfield 29, 3) := by decide +kernel
theorem dX5_begin_29 : decode cX5_begin 29 = .ok (.return_, 1) := by decide +kernel
theorem dX5_speak_0 : decode cX5_speak 0 = .ok (.iload 4, 2) := by decide +kernel
theorem dX5_speak_2 : decode cX5_speak 2 = .ok (.bipush 40, 2) := by decide +kernel
theorem dX5_speak_4 : decode cX5_speak 4 = .ok (.if_icmp .gt 10, 3) := by decide +kernel
theorem dX5_speak_7 : decode cX5_speak 7 = .ok (.aload_n 0, 1) := by decide +kernel
theorem dX5_speak_8 : decode cX5_speak 8 = .ok (.getfield 25, 3) := by decide +kernel
theorem dX5_speak_11 : decode cX5_speak 11 = .ok (.ifCond .eq 5, 3) := by decide +kernel
theorem dX5_speak_14 : decode cX5_speak 14 = .ok (.iconst 0, 1) := by decide +kernel
theorem dX5_speak_15 : decode cX5_speak 15 = .ok (.ireturn, 1) := by decide +kernel
theorem dX5_speak_16 : decode cX5_speak 16 = .ok (.iload_n 1, 1) := by decide +kernel
theorem dX5_speak_17 : decode cX5_speak 17 = .ok (.iload_n 2, 1) := by decide +kernel
theorem dX5_speak_18 : decode cX5_speak 18 = .ok (.invokestatic 46, 3) := by decide +kernel
theorem dX5_speak_21 : decode cX5_speak 21 = .ok (.istore 5, 2) := by decide +kernel
theorem dX5_speak_23 : decode cX5_speak 23 = .ok (.iload 4, 2) := by decide +kernel
theorem dX5_speak_25 : decode cX5_speak 25 = .ok (.iconst 1, 1) := by decide +kernel
theorem dX5_speak_26 : decode cX5_speak 26 = .ok (.iadd, 1) := by decide +kernel
theorem dX5_speak_27 : decode cX5_speak 27 = .ok (.istore 6, 2) := by decide +kernel
theorem dX5_speak_29 : decode cX5_speak 29 = .ok (.aload_n 0, 1) := by decide +kernel
theorem dX5_speak_30 : decode cX5_speak 30 = .ok (.iload 5, 2) := by decide +kernel
theorem dX5_speak_32 : decode cX5_speak 32 = .ok (.invokevirtual 50, 3) := by decide +kernel
theorem dX5_speak_35 : decode cX5_speak 35 = .ok (.iload 5, 2) := by decide +kernel
theorem dX5_speak_37 : decode cX5_speak 37 = .ok (.lookupswitch 320 #[(10, 115), (11, 122), (12, 137), (13, 155), (20, 170), (21, 187), (30, 214), (40, 230), (50, 246), (51, 262), (60, 281), (70, 297), (71, 300)], 115) := by decide +kernel
theorem dX5_speak_152 : decode cX5_speak 152 = .ok (.iload_n 3, 1) := by decide +kernel
theorem dX5_speak_153 : decode cX5_speak 153 = .ok (.aload_n 0, 1) := by decide +kernel
theorem dX5_speak_154 : decode cX5_speak 154 = .ok (.getfield 22, 3) := by decide +kernel
theorem dX5_speak_157 : decode cX5_speak 157 = .ok (.iadd, 1) := by decide +kernel
theorem dX5_speak_158 : decode cX5_speak 158 = .ok (.ireturn, 1) := by decide +kernel
theorem dX5_speak_159 : decode cX5_speak 159 = .ok (.aload_n 0, 1) := by decide +kernel
theorem dX5_speak_160 : decode cX5_speak 160 = .ok (.iconst 0, 1) := by decide +kernel
theorem dX5_speak_161 : decode cX5_speak 161 = .ok (.aload_n 0, 1) := by decide +kernel
theorem dX5_speak_162 : decode cX5_speak 162 = .ok (.getfield 15, 3) := by decide +kernel
theorem dX5_speak_165 : decode cX5_speak 165 = .ok (.iload_n 3, 1) := by decide +kernel
theorem dX5_speak_166 : decode cX5_speak 166 = .ok (.iload 6, 2) := by decide +kernel
theorem dX5_speak_168 : decode cX5_speak 168 = .ok (.invokevirtual 32, 3) := by decide +kernel
theorem dX5_speak_171 : decode cX5_speak 171 = .ok (.iconst 2, 1) := by decide +kernel
theorem dX5_speak_172 : decode cX5_speak 172 = .ok (.imul, 1) := by decide +kernel
theorem dX5_speak_173 : decode cX5_speak 173 = .ok (.ireturn, 1) := by decide +kernel
theorem dX5_speak_174 : decode cX5_speak 174 = .ok (.aload_n 0, 1) := by decide +kernel
theorem dX5_speak_175 : decode cX5_speak 175 = .ok (.iconst 1, 1) := by decide +kernel
theorem dX5_speak_176 : decode cX5_speak 176 = .ok (.aload_n 0, 1) := by decide +kernel
theorem dX5_speak_177 : decode cX5_speak 177 = .ok (.getfield 15, 3) := by decide +kernel
theorem dX5_speak_180 : decode cX5_speak 180 = .ok (.iload_n 3, 1) := by decide +kernel
theorem dX5_speak_181 : decode cX5_speak 181 = .ok (.iload 6, 2) := by decide +kernel
theorem dX5_speak_183 : decode cX5_speak 183 = .ok (.invokevirtual 32, 3) := by decide +kernel
theorem dX5_speak_186 : decode cX5_speak 186 = .ok (.aload_n 0, 1) := by decide +kernel
theorem dX5_speak_187 : decode cX5_speak 187 = .ok (.getfield 19, 3) := by decide +kernel
theorem dX5_speak_190 : decode cX5_speak 190 = .ok (.isub, 1) := by decide +kernel
theorem dX5_speak_191 : decode cX5_speak 191 = .ok (.ireturn, 1) := by decide +kernel
theorem dX5_speak_192 : decode cX5_speak 192 = .ok (.aload_n 0, 1) := by decide +kernel
theorem dX5_speak_193 : decode cX5_speak 193 = .ok (.iload_n 3, 1) := by decide +kernel
theorem dX5_speak_194 : decode cX5_speak 194 = .ok (.aload_n 0, 1) := by decide +kernel
theorem dX5_speak_195 : decode cX5_speak 195 = .ok (.getfield 19, 3) := by decide +kernel
theorem dX5_speak_198 : decode cX5_speak 198 = .ok (.aload_n 0, 1) := by decide +kernel
theorem dX5_speak_199 : decode cX5_speak 199 = .ok (.getfield 22, 3) := by decide +kernel
theorem dX5_speak_202 : decode cX5_speak 202 = .ok (.isub, 1) := by decide +kernel
theorem dX5_speak_203 : decode cX5_speak 203 = .ok (.invokevirtual 54, 3) := by decide +kernel
theorem dX5_speak_206 : decode cX5_speak 206 = .ok (.ireturn, 1) := by decide +kernel
theorem dX5_speak_207 : decode cX5_speak 207 = .ok (.aload_n 0, 1) := by decide +kernel
theorem dX5_speak_208 : decode cX5_speak 208 = .ok (.iconst 0, 1) := by decide +kernel
theorem dX5_speak_209 : decode cX5_speak 209 = .ok (.getstatic 43, 3) := by decide +kernel
theorem dX5_speak_212 : decode cX5_speak 212 = .ok (.iconst 1, 1) := by decide +kernel
theorem dX5_speak_213 : decode cX5_speak 213 = .ok (.iaload, 1) := by decide +kernel
theorem dX5_speak_214 : decode cX5_speak 214 = .ok (.iload_n 3, 1) := by decide +kernel
theorem dX5_speak_215 : decode cX5_speak 215 = .ok (.iload 6, 2) := by decide +kernel
theorem dX5_speak_217 : decode cX5_speak 217 = .ok (.invokevirtual 32, 3) := by decide +kernel
theorem dX5_speak_220 : decode cX5_speak 220 = .ok (.bipush 9, 2) := by decide +kernel
theorem dX5_speak_222 : decode cX5_speak 222 = .ok (.isub, 1) := by decide +kernel
theorem dX5_speak_223 : decode cX5_speak 223 = .ok (.ireturn, 1) := by decide +kernel
theorem dX5_speak_224 : decode cX5_speak 224 = .ok (.aload_n 0, 1) := by decide +kernel
theorem dX5_speak_225 : decode cX5_speak 225 = .ok (.iconst 3, 1) := by decide +kernel
theorem dX5_speak_226 : decode cX5_speak 226 = .ok (.getstatic 43, 3) := by decide +kernel
theorem dX5_speak_229 : decode cX5_speak 229 = .ok (.iconst 1, 1) := by decide +kernel
theorem dX5_speak_230 : decode cX5_speak 230 = .ok (.iaload, 1) := by decide +kernel
theorem dX5_speak_231 : decode cX5_speak 231 = .ok (.iload_n 3, 1) := by decide +kernel
theorem dX5_speak_232 : decode cX5_speak 232 = .ok (.iload 6, 2) := by decide +kernel
theorem dX5_speak_234 : decode cX5_speak 234 = .ok (.invokevirtual 32, 3) := by decide +kernel
theorem dX5_speak_237 : decode cX5_speak 237 = .ok (.aload_n 0, 1) := by decide +kernel
theorem dX5_speak_238 : decode cX5_speak 238 = .ok (.iconst 1, 1) := by decide +kernel
theorem dX5_speak_239 : decode cX5_speak 239 = .ok (.aload_n 0, 1) := by decide +kernel
theorem dX5_speak_240 : decode cX5_speak 240 = .ok (.getfield 15, 3) := by decide +kernel
theorem dX5_speak_243 : decode cX5_speak 243 = .ok (.iconst 1, 1) := by decide +kernel
theorem dX5_speak_244 : decode cX5_speak 244 = .ok (.iload 6, 2) := by decide +kernel
theorem dX5_speak_246 : decode cX5_speak 246 = .ok (.invokevirtual 32, 3) := by decide +kernel
theorem dX5_speak_249 : decode cX5_speak 249 = .ok (.iadd, 1) := by decide +kernel
theorem dX5_speak_250 : decode cX5_speak 250 = .ok (.ireturn, 1) := by decide +kernel
theorem dX5_speak_251 : decode cX5_speak 251 = .ok (.iconst 0, 1) := by decide +kernel
theorem dX5_speak_252 : decode cX5_speak 252 = .ok (.aload_n 0, 1) := by decide +kernel
theorem dX5_speak_253 : decode cX5_speak 253 = .ok (.iconst 1, 1) := by decide +kernel
theorem dX5_speak_254 : decode cX5_speak 254 = .ok (.getstatic 43, 3) := by decide +kernel
theorem dX5_speak_257 : decode cX5_speak 257 = .ok (.iconst 2, 1) := by decide +kernel
theorem dX5_speak_258 : decode cX5_speak 258 = .ok (.iaload, 1) := by decide +kernel
theorem dX5_speak_259 : decode cX5_speak 259 = .ok (.iload_n 3, 1) := by decide +kernel
theorem dX5_speak_260 : decode cX5_speak 260 = .ok (.iload 6, 2) := by decide +kernel
theorem dX5_speak_262 : decode cX5_speak 262 = .ok (.invokevirtual 32, 3) := by decide +kernel
theorem dX5_speak_265 : decode cX5_speak 265 = .ok (.isub, 1) := by decide +kernel
theorem dX5_speak_266 : decode cX5_speak 266 = .ok (.ireturn, 1) := by decide +kernel
theorem dX5_speak_267 : decode cX5_speak 267 = .ok (.aload_n 0, 1) := by decide +kernel
theorem dX5_speak_268 : decode cX5_speak 268 = .ok (.iconst 2, 1) := by decide +kernel
theorem dX5_speak_269 : decode cX5_speak 269 = .ok (.getstatic 43, 3) := by decide +kernel
theorem dX5_speak_272 : decode cX5_speak 272 = .ok (.iconst 3, 1) := by decide +kernel
theorem dX5_speak_273 : decode cX5_speak 273 = .ok (.iaload, 1) := by decide +kernel
theorem dX5_speak_274 : decode cX5_speak 274 = .ok (.iload_n 3, 1) := by decide +kernel
theorem dX5_speak_275 : decode cX5_speak 275 = .ok (.iconst 2, 1) := by decide +kernel
theorem dX5_speak_276 : decode cX5_speak 276 = .ok (.idiv, 1) := by decide +kernel
theorem dX5_speak_277 : decode cX5_speak 277 = .ok (.iload 6, 2) := by decide +kernel
theorem dX5_speak_279 : decode cX5_speak 279 = .ok (.invokevirtual 32, 3) := by decide +kernel
theorem dX5_speak_282 : decode cX5_speak 282 = .ok (.ireturn, 1) := by decide +kernel
theorem dX5_speak_283 : decode cX5_speak 283 = .ok (.aload_n 0, 1) := by decide +kernel
theorem dX5_speak_284 : decode cX5_speak 284 = .ok (.iconst 0, 1) := by decide +kernel
theorem dX5_speak_285 : decode cX5_speak 285 = .ok (.getstatic 43, 3) := by decide +kernel
theorem dX5_speak_288 : decode cX5_speak 288 = .ok (.iconst 4, 1) := by decide +kernel
theorem dX5_speak_289 : decode cX5_speak 289 = .ok (.iaload, 1) := by decide +kernel
theorem dX5_speak_290 : decode cX5_speak 290 = .ok (.iload_n 3, 1) := by decide +kernel
theorem dX5_speak_291 : decode cX5_speak 291 = .ok (.iload 6, 2) := by decide +kernel
theorem dX5_speak_293 : decode cX5_speak 293 = .ok (.invokevirtual 32, 3) := by decide +kernel
theorem dX5_speak_296 : decode cX5_speak 296 = .ok (.iconst 3, 1) := by decide +kernel
theorem dX5_speak_297 : decode cX5_speak 297 = .ok (.imul, 1) := by decide +kernel
theorem dX5_speak_298 : decode cX5_speak 298 = .ok (.ireturn, 1) := by decide +kernel
theorem dX5_speak_299 : decode cX5_speak 299 = .ok (.aload_n 0, 1) := by decide +kernel
theorem dX5_speak_300 : decode cX5_speak 300 = .ok (.iconst 2, 1) := by decide +kernel
theorem dX5_speak_301 : decode cX5_speak 301 = .ok (.getstatic 43, 3) := by decide +kernel
theorem dX5_speak_304 : decode cX5_speak 304 = .ok (.iconst 4, 1) := by decide +kernel
theorem dX5_speak_305 : decode cX5_speak 305 = .ok (.iaload, 1) := by decide +kernel
theorem dX5_speak_306 : decode cX5_speak 306 = .ok (.iload_n 3, 1) := by decide +kernel
theorem dX5_speak_307 : decode cX5_speak 307 = .ok (.iload 6, 2) := by decide +kernel
theorem dX5_speak_309 : decode cX5_speak 309 = .ok (.invokevirtual 32, 3) := by decide +kernel
theorem dX5_speak_312 : decode cX5_speak 312 = .ok (.aload_n 0, 1) := by decide +kernel
theorem dX5_speak_313 : decode cX5_speak 313 = .ok (.getfield 22, 3) := by decide +kernel
theorem dX5_speak_316 : decode cX5_speak 316 = .ok (.ixor, 1) := by decide +kernel
theorem dX5_speak_317 : decode cX5_speak 317 = .ok (.ireturn, 1) := by decide +kernel
theorem dX5_speak_318 : decode cX5_speak 318 = .ok (.aload_n 0, 1) := by decide +kernel
theorem dX5_speak_319 : decode cX5_speak 319 = .ok (.iconst 1, 1) := by decide +kernel
theorem dX5_speak_320 : decode cX5_speak 320 = .ok (.getstatic 43, 3) := by decide +kernel
theorem dX5_speak_323 : decode cX5_speak 323 = .ok (.iconst 5, 1) := by decide +kernel
theorem dX5_speak_324 : decode cX5_speak 324 = .ok (.iaload, 1) := by decide +kernel
theorem dX5_speak_325 : decode cX5_speak 325 = .ok (.iload_n 3, 1) := by decide +kernel
theorem dX5_speak_326 : decode cX5_speak 326 = .ok (.iconst 1, 1) := by decide +kernel
theorem dX5_speak_327 : decode cX5_speak 327 = .ok (.iadd, 1) := by decide +kernel
theorem dX5_speak_328 : decode cX5_speak 328 = .ok (.iload 6, 2) := by decide +kernel
theorem dX5_speak_330 : decode cX5_speak 330 = .ok (.invokevirtual 32, 3) := by decide +kernel
theorem dX5_speak_333 : decode cX5_speak 333 = .ok (.ireturn, 1) := by decide +kernel
theorem dX5_speak_334 : decode cX5_speak 334 = .ok (.bipush 6, 2) := by decide +kernel
theorem dX5_speak_336 : decode cX5_speak 336 = .ok (.ireturn, 1) := by decide +kernel
theorem dX5_speak_337 : decode cX5_speak 337 = .ok (.aload_n 0, 1) := by decide +kernel
theorem dX5_speak_338 : decode cX5_speak 338 = .ok (.iconst 1, 1) := by decide +kernel
theorem dX5_speak_339 : decode cX5_speak 339 = .ok (.getstatic 43, 3) := by decide +kernel
theorem dX5_speak_342 : decode cX5_speak 342 = .ok (.bipush 6, 2) := by decide +kernel
theorem dX5_speak_344 : decode cX5_speak 344 = .ok (.iaload, 1) := by decide +kernel
theorem dX5_speak_345 : decode cX5_speak 345 = .ok (.iload_n 3, 1) := by decide +kernel
theorem dX5_speak_346 : decode cX5_speak 346 = .ok (.iload 6, 2) := by decide +kernel
theorem dX5_speak_348 : decode cX5_speak 348 = .ok (.invokevirtual 32, 3) := by decide +kernel
theorem dX5_speak_351 : decode cX5_speak 351 = .ok (.aload_n 0, 1) := by decide +kernel
theorem dX5_speak_352 : decode cX5_speak 352 = .ok (.getfield 19, 3) := by decide +kernel
theorem dX5_speak_355 : decode cX5_speak 355 = .ok (.iadd, 1) := by decide +kernel
theorem dX5_speak_356 : decode cX5_speak 356 = .ok (.ireturn, 1) := by decide +kernel
theorem dX5_speak_357 : decode cX5_speak 357 = .ok (.iconst 0, 1) := by decide +kernel
theorem dX5_speak_358 : decode cX5_speak 358 = .ok (.ireturn, 1) := by decide +kernel
