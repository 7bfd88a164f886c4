theorem dX0_init_0 : decode cX0_init 0 = .ok (.aload_n 0, 1) := by decide +kernel
theorem dX0_init_1 : decode cX0_init 1 = .ok (.invokespecial 3, 3) := by decide +kernel
theorem dX0_init_4 : decode cX0_init 4 = .ok (.aload_n 0, 1) := by decide +kernel
theorem dX0_init_5 : decode cX0_init 5 = .ok (.iconst 0, 1) := by decide +kernel
theorem dX0_init_6 : decode cX0_init 6 = .ok (.putfield 9, 3) := by decide +kernel
theorem dX0_init_9 : decode cX0_init 9 = .ok (.aload_n 0, 1) := by decide +kernel
theorem dX0_init_10 : decode cX0_init 10 = .ok (.bipush 14, 2) := by decide +kernel
theorem dX0_init_12 : decode cX0_init 12 = .ok (.newarray .int, 2) := by decide +kernel
theorem dX0_init_14 : decode cX0_init 14 = .ok (.putfield 15, 3) := by decide +kernel
theorem dX0_init_17 : decode cX0_init 17 = .ok (.aload_n 0, 1) := by decide +kernel
theorem dX0_init_18 : decode cX0_init 18 = .ok (.bipush 14, 2) := by decide +kernel
theorem dX0_init_20 : decode cX0_init 20 = .ok (.bipush 6, 2) := by decide +kernel
theorem dX0_init_22 : decode cX0_init 22 = .ok (.multianewarray 19 2, 4) := by decide +kernel
theorem dX0_init_26 : decode cX0_init 26 = .ok (.putfield 21, 3) := by decide +kernel
theorem dX0_init_29 : decode cX0_init 29 = .ok (.aload_n 0, 1) := by decide +kernel
theorem dX0_init_30 : decode cX0_init 30 = .ok (.bipush 14, 2) := by decide +kernel
theorem dX0_init_32 : decode cX0_init 32 = .ok (.bipush 6, 2) := by decide +kernel
theorem dX0_init_34 : decode cX0_init 34 = .ok (.multianewarray 19 2, 4) := by decide +kernel
theorem dX0_init_38 : decode cX0_init 38 = .ok (.putfield 24, 3) := by decide +kernel
theorem dX0_init_41 : decode cX0_init 41 = .ok (.aload_n 0, 1) := by decide +kernel
theorem dX0_init_42 : decode cX0_init 42 = .ok (.bipush 14, 2) := by decide +kernel
theorem dX0_init_44 : decode cX0_init 44 = .ok (.newarray .boolean, 2) := by decide +kernel
theorem dX0_init_46 : decode cX0_init 46 = .ok (.putfield 27, 3) := by decide +kernel
theorem dX0_init_49 : decode cX0_init 49 = .ok (.aload_n 0, 1) := by decide +kernel
theorem dX0_init_50 : decode cX0_init 50 = .ok (.bipush 6, 2) := by decide +kernel
theorem dX0_init_52 : decode cX0_init 52 = .ok (.newarray .int, 2) := by decide +kernel
theorem dX0_init_54 : decode cX0_init 54 = .ok (.putfield 31, 3) := by decide +kernel
theorem dX0_init_57 : decode cX0_init 57 = .ok (.return_, 1) := by decide +kernel
theorem dX1_init_0 : decode cX1_init 0 = .ok (.aload_n 0, 1) := by decide +kernel
theorem dX1_init_1 : decode cX1_init 1 = .ok (.invokespecial 3, 3) := by decide +kernel
theorem dX1_init_4 : decode cX1_init 4 = .ok (.aload_n 0, 1) := by decide +kernel
theorem dX1_init_5 : decode cX1_init 5 = .ok (.iconst 0, 1) := by decide +kernel
theorem dX1_init_6 : decode cX1_init 6 = .ok (.putfield 9, 3) := by decide +kernel
theorem dX1_init_9 : decode cX1_init 9 = .ok (.aload_n 0, 1) := by decide +kernel
theorem dX1_init_10 : decode cX1_init 10 = .ok (.bipush 36, 2) := by decide +kernel
theorem dX1_init_12 : decode cX1_init 12 = .ok (.newarray .int, 2) := by decide +kernel
theorem dX1_init_14 : decode cX1_init 14 = .ok (.putfield 15, 3) := by decide +kernel
theorem dX1_init_17 : decode cX1_init 17 = .ok (.aload_n 0, 1) := by decide +kernel
theorem dX1_init_18 : decode cX1_init 18 = .ok (.iconst 0, 1) := by decide +kernel
theorem dX1_init_19 : decode cX1_init 19 = .ok (.putfield 19, 3) := by decide +kernel
theorem dX1_init_22 : decode cX1_init 22 = .ok (.aload_n 0, 1) := by decide +kernel
theorem dX1_init_23 : decode cX1_init 23 = .ok (.bipush 12, 2) := by decide +kernel
theorem dX1_init_25 : decode cX1_init 25 = .ok (.putfield 22, 3) := by decide +kernel
theorem dX1_init_28 : decode cX1_init 28 = .ok (.aload_n 0, 1) := by decide +kernel
theorem dX1_init_29 : decode cX1_init 29 = .ok (.iconst 0, 1) := by decide +kernel
theorem dX1_init_30 : decode cX1_init 30 = .ok (.putfield 25, 3) := by decide +kernel
theorem dX1_init_33 : decode cX1_init 33 = .ok (.return_, 1) := by decide +kernel
theorem dX1_startFrom_0 : decode cX1_startFrom 0 = .ok (.aload_n 0, 1) := by decide +kernel
theorem dX1_startFrom_1 : decode cX1_startFrom 1 = .ok (.aload_n 1, 1) := by decide +kernel
theorem dX1_startFrom_2 : decode cX1_startFrom 2 = .ok (.getfield 28, 3) := by decide +kernel
theorem dX1_startFrom_5 : decode cX1_startFrom 5 = .ok (.putfield 19, 3) := by decide +kernel
theorem dX1_startFrom_8 : decode cX1_startFrom 8 = .ok (.aload_n 0, 1) := by decide +kernel
theorem dX1_startFrom_9 : decode cX1_startFrom 9 = .ok (.aload_n 1, 1) := by decide +kernel
theorem dX1_startFrom_10 : decode cX1_startFrom 10 = .ok (.getfield 33, 3) := by decide +kernel
theorem dX1_startFrom_13 : decode cX1_startFrom 13 = .ok (.putfield 22, 3) := by decide +kernel
theorem dX1_startFrom_16 : decode cX1_startFrom 16 = .ok (.aload_n 0, 1) := by decide +kernel
theorem dX1_startFrom_17 : decode cX1_startFrom 17 = .ok (.iconst 1, 1) := by decide +kernel
theorem dX1_startFrom_18 : decode cX1_startFrom 18 = .ok (.aload_n 0, 1) := by decide +kernel
theorem dX1_startFrom_19 : decode cX1_startFrom 19 = .ok (.getfield 22, 3) := by decide +kernel
theorem dX1_startFrom_22 : decode cX1_startFrom 22 = .ok (.ishl, 1) := by decide +kernel
theorem dX1_startFrom_23 : decode cX1_startFrom 23 = .ok (.iconst 1, 1) := by decide +kernel
theorem dX1_startFrom_24 : decode cX1_startFrom 24 = .ok (.isub, 1) := by decide +kernel
theorem dX1_startFrom_25 : decode cX1_startFrom 25 = .ok (.putfield 25, 3) := by decide +kernel
theorem dX1_startFrom_28 : decode cX1_startFrom 28 = .ok (.aload_n 0, 1) := by decide +kernel
theorem dX1_startFrom_29 : decode cX1_startFrom 29 = .ok (.iconst 0, 1) := by decide +kernel
theorem dX1_startFrom_30 : decode cX1_startFrom 30 = .ok (.putfield 9, 3) := by decide +kernel
theorem dX1_startFrom_33 : decode cX1_startFrom 33 = .ok (.iconst 0, 1) := by decide +kernel
theorem dX1_startFrom_34 : decode cX1_startFrom 34 = .ok (.istore_n 2, 1) := by decide +kernel
theorem dX1_startFrom_35 : decode cX1_startFrom 35 = .ok (.iload_n 2, 1) := by decide +kernel
theorem dX1_startFrom_36 : decode cX1_startFrom 36 = .ok (.aload_n 0, 1) := by decide +kernel
theorem dX1_startFrom_37 : decode cX1_startFrom 37 = .ok (.getfield 19, 3) := by decide +kernel
theorem dX1_startFrom_40 : decode cX1_startFrom 40 = .ok (.if_icmp .ge 49, 3) := by decide +kernel
theorem dX1_startFrom_43 : decode cX1_startFrom 43 = .ok (.iconst 0, 1) := by decide +kernel
theorem dX1_startFrom_44 : decode cX1_startFrom 44 = .ok (.istore_n 3, 1) := by decide +kernel
theorem dX1_startFrom_45 : decode cX1_startFrom 45 = .ok (.iload_n 3, 1) := by decide +kernel
theorem dX1_startFrom_46 : decode cX1_startFrom 46 = .ok (.aload_n 0, 1) := by decide +kernel
theorem dX1_startFrom_47 : decode cX1_startFrom 47 = .ok (.getfield 19, 3) := by decide +kernel
theorem dX1_startFrom_50 : decode cX1_startFrom 50 = .ok (.if_icmp .ge 33, 3) := by decide +kernel
theorem dX1_startFrom_53 : decode cX1_startFrom 53 = .ok (.aload_n 0, 1) := by decide +kernel
theorem dX1_startFrom_54 : decode cX1_startFrom 54 = .ok (.getfield 15, 3) := by decide +kernel
theorem dX1_startFrom_57 : decode cX1_startFrom 57 = .ok (.iload_n 2, 1) := by decide +kernel
theorem dX1_startFrom_58 : decode cX1_startFrom 58 = .ok (.bipush 6, 2) := by decide +kernel
theorem dX1_startFrom_60 : decode cX1_startFrom 60 = .ok (.imul, 1) := by decide +kernel
theorem dX1_startFrom_61 : decode cX1_startFrom 61 = .ok (.iload_n 3, 1) := by decide +kernel
theorem dX1_startFrom_62 : decode cX1_startFrom 62 = .ok (.iadd, 1) := by decide +kernel
theorem dX1_startFrom_63 : decode cX1_startFrom 63 = .ok (.iload_n 2, 1) := by decide +kernel
theorem dX1_startFrom_64 : decode cX1_startFrom 64 = .ok (.iload_n 3, 1) := by decide +kernel
theorem dX1_startFrom_65 : decode cX1_startFrom 65 = .ok (.if_icmp .ne 7, 3) := by decide +kernel
theorem dX1_startFrom_68 : decode cX1_startFrom 68 = .ok (.iconst 1, 1) := by decide +kernel
theorem dX1_startFrom_69 : decode cX1_startFrom 69 = .ok (.goto 7, 3) := by decide +kernel
theorem dX1_startFrom_72 : decode cX1_startFrom 72 = .ok (.aload_n 0, 1) := by decide +kernel
theorem dX1_startFrom_73 : decode cX1_startFrom 73 = .ok (.getfield 25, 3) := by decide +kernel
theorem dX1_startFrom_76 : decode cX1_startFrom 76 = .ok (.iastore, 1) := by decide +kernel
theorem dX1_startFrom_77 : decode cX1_startFrom 77 = .ok (.iinc 3 1, 3) := by decide +kernel
theorem dX1_startFrom_80 : decode cX1_startFrom 80 = .ok (.goto (-35), 3) := by decide +kernel
theorem dX1_startFrom_83 : decode cX1_startFrom 83 = .ok (.iinc 2 1, 3) := by decide +kernel
theorem dX1_startFrom_86 : decode cX1_startFrom 86 = .ok (.goto (-51), 3) := by decide +kernel
theorem dX1_startFrom_89 : decode cX1_startFrom 89 = .ok (.iconst 0, 1) := by decide +kernel
theorem dX1_startFrom_90 : decode cX1_startFrom 90 = .ok (.istore_n 2, 1) := by decide +kernel
theorem dX1_startFrom_91 : decode cX1_startFrom 91 = .ok (.iload_n 2, 1) := by decide +kernel
theorem dX1_startFrom_92 : decode cX1_startFrom 92 = .ok (.aload_n 1, 1) := by decide +kernel
theorem dX1_startFrom_93 : decode cX1_startFrom 93 = .ok (.getfield 34, 3) := by decide +kernel
theorem dX1_startFrom_96 : decode cX1_startFrom 96 = .ok (.if_icmp .ge 31, 3) := by decide +kernel
theorem dX1_startFrom_99 : decode cX1_startFrom 99 = .ok (.aload_n 0, 1) := by decide +kernel
theorem dX1_startFrom_100 : decode cX1_startFrom 100 = .ok (.aload_n 1, 1) := by decide +kernel
theorem dX1_startFrom_101 : decode cX1_startFrom 101 = .ok (.getfield 37, 3) := by decide +kernel
theorem dX1_startFrom_104 : decode cX1_startFrom 104 = .ok (.iload_n 2, 1) := by decide +kernel
theorem dX1_startFrom_105 : decode cX1_startFrom 105 = .ok (.iaload, 1) := by decide +kernel
theorem dX1_startFrom_106 : decode cX1_startFrom 106 = .ok (.aload_n 1, 1) := by decide +kernel
theorem dX1_startFrom_107 : decode cX1_startFrom 107 = .ok (.getfield 40, 3) := by decide +kernel
theorem dX1_startFrom_110 : decode cX1_startFrom 110 = .ok (.iload_n 2, 1) := by decide +kernel
theorem dX1_startFrom_111 : decode cX1_startFrom 111 = .ok (.iaload, 1) := by decide +kernel
theorem dX1_startFrom_112 : decode cX1_startFrom 112 = .ok (.aload_n 1, 1) := by decide +kernel
theorem dX1_startFrom_113 : decode cX1_startFrom 113 = .ok (.iload_n 2, 1) := by decide +kernel
theorem dX1_startFrom_114 : decode cX1_startFrom 114 = .ok (.invokestatic 43, 3) := by decide +kernel
theorem dX1_startFrom_117 : decode cX1_startFrom 117 = .ok (.invokevirtual 47, 3) := by decide +kernel
theorem dX1_startFrom_120 : decode cX1_startFrom 120 = .ok (.pop, 1) := by decide +kernel
theorem dX1_startFrom_121 : decode cX1_startFrom 121 = .ok (.iinc 2 1, 3) := by decide +kernel
theorem dX1_startFrom_124 : decode cX1_startFrom 124 = .ok (.goto (-33), 3) := by decide +kernel
theorem dX1_startFrom_127 : decode cX1_startFrom 127 = .ok (.return_, 1) := by decide +kernel
theorem dX1_keptWith_0 : decode cX1_keptWith 0 = .ok (.iconst 0, 1) := by decide +kernel
theorem dX1_keptWith_1 : decode cX1_keptWith 1 = .ok (.istore_n 2, 1) := by decide +kernel
theorem dX1_keptWith_2 : decode cX1_keptWith 2 = .ok (.iconst 0, 1) := by decide +kernel
theorem dX1_keptWith_3 : decode cX1_keptWith 3 = .ok (.istore_n 3, 1) := by decide +kernel
theorem dX1_keptWith_4 : decode cX1_keptWith 4 = .ok (.iload_n 3, 1) := by decide +kernel
theorem dX1_keptWith_5 : decode cX1_keptWith 5 = .ok (.aload_n 0, 1) := by decide +kernel
theorem dX1_keptWith_6 : decode cX1_keptWith 6 = .ok (.getfield 33, 3) := by decide +kernel
theorem dX1_keptWith_9 : decode cX1_keptWith 9 = .ok (.if_icmp .ge 37, 3) := by decide +kernel
theorem dX1_keptWith_12 : decode cX1_keptWith 12 = .ok (.aload_n 0, 1) := by decide +kernel
theorem dX1_keptWith_13 : decode cX1_keptWith 13 = .ok (.getfield 51, 3) := by decide +kernel
theorem dX1_keptWith_16 : decode cX1_keptWith 16 = .ok (.iload_n 1, 1) := by decide +kernel
theorem dX1_keptWith_17 : decode cX1_keptWith 17 = .ok (.iaload, 1) := by decide +kernel
theorem dX1_keptWith_18 : decode cX1_keptWith 18 = .ok (.aload_n 0, 1) := by decide +kernel
theorem dX1_keptWith_19 : decode cX1_keptWith 19 = .ok (.iload_n 1, 1) := by decide +kernel
theorem dX1_keptWith_20 : decode cX1_keptWith 20 = .ok (.iload_n 3, 1) := by decide +kernel
theorem dX1_keptWith_21 : decode cX1_keptWith 21 = .ok (.invokevirtual 54, 3) := by decide +kernel
theorem dX1_keptWith_24 : decode cX1_keptWith 24 = .ok (.iadd, 1) := by decide +kernel
theorem dX1_keptWith_25 : decode cX1_keptWith 25 = .ok (.aload_n 0, 1) := by decide +kernel
theorem dX1_keptWith_26 : decode cX1_keptWith 26 = .ok (.getfield 58, 3) := by decide +kernel
theorem dX1_keptWith_29 : decode cX1_keptWith 29 = .ok (.iload_n 1, 1) := by decide +kernel
theorem dX1_keptWith_30 : decode cX1_keptWith 30 = .ok (.iaload, 1) := by decide +kernel
theorem dX1_keptWith_31 : decode cX1_keptWith 31 = .ok (.if_icmp .gt 9, 3) := by decide +kernel
theorem dX1_keptWith_34 : decode cX1_keptWith 34 = .ok (.iload_n 2, 1) := by decide +kernel
theorem dX1_keptWith_35 : decode cX1_keptWith 35 = .ok (.iconst 1, 1) := by decide +kernel
theorem dX1_keptWith_36 : decode cX1_keptWith 36 = .ok (.iload_n 3, 1) := by decide +kernel
theorem dX1_keptWith_37 : decode cX1_keptWith 37 = .ok (.ishl, 1) := by decide +kernel
theorem dX1_keptWith_38 : decode cX1_keptWith 38 = .ok (.ior, 1) := by decide +kernel
theorem dX1_keptWith_39 : decode cX1_keptWith 39 = .ok (.istore_n 2, 1) := by decide +kernel
theorem dX1_keptWith_40 : decode cX1_keptWith 40 = .ok (.iinc 3 1, 3) := by decide +kernel
theorem dX1_keptWith_43 : decode cX1_keptWith 43 = .ok (.goto (-39), 3) := by decide +kernel
theorem dX1_keptWith_46 : decode cX1_keptWith 46 = .ok (.iload_n 2, 1) := by decide +kernel
theorem dX1_keptWith_47 : decode cX1_keptWith 47 = .ok (.ireturn, 1) := by decide +kernel
theorem dX1_between_0 : decode cX1_between 0 = .ok (.aload_n 0, 1) := by decide +kernel
theorem dX1_between_1 : decode cX1_between 1 = .ok (.getfield 15, 3) := by decide +kernel
theorem dX1_between_4 : decode cX1_between 4 = .ok (.iload_n 1, 1) := by decide +kernel
theorem dX1_between_5 : decode cX1_between 5 = .ok (.bipush 6, 2) := by decide +kernel
theorem dX1_between_7 : decode cX1_between 7 = .ok (.imul, 1) := by decide +kernel
theorem dX1_between_8 : decode cX1_between 8 = .ok (.iload_n 2, 1) := by decide +kernel
theorem dX1_between_9 : decode cX1_between 9 = .ok (.iadd, 1) := by decide +kernel
theorem dX1_between_10 : decode cX1_between 10 = .ok (.iaload, 1) := by decide +kernel
theorem dX1_between_11 : decode cX1_between 11 = .ok (.ireturn, 1) := by decide +kernel
theorem dX1_allows_0 : decode cX1_allows 0 = .ok (.aload_n 0, 1) := by decide +kernel
theorem dX1_allows_1 : decode cX1_allows 1 = .ok (.iload_n 1, 1) := by decide +kernel
theorem dX1_allows_2 : decode cX1_allows 2 = .ok (.iload_n 2, 1) := by decide +kernel
theorem dX1_allows_3 : decode cX1_allows 3 = .ok (.invokevirtual 61, 3) := by decide +kernel
theorem dX1_allows_6 : decode cX1_allows 6 = .ok (.iload_n 3, 1) := by decide +kernel
theorem dX1_allows_7 : decode cX1_allows 7 = .ok (.ishr, 1) := by decide +kernel
theorem dX1_allows_8 : decode cX1_allows 8 = .ok (.iconst 1, 1) := by decide +kernel
theorem dX1_allows_9 : decode cX1_allows 9 = .ok (.iand, 1) := by decide +kernel
theorem dX1_allows_10 : decode cX1_allows 10 = .ok (.iconst 1, 1) := by decide +kernel
theorem dX1_allows_11 : decode cX1_allows 11 = .ok (.if_icmp .ne 7, 3) := by decide +kernel
theorem dX1_allows_14 : decode cX1_allows 14 = .ok (.iconst 1, 1) := by decide +kernel
theorem dX1_allows_15 : decode cX1_allows 15 = .ok (.goto 4, 3) := by decide +kernel
theorem dX1_allows_18 : decode cX1_allows 18 = .ok (.iconst 0, 1) := by decide +kernel
theorem dX1_allows_19 : decode cX1_allows 19 = .ok (.ireturn, 1) := by decide +kernel
theorem dX1_hasEmptySet_0 : decode cX1_hasEmptySet 0 = .ok (.iconst 0, 1) := by decide +kernel
theorem dX1_hasEmptySet_1 : decode cX1_hasEmptySet 1 = .ok (.istore_n 1, 1) := by decide +kernel
theorem dX1_hasEmptySet_2 : decode cX1_hasEmptySet 2 = .ok (.iload_n 1, 1) := by decide +kernel
theorem dX1_hasEmptySet_3 : decode cX1_hasEmptySet 3 = .ok (.aload_n 0, 1) := by decide +kernel
theorem dX1_hasEmptySet_4 : decode cX1_hasEmptySet 4 = .ok (.getfield 19, 3) := by decide +kernel
theorem dX1_hasEmptySet_7 : decode cX1_hasEmptySet 7 = .ok (.if_icmp .ge 36, 3) := by decide +kernel
theorem dX1_hasEmptySet_10 : decode cX1_hasEmptySet 10 = .ok (.iconst 0, 1) := by decide +kernel
theorem dX1_hasEmptySet_11 : decode cX1_hasEmptySet 11 = .ok (.istore_n 2, 1) := by decide +kernel
theorem dX1_hasEmptySet_12 : decode cX1_hasEmptySet 12 = .ok (.iload_n 2, 1) := by decide +kernel
theorem dX1_hasEmptySet_13 : decode cX1_hasEmptySet 13 = .ok (.aload_n 0, 1) := by decide +kernel
theorem dX1_hasEmptySet_14 : decode cX1_hasEmptySet 14 = .ok (.getfield 19, 3) := by decide +kernel
theorem dX1_hasEmptySet_17 : decode cX1_hasEmptySet 17 = .ok (.if_icmp .ge 20, 3) := by decide +kernel
theorem dX1_hasEmptySet_20 : decode cX1_hasEmptySet 20 = .ok (.aload_n 0, 1) := by decide +kernel
theorem dX1_hasEmptySet_21 : decode cX1_hasEmptySet 21 = .ok (.iload_n 1, 1) := by decide +kernel
theorem dX1_hasEmptySet_22 : decode cX1_hasEmptySet 22 = .ok (.iload_n 2, 1) := by decide +kernel
theorem dX1_hasEmptySet_23 : decode cX1_hasEmptySet 23 = .ok (.invokevirtual 61, 3) := by decide +kernel
theorem dX1_hasEmptySet_26 : decode cX1_hasEmptySet 26 = .ok (.ifCond .ne 5, 3) := by decide +kernel
theorem dX1_hasEmptySet_29 : decode cX1_hasEmptySet 29 = .ok (.iconst 1, 1) := by decide +kernel
theorem dX1_hasEmptySet_30 : decode cX1_hasEmptySet 30 = .ok (.ireturn, 1) := by decide +kernel
theorem dX1_hasEmptySet_31 : decode cX1_hasEmptySet 31 = .ok (.iinc 2 1, 3) := by decide +kernel
theorem dX1_hasEmptySet_34 : decode cX1_hasEmptySet 34 = .ok (.goto (-22), 3) := by decide +kernel
theorem dX1_hasEmptySet_37 : decode cX1_hasEmptySet 37 = .ok (.iinc 1 1, 3) := by decide +kernel
theorem dX1_hasEmptySet_40 : decode cX1_hasEmptySet 40 = .ok (.goto (-38), 3) := by decide +kernel
theorem dX1_hasEmptySet_43 : decode cX1_hasEmptySet 43 = .ok (.iconst 0, 1) := by decide +kernel
theorem dX1_hasEmptySet_44 : decode cX1_hasEmptySet 44 = .ok (.ireturn, 1) := by decide +kernel
theorem dX1_tighten_0 : decode cX1_tighten 0 = .ok (.iconst 1, 1) := by decide +kernel
theorem dX1_tighten_1 : decode cX1_tighten 1 = .ok (.istore_n 1, 1) := by decide +kernel
theorem dX1_tighten_2 : decode cX1_tighten 2 = .ok (.iload_n 1, 1) := by decide +kernel
theorem dX1_tighten_3 : decode cX1_tighten 3 = .ok (.ifCond .eq 31, 3) := by decide +kernel
theorem dX1_tighten_6 : decode cX1_tighten 6 = .ok (.aload_n 0, 1) := by decide +kernel
theorem dX1_tighten_7 : decode cX1_tighten 7 = .ok (.getfield 9, 3) := by decide +kernel
theorem dX1_tighten_10 : decode cX1_tighten 10 = .ok (.sipush 1000, 3) := by decide +kernel
theorem dX1_tighten_13 : decode cX1_tighten 13 = .ok (.if_icmp .ge 21, 3) := by decide +kernel
theorem dX1_tighten_16 : decode cX1_tighten 16 = .ok (.aload_n 0, 1) := by decide +kernel
theorem dX1_tighten_17 : decode cX1_tighten 17 = .ok (.invokevirtual 64, 3) := by decide +kernel
theorem dX1_tighten_20 : decode cX1_tighten 20 = .ok (.istore_n 1, 1) := by decide +kernel
theorem dX1_tighten_21 : decode cX1_tighten 21 = .ok (.aload_n 0, 1) := by decide +kernel
theorem dX1_tighten_22 : decode cX1_tighten 22 = .ok (.dup, 1) := by decide +kernel
theorem dX1_tighten_23 : decode cX1_tighten 23 = .ok (.getfield 9, 3) := by decide +kernel
theorem dX1_tighten_26 : decode cX1_tighten 26 = .ok (.iconst 1, 1) := by decide +kernel
theorem dX1_tighten_27 : decode cX1_tighten 27 = .ok (.iadd, 1) := by decide +kernel
theorem dX1_tighten_28 : decode cX1_tighten 28 = .ok (.putfield 9, 3) := by decide +kernel
theorem dX1_tighten_31 : decode cX1_tighten 31 = .ok (.goto (-29), 3) := by decide +kernel
theorem dX1_tighten_34 : decode cX1_tighten 34 = .ok (.return_, 1) := by decide +kernel
theorem dX1_makeRound_0 : decode cX1_makeRound 0 = .ok (.iconst 0, 1) := by decide +kernel
theorem dX1_makeRound_1 : decode cX1_makeRound 1 = .ok (.istore_n 1, 1) := by decide +kernel
theorem dX1_makeRound_2 : decode cX1_makeRound 2 = .ok (.iconst 0, 1) := by decide +kernel
theorem dX1_makeRound_3 : decode cX1_makeRound 3 = .ok (.istore_n 2, 1) := by decide +kernel
theorem dX1_makeRound_4 : decode cX1_makeRound 4 = .ok (.iload_n 2, 1) := by decide +kernel
theorem dX1_makeRound_5 : decode cX1_makeRound 5 = .ok (.aload_n 0, 1) := by decide +kernel
theorem dX1_makeRound_6 : decode cX1_makeRound 6 = .ok (.getfield 19, 3) := by decide +kernel
theorem dX1_makeRound_9 : decode cX1_makeRound 9 = .ok (.if_icmp .ge 85, 3) := by decide +kernel
theorem dX1_makeRound_12 : decode cX1_makeRound 12 = .ok (.iconst 0, 1) := by decide +kernel
theorem dX1_makeRound_13 : decode cX1_makeRound 13 = .ok (.istore_n 3, 1) := by decide +kernel
theorem dX1_makeRound_14 : decode cX1_makeRound 14 = .ok (.iload_n 3, 1) := by decide +kernel
theorem dX1_makeRound_15 : decode cX1_makeRound 15 = .ok (.aload_n 0, 1) := by decide +kernel
theorem dX1_makeRound_16 : decode cX1_makeRound 16 = .ok (.getfield 19, 3) := by decide +kernel
theorem dX1_makeRound_19 : decode cX1_makeRound 19 = .ok (.if_icmp .ge 69, 3) := by decide +kernel
theorem dX1_makeRound_22 : decode cX1_makeRound 22 = .ok (.iload_n 3, 1) := by decide +kernel
theorem dX1_makeRound_23 : decode cX1_makeRound 23 = .ok (.iconst 1, 1) := by decide +kernel
theorem dX1_makeRound_24 : decode cX1_makeRound 24 = .ok (.iadd, 1) := by decide +kernel
theorem dX1_makeRound_25 : decode cX1_makeRound 25 = .ok (.istore 4, 2) := by decide +kernel
theorem dX1_makeRound_27 : decode cX1_makeRound 27 = .ok (.iload 4, 2) := by decide +kernel
theorem dX1_makeRound_29 : decode cX1_makeRound 29 = .ok (.aload_n 0, 1) := by decide +kernel
theorem dX1_makeRound_30 : decode cX1_makeRound 30 = .ok (.getfield 19, 3) := by decide +kernel
theorem dX1_makeRound_33 : decode cX1_makeRound 33 = .ok (.if_icmp .ge 49, 3) := by decide +kernel
theorem dX1_makeRound_36 : decode cX1_makeRound 36 = .ok (.iload_n 2, 1) := by decide +kernel
theorem dX1_makeRound_37 : decode cX1_makeRound 37 = .ok (.iload_n 3, 1) := by decide +kernel
theorem dX1_makeRound_38 : decode cX1_makeRound 38 = .ok (.if_icmp .eq 38, 3) := by decide +kernel
theorem dX1_makeRound_41 : decode cX1_makeRound 41 = .ok (.iload_n 2, 1) := by decide +kernel
theorem dX1_makeRound_42 : decode cX1_makeRound 42 = .ok (.iload 4, 2) := by decide +kernel
theorem dX1_makeRound_44 : decode cX1_makeRound 44 = .ok (.if_icmp .eq 32, 3) := by decide +kernel
theorem dX1_makeRound_47 : decode cX1_makeRound 47 = .ok (.aload_n 0, 1) := by decide +kernel
theorem dX1_makeRound_48 : decode cX1_makeRound 48 = .ok (.iload_n 3, 1) := by decide +kernel
theorem dX1_makeRound_49 : decode cX1_makeRound 49 = .ok (.iload 4, 2) := by decide +kernel
theorem dX1_makeRound_51 : decode cX1_makeRound 51 = .ok (.aload_n 0, 1) := by decide +kernel
theorem dX1_makeRound_52 : decode cX1_makeRound 52 = .ok (.aload_n 0, 1) := by decide +kernel
theorem dX1_makeRound_53 : decode cX1_makeRound 53 = .ok (.iload_n 3, 1) := by decide +kernel
theorem dX1_makeRound_54 : decode cX1_makeRound 54 = .ok (.iload_n 2, 1) := by decide +kernel
theorem dX1_makeRound_55 : decode cX1_makeRound 55 = .ok (.invokevirtual 61, 3) := by decide +kernel
theorem dX1_makeRound_58 : decode cX1_makeRound 58 = .ok (.aload_n 0, 1) := by decide +kernel
theorem dX1_makeRound_59 : decode cX1_makeRound 59 = .ok (.iload_n 2, 1) := by decide +kernel
theorem dX1_makeRound_60 : decode cX1_makeRound 60 = .ok (.iload 4, 2) := by decide +kernel
theorem dX1_makeRound_62 : decode cX1_makeRound 62 = .ok (.invokevirtual 61, 3) := by decide +kernel
theorem dX1_makeRound_65 : decode cX1_makeRound 65 = .ok (.invokevirtual 68, 3) := by decide +kernel
theorem dX1_makeRound_68 : decode cX1_makeRound 68 = .ok (.invokevirtual 47, 3) := by decide +kernel
theorem dX1_makeRound_71 : decode cX1_makeRound 71 = .ok (.ifCond .eq 5, 3) := by decide +kernel
theorem dX1_makeRound_74 : decode cX1_makeRound 74 = .ok (.iconst 1, 1) := by decide +kernel
theorem dX1_makeRound_75 : decode cX1_makeRound 75 = .ok (.istore_n 1, 1) := by decide +kernel
theorem dX1_makeRound_76 : decode cX1_makeRound 76 = .ok (.iinc 4 1, 3) := by decide +kernel
theorem dX1_makeRound_79 : decode cX1_makeRound 79 = .ok (.goto (-52), 3) := by decide +kernel
theorem dX1_makeRound_82 : decode cX1_makeRound 82 = .ok (.iinc 3 1, 3) := by decide +kernel
theorem dX1_makeRound_85 : decode cX1_makeRound 85 = .ok (.goto (-71), 3) := by decide +kernel
theorem dX1_makeRound_88 : decode cX1_makeRound 88 = .ok (.iinc 2 1, 3) := by decide +kernel
theorem dX1_makeRound_91 : decode cX1_makeRound 91 = .ok (.goto (-87), 3) := by decide +kernel
theorem dX1_makeRound_94 : decode cX1_makeRound 94 = .ok (.iload_n 1, 1) := by decide +kernel
theorem dX1_makeRound_95 : decode cX1_makeRound 95 = .ok (.ireturn, 1) := by decide +kernel
theorem dX1_narrow_0 : decode cX1_narrow 0 = .ok (.aload_n 0, 1) := by decide +kernel
theorem dX1_narrow_1 : decode cX1_narrow 1 = .ok (.iload_n 1, 1) := by decide +kernel
theorem dX1_narrow_2 : decode cX1_narrow 2 = .ok (.iload_n 2, 1) := by decide +kernel
theorem dX1_narrow_3 : decode cX1_narrow 3 = .ok (.invokevirtual 61, 3) := by decide +kernel
theorem dX1_narrow_6 : decode cX1_narrow 6 = .ok (.istore 4, 2) := by decide +kernel
theorem dX1_narrow_8 : decode cX1_narrow 8 = .ok (.iload 4, 2) := by decide +kernel
theorem dX1_narrow_10 : decode cX1_narrow 10 = .ok (.iload_n 3, 1) := by decide +kernel
theorem dX1_narrow_11 : decode cX1_narrow 11 = .ok (.iand, 1) := by decide +kernel
theorem dX1_narrow_12 : decode cX1_narrow 12 = .ok (.istore 5, 2) := by decide +kernel
theorem dX1_narrow_14 : decode cX1_narrow 14 = .ok (.aload_n 0, 1) := by decide +kernel
theorem dX1_narrow_15 : decode cX1_narrow 15 = .ok (.getfield 15, 3) := by decide +kernel
theorem dX1_narrow_18 : decode cX1_narrow 18 = .ok (.iload_n 1, 1) := by decide +kernel
theorem dX1_narrow_19 : decode cX1_narrow 19 = .ok (.bipush 6, 2) := by decide +kernel
theorem dX1_narrow_21 : decode cX1_narrow 21 = .ok (.imul, 1) := by decide +kernel
theorem dX1_narrow_22 : decode cX1_narrow 22 = .ok (.iload_n 2, 1) := by decide +kernel
theorem dX1_narrow_23 : decode cX1_narrow 23 = .ok (.iadd, 1) := by decide +kernel
theorem dX1_narrow_24 : decode cX1_narrow 24 = .ok (.iload 5, 2) := by decide +kernel
theorem dX1_narrow_26 : decode cX1_narrow 26 = .ok (.iastore, 1) := by decide +kernel
theorem dX1_narrow_27 : decode cX1_narrow 27 = .ok (.aload_n 0, 1) := by decide +kernel
theorem dX1_narrow_28 : decode cX1_narrow 28 = .ok (.getfield 15, 3) := by decide +kernel
theorem dX1_narrow_31 : decode cX1_narrow 31 = .ok (.iload_n 2, 1) := by decide +kernel
theorem dX1_narrow_32 : decode cX1_narrow 32 = .ok (.bipush 6, 2) := by decide +kernel
theorem dX1_narrow_34 : decode cX1_narrow 34 = .ok (.imul, 1) := by decide +kernel
theorem dX1_narrow_35 : decode cX1_narrow 35 = .ok (.iload_n 1, 1) := by decide +kernel
theorem dX1_narrow_36 : decode cX1_narrow 36 = .ok (.iadd, 1) := by decide +kernel
theorem dX1_narrow_37 : decode cX1_narrow 37 = .ok (.aload_n 0, 1) := by decide +kernel
theorem dX1_narrow_38 : decode cX1_narrow 38 = .ok (.iload 5, 2) := by decide +kernel
theorem dX1_narrow_40 : decode cX1_narrow 40 = .ok (.invokevirtual 71, 3) := by decide +kernel
theorem dX1_narrow_43 : decode cX1_narrow 43 = .ok (.iastore, 1) := by decide +kernel
theorem dX1_narrow_44 : decode cX1_narrow 44 = .ok (.iload 5, 2) := by decide +kernel
theorem dX1_narrow_46 : decode cX1_narrow 46 = .ok (.iload 4, 2) := by decide +kernel
theorem dX1_narrow_48 : decode cX1_narrow 48 = .ok (.if_icmp .eq 7, 3) := by decide +kernel
theorem dX1_narrow_51 : decode cX1_narrow 51 = .ok (.iconst 1, 1) := by decide +kernel
theorem dX1_narrow_52 : decode cX1_narrow 52 = .ok (.goto 4, 3) := by decide +kernel
theorem dX1_narrow_55 : decode cX1_narrow 55 = .ok (.iconst 0, 1) := by decide +kernel
theorem dX1_narrow_56 : decode cX1_narrow 56 = .ok (.ireturn, 1) := by decide +kernel
theorem dX1_sums_0 : decode cX1_sums 0 = .ok (.iconst 0, 1) := by decide +kernel
theorem dX1_sums_1 : decode cX1_sums 1 = .ok (.istore_n 3, 1) := by decide +kernel
theorem dX1_sums_2 : decode cX1_sums 2 = .ok (.iconst 0, 1) := by decide +kernel
theorem dX1_sums_3 : decode cX1_sums 3 = .ok (.istore 4, 2) := by decide +kernel
theorem dX1_sums_5 : decode cX1_sums 5 = .ok (.iload 4, 2) := by decide +kernel
theorem dX1_sums_7 : decode cX1_sums 7 = .ok (.aload_n 0, 1) := by decide +kernel
theorem dX1_sums_8 : decode cX1_sums 8 = .ok (.getfield 22, 3) := by decide +kernel
theorem dX1_sums_11 : decode cX1_sums 11 = .ok (.if_icmp .ge 36, 3) := by decide +kernel
theorem dX1_sums_14 : decode cX1_sums 14 = .ok (.iload_n 1, 1) := by decide +kernel
theorem dX1_sums_15 : decode cX1_sums 15 = .ok (.iload 4, 2) := by decide +kernel
theorem dX1_sums_17 : decode cX1_sums 17 = .ok (.ishr, 1) := by decide +kernel
theorem dX1_sums_18 : decode cX1_sums 18 = .ok (.iconst 1, 1) := by decide +kernel
theorem dX1_sums_19 : decode cX1_sums 19 = .ok (.iand, 1) := by decide +kernel
theorem dX1_sums_20 : decode cX1_sums 20 = .ok (.iconst 1, 1) := by decide +kernel
theorem dX1_sums_21 : decode cX1_sums 21 = .ok (.if_icmp .ne 20, 3) := by decide +kernel
theorem dX1_sums_24 : decode cX1_sums 24 = .ok (.iload_n 3, 1) := by decide +kernel
theorem dX1_sums_25 : decode cX1_sums 25 = .ok (.iload_n 2, 1) := by decide +kernel
theorem dX1_sums_26 : decode cX1_sums 26 = .ok (.iload 4, 2) := by decide +kernel
theorem dX1_sums_28 : decode cX1_sums 28 = .ok (.ishl, 1) := by decide +kernel
theorem dX1_sums_29 : decode cX1_sums 29 = .ok (.iload_n 2, 1) := by decide +kernel
theorem dX1_sums_30 : decode cX1_sums 30 = .ok (.aload_n 0, 1) := by decide +kernel
theorem dX1_sums_31 : decode cX1_sums 31 = .ok (.getfield 22, 3) := by decide +kernel
theorem dX1_sums_34 : decode cX1_sums 34 = .ok (.iload 4, 2) := by decide +kernel
theorem dX1_sums_36 : decode cX1_sums 36 = .ok (.isub, 1) := by decide +kernel
theorem dX1_sums_37 : decode cX1_sums 37 = .ok (.ishr, 1) := by decide +kernel
theorem dX1_sums_38 : decode cX1_sums 38 = .ok (.ior, 1) := by decide +kernel
theorem dX1_sums_39 : decode cX1_sums 39 = .ok (.ior, 1) := by decide +kernel
theorem dX1_sums_40 : decode cX1_sums 40 = .ok (.istore_n 3, 1) := by decide +kernel
theorem dX1_sums_41 : decode cX1_sums 41 = .ok (.iinc 4 1, 3) := by decide +kernel
theorem dX1_sums_44 : decode cX1_sums 44 = .ok (.goto (-39), 3) := by decide +kernel
theorem dX1_sums_47 : decode cX1_sums 47 = .ok (.iload_n 3, 1) := by decide +kernel
theorem dX1_sums_48 : decode cX1_sums 48 = .ok (.aload_n 0, 1) := by decide +kernel
theorem dX1_sums_49 : decode cX1_sums 49 = .ok (.getfield 25, 3) := by decide +kernel
theorem dX1_sums_52 : decode cX1_sums 52 = .ok (.iand, 1) := by decide +kernel
theorem dX1_sums_53 : decode cX1_sums 53 = .ok (.ireturn, 1) := by decide +kernel
theorem dX1_negated_0 : decode cX1_negated 0 = .ok (.iload_n 1, 1) := by decide +kernel
theorem dX1_negated_1 : decode cX1_negated 1 = .ok (.iconst 1, 1) := by decide +kernel
theorem dX1_negated_2 : decode cX1_negated 2 = .ok (.iand, 1) := by decide +kernel
theorem dX1_negated_3 : decode cX1_negated 3 = .ok (.istore_n 2, 1) := by decide +kernel
theorem dX1_negated_4 : decode cX1_negated 4 = .ok (.iconst 1, 1) := by decide +kernel
theorem dX1_negated_5 : decode cX1_negated 5 = .ok (.istore_n 3, 1) := by decide +kernel
theorem dX1_negated_6 : decode cX1_negated 6 = .ok (.iload_n 3, 1) := by decide +kernel
theorem dX1_negated_7 : decode cX1_negated 7 = .ok (.aload_n 0, 1) := by decide +kernel
theorem dX1_negated_8 : decode cX1_negated 8 = .ok (.getfield 22, 3) := by decide +kernel
theorem dX1_negated_11 : decode cX1_negated 11 = .ok (.if_icmp .ge 29, 3) := by decide +kernel
theorem dX1_negated_14 : decode cX1_negated 14 = .ok (.iload_n 1, 1) := by decide +kernel
theorem dX1_negated_15 : decode cX1_negated 15 = .ok (.iload_n 3, 1) := by decide +kernel
theorem dX1_negated_16 : decode cX1_negated 16 = .ok (.ishr, 1) := by decide +kernel
theorem dX1_negated_17 : decode cX1_negated 17 = .ok (.iconst 1, 1) := by decide +kernel
theorem dX1_negated_18 : decode cX1_negated 18 = .ok (.iand, 1) := by decide +kernel
theorem dX1_negated_19 : decode cX1_negated 19 = .ok (.iconst 1, 1) := by decide +kernel
theorem dX1_negated_20 : decode cX1_negated 20 = .ok (.if_icmp .ne 14, 3) := by decide +kernel
theorem dX1_negated_23 : decode cX1_negated 23 = .ok (.iload_n 2, 1) := by decide +kernel
theorem dX1_negated_24 : decode cX1_negated 24 = .ok (.iconst 1, 1) := by decide +kernel
theorem dX1_negated_25 : decode cX1_negated 25 = .ok (.aload_n 0, 1) := by decide +kernel
theorem dX1_negated_26 : decode cX1_negated 26 = .ok (.getfield 22, 3) := by decide +kernel
theorem dX1_negated_29 : decode cX1_negated 29 = .ok (.iload_n 3, 1) := by decide +kernel
theorem dX1_negated_30 : decode cX1_negated 30 = .ok (.isub, 1) := by decide +kernel
theorem dX1_negated_31 : decode cX1_negated 31 = .ok (.ishl, 1) := by decide +kernel
theorem dX1_negated_32 : decode cX1_negated 32 = .ok (.ior, 1) := by decide +kernel
theorem dX1_negated_33 : decode cX1_negated 33 = .ok (.istore_n 2, 1) := by decide +kernel
theorem dX1_negated_34 : decode cX1_negated 34 = .ok (.iinc 3 1, 3) := by decide +kernel
theorem dX1_negated_37 : decode cX1_negated 37 = .ok (.goto (-31), 3) := by decide +kernel
theorem dX1_negated_40 : decode cX1_negated 40 = .ok (.iload_n 2, 1) := by decide +kernel
theorem dX1_negated_41 : decode cX1_negated 41 = .ok (.ireturn, 1) := by decide +kernel
theorem dX2_init_0 : decode cX2_init 0 = .ok (.aload_n 0, 1) := by decide +kernel
theorem dX2_init_1 : decode cX2_init 1 = .ok (.invokespecial 3, 3) := by decide +kernel
theorem dX2_init_4 : decode cX2_init 4 = .ok (.aload_n 0, 1) := by decide +kernel
theorem dX2_init_5 : decode cX2_init 5 = .ok (.bipush 10, 2) := by decide +kernel
theorem dX2_init_7 : decode cX2_init 7 = .ok (.anewarray 9, 3) := by decide +kernel
theorem dX2_init_10 : decode cX2_init 10 = .ok (.putfield 11, 3) := by decide +kernel
theorem dX2_init_13 : decode cX2_init 13 = .ok (.aload_n 0, 1) := by decide +kernel
theorem dX2_init_14 : decode cX2_init 14 = .ok (.iconst 0, 1) := by decide +kernel
theorem dX2_init_15 : decode cX2_init 15 = .ok (.putfield 17, 3) := by decide +kernel
theorem dX2_init_18 : decode cX2_init 18 = .ok (.aload_n 0, 1) := by decide +kernel
theorem dX2_init_19 : decode cX2_init 19 = .ok (.iconst 0, 1) := by decide +kernel
theorem dX2_init_20 : decode cX2_init 20 = .ok (.putfield 21, 3) := by decide +kernel
theorem dX2_init_23 : decode cX2_init 23 = .ok (.iconst 0, 1) := by decide +kernel
theorem dX2_init_24 : decode cX2_init 24 = .ok (.istore_n 1, 1) := by decide +kernel
theorem dX2_init_25 : decode cX2_init 25 = .ok (.iload_n 1, 1) := by decide +kernel
theorem dX2_init_26 : decode cX2_init 26 = .ok (.bipush 10, 2) := by decide +kernel
theorem dX2_init_28 : decode cX2_init 28 = .ok (.if_icmp .ge 22, 3) := by decide +kernel
theorem dX2_init_31 : decode cX2_init 31 = .ok (.aload_n 0, 1) := by decide +kernel
theorem dX2_init_32 : decode cX2_init 32 = .ok (.getfield 11, 3) := by decide +kernel
theorem dX2_init_35 : decode cX2_init 35 = .ok (.iload_n 1, 1) := by decide +kernel
theorem dX2_init_36 : decode cX2_init 36 = .ok (.new 9, 3) := by decide +kernel
theorem dX2_init_39 : decode cX2_init 39 = .ok (.dup, 1) := by decide +kernel
theorem dX2_init_40 : decode cX2_init 40 = .ok (.invokespecial 24, 3) := by decide +kernel
theorem dX2_init_43 : decode cX2_init 43 = .ok (.aastore, 1) := by decide +kernel
theorem dX2_init_44 : decode cX2_init 44 = .ok (.iinc 1 1, 3) := by decide +kernel
theorem dX2_init_47 : decode cX2_init 47 = .ok (.goto (-22), 3) := by decide +kernel
theorem dX2_init_50 : decode cX2_init 50 = .ok (.return_, 1) := by decide +kernel
theorem dX2_clear_0 : decode cX2_clear 0 = .ok (.aload_n 0, 1) := by decide +kernel
theorem dX2_clear_1 : decode cX2_clear 1 = .ok (.iconst 0, 1) := by decide +kernel
theorem dX2_clear_2 : decode cX2_clear 2 = .ok (.putfield 21, 3) := by decide +kernel
theorem dX2_clear_5 : decode cX2_clear 5 = .ok (.return_, 1) := by decide +kernel
theorem dX2_remember_0 : decode cX2_remember 0 = .ok (.aload_n 0, 1) := by decide +kernel
theorem dX2_remember_1 : decode cX2_remember 1 = .ok (.getfield 11, 3) := by decide +kernel
theorem dX2_remember_4 : decode cX2_remember 4 = .ok (.aload_n 0, 1) := by decide +kernel
theorem dX2_remember_5 : decode cX2_remember 5 = .ok (.getfield 17, 3) := by decide +kernel
theorem dX2_remember_8 : decode cX2_remember 8 = .ok (.aaload, 1) := by decide +kernel
theorem dX2_remember_9 : decode cX2_remember 9 = .ok (.aload_n 1, 1) := by decide +kernel
theorem dX2_remember_10 : decode cX2_remember 10 = .ok (.invokevirtual 25, 3) := by decide +kernel
theorem dX2_remember_13 : decode cX2_remember 13 = .ok (.aload_n 0, 1) := by decide +kernel
theorem dX2_remember_14 : decode cX2_remember 14 = .ok (.aload_n 0, 1) := by decide +kernel
theorem dX2_remember_15 : decode cX2_remember 15 = .ok (.getfield 17, 3) := by decide +kernel
theorem dX2_remember_18 : decode cX2_remember 18 = .ok (.iconst 1, 1) := by decide +kernel
theorem dX2_remember_19 : decode cX2_remember 19 = .ok (.iadd, 1) := by decide +kernel
theorem dX2_remember_20 : decode cX2_remember 20 = .ok (.bipush 10, 2) := by decide +kernel
theorem dX2_remember_22 : decode cX2_remember 22 = .ok (.if_icmp .ge 12, 3) := by decide +kernel
theorem dX2_remember_25 : decode cX2_remember 25 = .ok (.aload_n 0, 1) := by decide +kernel
theorem dX2_remember_26 : decode cX2_remember 26 = .ok (.getfield 17, 3) := by decide +kernel
theorem dX2_remember_29 : decode cX2_remember 29 = .ok (.iconst 1, 1) := by decide +kernel
theorem dX2_remember_30 : decode cX2_remember 30 = .ok (.iadd, 1) := by decide +kernel
theorem dX2_remember_31 : decode cX2_remember 31 = .ok (.goto 4, 3) := by decide +kernel
theorem dX2_remember_34 : decode cX2_remember 34 = .ok (.iconst 0, 1) := by decide +kernel
theorem dX2_remember_35 : decode cX2_remember 35 = .ok (.putfield 17, 3) := by decide +kernel
theorem dX2_remember_38 : decode cX2_remember 38 = .ok (.aload_n 0, 1) := by decide +kernel
theorem dX2_remember_39 : decode cX2_remember 39 = .ok (.aload_n 0, 1) := by decide +kernel
theorem dX2_remember_40 : decode cX2_remember 40 = .ok (.getfield 21, 3) := by decide +kernel
theorem dX2_remember_43 : decode cX2_remember 43 = .ok (.iconst 1, 1) := by decide +kernel
theorem dX2_remember_44 : decode cX2_remember 44 = .ok (.iadd, 1) := by decide +kernel
theorem dX2_remember_45 : decode cX2_remember 45 = .ok (.bipush 10, 2) := by decide +kernel
theorem dX2_remember_47 : decode cX2_remember 47 = .ok (.invokestatic 29, 3) := by decide +kernel
theorem dX2_remember_50 : decode cX2_remember 50 = .ok (.putfield 21, 3) := by decide +kernel
theorem dX2_remember_53 : decode cX2_remember 53 = .ok (.return_, 1) := by decide +kernel
theorem dX2_restore_0 : decode cX2_restore 0 = .ok (.aload_n 0, 1) := by decide +kernel
theorem dX2_restore_1 : decode cX2_restore 1 = .ok (.getfield 21, 3) := by decide +kernel
theorem dX2_restore_4 : decode cX2_restore 4 = .ok (.ifCond .ne 5, 3) := by decide +kernel
theorem dX2_restore_7 : decode cX2_restore 7 = .ok (.iconst (-1), 1) := by decide +kernel
theorem dX2_restore_8 : decode cX2_restore 8 = .ok (.ireturn, 1) := by decide +kernel
theorem dX2_restore_9 : decode cX2_restore 9 = .ok (.aload_n 0, 1) := by decide +kernel
theorem dX2_restore_10 : decode cX2_restore 10 = .ok (.aload_n 0, 1) := by decide +kernel
theorem dX2_restore_11 : decode cX2_restore 11 = .ok (.getfield 17, 3) := by decide +kernel
theorem dX2_restore_14 : decode cX2_restore 14 = .ok (.ifCond .le 12, 3) := by decide +kernel
theorem dX2_restore_17 : decode cX2_restore 17 = .ok (.aload_n 0, 1) := by decide +kernel
theorem dX2_restore_18 : decode cX2_restore 18 = .ok (.getfield 17, 3) := by decide +kernel
theorem dX2_restore_21 : decode cX2_restore 21 = .ok (.iconst 1, 1) := by decide +kernel
theorem dX2_restore_22 : decode cX2_restore 22 = .ok (.isub, 1) := by decide +kernel
theorem dX2_restore_23 : decode cX2_restore 23 = .ok (.goto 5, 3) := by decide +kernel
theorem dX2_restore_26 : decode cX2_restore 26 = .ok (.bipush 9, 2) := by decide +kernel
theorem dX2_restore_28 : decode cX2_restore 28 = .ok (.putfield 17, 3) := by decide +kernel
theorem dX2_restore_31 : decode cX2_restore 31 = .ok (.aload_n 0, 1) := by decide +kernel
theorem dX2_restore_32 : decode cX2_restore 32 = .ok (.dup, 1) := by decide +kernel
theorem dX2_restore_33 : decode cX2_restore 33 = .ok (.getfield 21, 3) := by decide +kernel
theorem dX2_restore_36 : decode cX2_restore 36 = .ok (.iconst 1, 1) := by decide +kernel
theorem dX2_restore_37 : decode cX2_restore 37 = .ok (.isub, 1) := by decide +kernel
theorem dX2_restore_38 : decode cX2_restore 38 = .ok (.putfield 21, 3) := by decide +kernel
theorem dX2_restore_41 : decode cX2_restore 41 = .ok (.aload_n 1, 1) := by decide +kernel
theorem dX2_restore_42 : decode cX2_restore 42 = .ok (.aload_n 0, 1) := by decide +kernel
theorem dX2_restore_43 : decode cX2_restore 43 = .ok (.getfield 11, 3) := by decide +kernel
theorem dX2_restore_46 : decode cX2_restore 46 = .ok (.aload_n 0, 1) := by decide +kernel
theorem dX2_restore_47 : decode cX2_restore 47 = .ok (.getfield 17, 3) := by decide +kernel
theorem dX2_restore_50 : decode cX2_restore 50 = .ok (.aaload, 1) := by decide +kernel
theorem dX2_restore_51 : decode cX2_restore 51 = .ok (.invokevirtual 25, 3) := by decide +kernel
theorem dX2_restore_54 : decode cX2_restore 54 = .ok (.aload_n 0, 1) := by decide +kernel
theorem dX2_restore_55 : decode cX2_restore 55 = .ok (.getfield 21, 3) := by decide +kernel
theorem dX2_restore_58 : decode cX2_restore 58 = .ok (.ireturn, 1) := by decide +kernel
theorem dX3_init_0 : decode cX3_init 0 = .ok (.aload_n 0, 1) := by decide +kernel
theorem dX3_init_1 : decode cX3_init 1 = .ok (.invokespecial 3, 3) := by decide +kernel
theorem dX3_init_4 : decode cX3_init 4 = .ok (.aload_n 0, 1) := by decide +kernel
theorem dX3_init_5 : decode cX3_init 5 = .ok (.bipush 6, 2) := by decide +kernel
theorem dX3_init_7 : decode cX3_init 7 = .ok (.bipush 8, 2) := by decide +kernel
theorem dX3_init_9 : decode cX3_init 9 = .ok (.multianewarray 9 2, 4) := by decide +kernel
theorem dX3_init_13 : decode cX3_init 13 = .ok (.putfield 11, 3) := by decide +kernel
theorem dX3_init_16 : decode cX3_init 16 = .ok (.aload_n 0, 1) := by decide +kernel
theorem dX3_init_17 : decode cX3_init 17 = .ok (.bipush 6, 2) := by decide +kernel
theorem dX3_init_19 : decode cX3_init 19 = .ok (.newarray .int, 2) := by decide +kernel
theorem dX3_init_21 : decode cX3_init 21 = .ok (.putfield 16, 3) := by decide +kernel
theorem dX3_init_24 : decode cX3_init 24 = .ok (.aload_n 0, 1) := by decide +kernel
theorem dX3_init_25 : decode cX3_init 25 = .ok (.iconst 0, 1) := by decide +kernel
theorem dX3_init_26 : decode cX3_init 26 = .ok (.putfield 20, 3) := by decide +kernel
theorem dX3_init_29 : decode cX3_init 29 = .ok (.return_, 1) := by decide +kernel
theorem dX3_clear_0 : decode cX3_clear 0 = .ok (.aload_n 0, 1) := by decide +kernel
theorem dX3_clear_1 : decode cX3_clear 1 = .ok (.iconst 0, 1) := by decide +kernel
theorem dX3_clear_2 : decode cX3_clear 2 = .ok (.putfield 20, 3) := by decide +kernel
theorem dX3_clear_5 : decode cX3_clear 5 = .ok (.return_, 1) := by decide +kernel
theorem dX3_copyFrom_0 : decode cX3_copyFrom 0 = .ok (.aload_n 0, 1) := by decide +kernel
theorem dX3_copyFrom_1 : decode cX3_copyFrom 1 = .ok (.aload_n 1, 1) := by decide +kernel
theorem dX3_copyFrom_2 : decode cX3_copyFrom 2 = .ok (.getfield 20, 3) := by decide +kernel
theorem dX3_copyFrom_5 : decode cX3_copyFrom 5 = .ok (.putfield 20, 3) := by decide +kernel
theorem dX3_copyFrom_8 : decode cX3_copyFrom 8 = .ok (.iconst 0, 1) := by decide +kernel
theorem dX3_copyFrom_9 : decode cX3_copyFrom 9 = .ok (.istore_n 2, 1) := by decide +kernel
theorem dX3_copyFrom_10 : decode cX3_copyFrom 10 = .ok (.iload_n 2, 1) := by decide +kernel
theorem dX3_copyFrom_11 : decode cX3_copyFrom 11 = .ok (.aload_n 0, 1) := by decide +kernel
theorem dX3_copyFrom_12 : decode cX3_copyFrom 12 = .ok (.getfield 20, 3) := by decide +kernel
theorem dX3_copyFrom_15 : decode cX3_copyFrom 15 = .ok (.if_icmp .ge 40, 3) := by decide +kernel
theorem dX3_copyFrom_18 : decode cX3_copyFrom 18 = .ok (.aload_n 0, 1) := by decide +kernel
theorem dX3_copyFrom_19 : decode cX3_copyFrom 19 = .ok (.getfield 16, 3) := by decide +kernel
theorem dX3_copyFrom_22 : decode cX3_copyFrom 22 = .ok (.iload_n 2, 1) := by decide +kernel
theorem dX3_copyFrom_23 : decode cX3_copyFrom 23 = .ok (.aload_n 1, 1) := by decide +kernel
theorem dX3_copyFrom_24 : decode cX3_copyFrom 24 = .ok (.getfield 16, 3) := by decide +kernel
theorem dX3_copyFrom_27 : decode cX3_copyFrom 27 = .ok (.iload_n 2, 1) := by decide +kernel
theorem dX3_copyFrom_28 : decode cX3_copyFrom 28 = .ok (.iaload, 1) := by decide +kernel
theorem dX3_copyFrom_29 : decode cX3_copyFrom 29 = .ok (.iastore, 1) := by decide +kernel
theorem dX3_copyFrom_30 : decode cX3_copyFrom 30 = .ok (.aload_n 1, 1) := by decide +kernel
theorem dX3_copyFrom_31 : decode cX3_copyFrom 31 = .ok (.getfield 11, 3) := by decide +kernel
theorem dX3_copyFrom_34 : decode cX3_copyFrom 34 = .ok (.iload_n 2, 1) := by decide +kernel
theorem dX3_copyFrom_35 : decode cX3_copyFrom 35 = .ok (.aaload, 1) := by decide +kernel
theorem dX3_copyFrom_36 : decode cX3_copyFrom 36 = .ok (.iconst 0, 1) := by decide +kernel
theorem dX3_copyFrom_37 : decode cX3_copyFrom 37 = .ok (.aload_n 0, 1) := by decide +kernel
theorem dX3_copyFrom_38 : decode cX3_copyFrom 38 = .ok (.getfield 11, 3) := by decide +kernel
theorem dX3_copyFrom_41 : decode cX3_copyFrom 41 = .ok (.iload_n 2, 1) := by decide +kernel
theorem dX3_copyFrom_42 : decode cX3_copyFrom 42 = .ok (.aaload, 1) := by decide +kernel
theorem dX3_copyFrom_43 : decode cX3_copyFrom 43 = .ok (.iconst 0, 1) := by decide +kernel
theorem dX3_copyFrom_44 : decode cX3_copyFrom 44 = .ok (.bipush 8, 2) := by decide +kernel
theorem dX3_copyFrom_46 : decode cX3_copyFrom 46 = .ok (.invokestatic 24, 3) := by decide +kernel
theorem dX3_copyFrom_49 : decode cX3_copyFrom 49 = .ok (.iinc 2 1, 3) := by decide +kernel
theorem dX3_copyFrom_52 : decode cX3_copyFrom 52 = .ok (.goto (-42), 3) := by decide +kernel
theorem dX3_copyFrom_55 : decode cX3_copyFrom 55 = .ok (.return_, 1) := by decide +kernel
theorem dX3_append_0 : decode cX3_append 0 = .ok (.aload_n 0, 1) := by decide +kernel
theorem dX3_append_1 : decode cX3_append 1 = .ok (.getfield 20, 3) := by decide +kernel
theorem dX3_append_4 : decode cX3_append 4 = .ok (.bipush 6, 2) := by decide +kernel
theorem dX3_append_6 : decode cX3_append 6 = .ok (.if_icmp .ge 45, 3) := by decide +kernel
theorem dX3_append_9 : decode cX3_append 9 = .ok (.iload_n 3, 1) := by decide +kernel
theorem dX3_append_10 : decode cX3_append 10 = .ok (.bipush 8, 2) := by decide +kernel
theorem dX3_append_12 : decode cX3_append 12 = .ok (.if_icmp .gt 39, 3) := by decide +kernel
theorem dX3_append_15 : decode cX3_append 15 = .ok (.aload_n 1, 1) := by decide +kernel
theorem dX3_append_16 : decode cX3_append 16 = .ok (.iload_n 2, 1) := by decide +kernel
theorem dX3_append_17 : decode cX3_append 17 = .ok (.aload_n 0, 1) := by decide +kernel
theorem dX3_append_18 : decode cX3_append 18 = .ok (.getfield 11, 3) := by decide +kernel
theorem dX3_append_21 : decode cX3_append 21 = .ok (.aload_n 0, 1) := by decide +kernel
theorem dX3_append_22 : decode cX3_append 22 = .ok (.getfield 20, 3) := by decide +kernel
theorem dX3_append_25 : decode cX3_append 25 = .ok (.aaload, 1) := by decide +kernel
theorem dX3_append_26 : decode cX3_append 26 = .ok (.iconst 0, 1) := by decide +kernel
theorem dX3_append_27 : decode cX3_append 27 = .ok (.iload_n 3, 1) := by decide +kernel
theorem dX3_append_28 : decode cX3_append 28 = .ok (.invokestatic 24, 3) := by decide +kernel
theorem dX3_append_31 : decode cX3_append 31 = .ok (.aload_n 0, 1) := by decide +kernel
theorem dX3_append_32 : decode cX3_append 32 = .ok (.getfield 16, 3) := by decide +kernel
theorem dX3_append_35 : decode cX3_append 35 = .ok (.aload_n 0, 1) := by decide +kernel
theorem dX3_append_36 : decode cX3_append 36 = .ok (.getfield 20, 3) := by decide +kernel
theorem dX3_append_39 : decode cX3_append 39 = .ok (.iload_n 3, 1) := by decide +kernel
theorem dX3_append_40 : decode cX3_append 40 = .ok (.iastore, 1) := by decide +kernel
theorem dX3_append_41 : decode cX3_append 41 = .ok (.aload_n 0, 1) := by decide +kernel
theorem dX3_append_42 : decode cX3_append 42 = .ok (.dup, 1) := by decide +kernel
theorem dX3_append_43 : decode cX3_append 43 = .ok (.getfield 20, 3) := by decide +kernel
theorem dX3_append_46 : decode cX3_append 46 = .ok (.iconst 1, 1) := by decide +kernel
theorem dX3_append_47 : decode cX3_append 47 = .ok (.iadd, 1) := by decide +kernel
theorem dX3_append_48 : decode cX3_append 48 = .ok (.putfield 20, 3) := by decide +kernel
theorem dX3_append_51 : decode cX3_append 51 = .ok (.return_, 1) := by decide +kernel
theorem dX3_indexOf_0 : decode cX3_indexOf 0 = .ok (.iconst 0, 1) := by decide +kernel
theorem dX3_indexOf_1 : decode cX3_indexOf 1 = .ok (.istore 4, 2) := by decide +kernel
theorem dX3_indexOf_3 : decode cX3_indexOf 3 = .ok (.iload 4, 2) := by decide +kernel
theorem dX3_indexOf_5 : decode cX3_indexOf 5 = .ok (.aload_n 0, 1) := by decide +kernel
theorem dX3_indexOf_6 : decode cX3_indexOf 6 = .ok (.getfield 20, 3) := by decide +kernel
theorem dX3_indexOf_9 : decode cX3_indexOf 9 = .ok (.if_icmp .ge 34, 3) := by decide +kernel
theorem dX3_indexOf_12 : decode cX3_indexOf 12 = .ok (.aload_n 0, 1) := by decide +kernel
theorem dX3_indexOf_13 : decode cX3_indexOf 13 = .ok (.getfield 16, 3) := by decide +kernel
theorem dX3_indexOf_16 : decode cX3_indexOf 16 = .ok (.iload 4, 2) := by decide +kernel
theorem dX3_indexOf_18 : decode cX3_indexOf 18 = .ok (.iaload, 1) := by decide +kernel
theorem dX3_indexOf_19 : decode cX3_indexOf 19 = .ok (.iload_n 3, 1) := by decide +kernel
theorem dX3_indexOf_20 : decode cX3_indexOf 20 = .ok (.if_icmp .ne 17, 3) := by decide +kernel
theorem dX3_indexOf_23 : decode cX3_indexOf 23 = .ok (.aload_n 0, 1) := by decide +kernel
theorem dX3_indexOf_24 : decode cX3_indexOf 24 = .ok (.iload 4, 2) := by decide +kernel
theorem dX3_indexOf_26 : decode cX3_indexOf 26 = .ok (.aload_n 1, 1) := by decide +kernel
theorem dX3_indexOf_27 : decode cX3_indexOf 27 = .ok (.iload_n 2, 1) := by decide +kernel
theorem dX3_indexOf_28 : decode cX3_indexOf 28 = .ok (.invokevirtual 30, 3) := by decide +kernel
theorem dX3_indexOf_31 : decode cX3_indexOf 31 = .ok (.ifCond .eq 6, 3) := by decide +kernel
theorem dX3_indexOf_34 : decode cX3_indexOf 34 = .ok (.iload 4, 2) := by decide +kernel
theorem dX3_indexOf_36 : decode cX3_indexOf 36 = .ok (.ireturn, 1) := by decide +kernel
theorem dX3_indexOf_37 : decode cX3_indexOf 37 = .ok (.iinc 4 1, 3) := by decide +kernel
theorem dX3_indexOf_40 : decode cX3_indexOf 40 = .ok (.goto (-37), 3) := by decide +kernel
theorem dX3_indexOf_43 : decode cX3_indexOf 43 = .ok (.iconst (-1), 1) := by decide +kernel
theorem dX3_indexOf_44 : decode cX3_indexOf 44 = .ok (.ireturn, 1) := by decide +kernel
theorem dX3_matches_0 : decode cX3_matches 0 = .ok (.iconst 0, 1) := by decide +kernel
theorem dX3_matches_1 : decode cX3_matches 1 = .ok (.istore 4, 2) := by decide +kernel
theorem dX3_matches_3 : decode cX3_matches 3 = .ok (.iload 4, 2) := by decide +kernel
theorem dX3_matches_5 : decode cX3_matches 5 = .ok (.aload_n 0, 1) := by decide +kernel
theorem dX3_matches_6 : decode cX3_matches 6 = .ok (.getfield 16, 3) := by decide +kernel
theorem dX3_matches_9 : decode cX3_matches 9 = .ok (.iload_n 1, 1) := by decide +kernel
theorem dX3_matches_10 : decode cX3_matches 10 = .ok (.iaload, 1) := by decide +kernel
theorem dX3_matches_11 : decode cX3_matches 11 = .ok (.if_icmp .ge 29, 3) := by decide +kernel
theorem dX3_matches_14 : decode cX3_matches 14 = .ok (.aload_n 0, 1) := by decide +kernel
theorem dX3_matches_15 : decode cX3_matches 15 = .ok (.getfield 11, 3) := by decide +kernel
theorem dX3_matches_18 : decode cX3_matches 18 = .ok (.iload_n 1, 1) := by decide +kernel
theorem dX3_matches_19 : decode cX3_matches 19 = .ok (.aaload, 1) := by decide +kernel
theorem dX3_matches_20 : decode cX3_matches 20 = .ok (.iload 4, 2) := by decide +kernel
theorem dX3_matches_22 : decode cX3_matches 22 = .ok (.baload, 1) := by decide +kernel
theorem dX3_matches_23 : decode cX3_matches 23 = .ok (.aload_n 2, 1) := by decide +kernel
theorem dX3_matches_24 : decode cX3_matches 24 = .ok (.iload_n 3, 1) := by decide +kernel
theorem dX3_matches_25 : decode cX3_matches 25 = .ok (.iload 4, 2) := by decide +kernel
theorem dX3_matches_27 : decode cX3_matches 27 = .ok (.iadd, 1) := by decide +kernel
theorem dX3_matches_28 : decode cX3_matches 28 = .ok (.baload, 1) := by decide +kernel
theorem dX3_matches_29 : decode cX3_matches 29 = .ok (.if_icmp .eq 5, 3) := by decide +kernel
theorem dX3_matches_32 : decode cX3_matches 32 = .ok (.iconst 0, 1) := by decide +kernel
theorem dX3_matches_33 : decode cX3_matches 33 = .ok (.ireturn, 1) := by decide +kernel
theorem dX3_matches_34 : decode cX3_matches 34 = .ok (.iinc 4 1, 3) := by decide +kernel
theorem dX3_matches_37 : decode cX3_matches 37 = .ok (.goto (-34), 3) := by decide +kernel
theorem dX3_matches_40 : decode cX3_matches 40 = .ok (.iconst 1, 1) := by decide +kernel
theorem dX3_matches_41 : decode cX3_matches 41 = .ok (.ireturn, 1) := by decide +kernel
theorem dX4_init_0 : decode cX4_init 0 = .ok (.aload_n 0, 1) := by decide +kernel
theorem dX4_init_1 : decode cX4_init 1 = .ok (.invokespecial 3, 3) := by decide +kernel
theorem dX4_init_4 : decode cX4_init 4 = .ok (.aload_n 0, 1) := by decide +kernel
theorem dX4_init_5 : decode cX4_init 5 = .ok (.sipush 160, 3) := by decide +kernel
theorem dX4_init_8 : decode cX4_init 8 = .ok (.newarray .char, 2) := by decide +kernel
theorem dX4_init_10 : decode cX4_init 10 = .ok (.putfield 9, 3) := by decide +kernel
theorem dX4_init_13 : decode cX4_init 13 = .ok (.aload_n 0, 1) := by decide +kernel
theorem dX4_init_14 : decode cX4_init 14 = .ok (.iconst 0, 1) := by decide +kernel
theorem dX4_init_15 : decode cX4_init 15 = .ok (.putfield 15, 3) := by decide +kernel
theorem dX4_init_18 : decode cX4_init 18 = .ok (.return_, 1) := by decide +kernel
theorem dX5_init_0 : decode cX5_init 0 = .ok (.aload_n 0, 1) := by decide +kernel
theorem dX5_init_1 : decode cX5_init 1 = .ok (.invokespecial 3, 3) := by decide +kernel
theorem dX5_init_4 : decode cX5_init 4 = .ok (.aload_n 0, 1) := by decide +kernel
theorem dX5_init_5 : decode cX5_init 5 = .ok (.bipush 12, 2) := by decide +kernel
theorem dX5_init_7 : decode cX5_init 7 = .ok (.putfield 9, 3) := by decide +kernel
theorem dX5_init_10 : decode cX5_init 10 = .ok (.aload_n 0, 1) := by decide +kernel
theorem dX5_init_11 : decode cX5_init 11 = .ok (.iconst 0, 1) := by decide +kernel
theorem dX5_init_12 : decode cX5_init 12 = .ok (.putfield 15, 3) := by decide +kernel
theorem dX5_init_15 : decode cX5_init 15 = .ok (.aload_n 0, 1) := by decide +kernel
theorem dX5_init_16 : decode cX5_init 16 = .ok (.iconst 0, 1) := by decide +kernel
theorem dX5_init_17 : decode cX5_init 17 = .ok (.putfield 18, 3) := by decide +kernel
theorem dX5_init_20 : decode cX5_init 20 = .ok (.aload_n 0, 1) := by decide +kernel
theorem dX5_init_21 : decode cX5_init 21 = .ok (.bipush 6, 2) := by decide +kernel
theorem dX5_init_23 : decode cX5_init 23 = .ok (.newarray .int, 2) := by decide +kernel
theorem dX5_init_25 : decode cX5_init 25 = .ok (.putfield 21, 3) := by decide +kernel
theorem dX5_init_28 : decode cX5_init 28 = .ok (.aload_n 0, 1) := by decide +kernel
theorem dX5_init_29 : decode cX5_init 29 = .ok (.bipush 14, 2) := by decide +kernel
theorem dX5_init_31 : decode cX5_init 31 = .ok (.newarray .int, 2) := by decide +kernel
theorem dX5_init_33 : decode cX5_init 33 = .ok (.putfield 25, 3) := by decide +kernel
theorem dX5_init_36 : decode cX5_init 36 = .ok (.aload_n 0, 1) := by decide +kernel
theorem dX5_init_37 : decode cX5_init 37 = .ok (.bipush 14, 2) := by decide +kernel
theorem dX5_init_39 : decode cX5_init 39 = .ok (.newarray .int, 2) := by decide +kernel
theorem dX5_init_41 : decode cX5_init 41 = .ok (.putfield 28, 3) := by decide +kernel
theorem dX5_init_44 : decode cX5_init 44 = .ok (.aload_n 0, 1) := by decide +kernel
theorem dX5_init_45 : decode cX5_init 45 = .ok (.bipush 14, 2) := by decide +kernel
theorem dX5_init_47 : decode cX5_init 47 = .ok (.newarray .int, 2) := by decide +kernel
theorem dX5_init_49 : decode cX5_init 49 = .ok (.putfield 31, 3) := by decide +kernel
theorem dX5_init_52 : decode cX5_init 52 = .ok (.aload_n 0, 1) := by decide +kernel
theorem dX5_init_53 : decode cX5_init 53 = .ok (.bipush 14, 2) := by decide +kernel
theorem dX5_init_55 : decode cX5_init 55 = .ok (.newarray .int, 2) := by decide +kernel
theorem dX5_init_57 : decode cX5_init 57 = .ok (.putfield 34, 3) := by decide +kernel
theorem dX5_init_60 : decode cX5_init 60 = .ok (.aload_n 0, 1) := by decide +kernel
theorem dX5_init_61 : decode cX5_init 61 = .ok (.bipush 14, 2) := by decide +kernel
theorem dX5_init_63 : decode cX5_init 63 = .ok (.newarray .int, 2) := by decide +kernel
theorem dX5_init_65 : decode cX5_init 65 = .ok (.putfield 37, 3) := by decide +kernel
theorem dX5_init_68 : decode cX5_init 68 = .ok (.return_, 1) := by decide +kernel
theorem dX5_startWith_0 : decode cX5_startWith 0 = .ok (.aload_n 0, 1) := by decide +kernel
theorem dX5_startWith_1 : decode cX5_startWith 1 = .ok (.iload_n 1, 1) := by decide +kernel
theorem dX5_startWith_2 : decode cX5_startWith 2 = .ok (.putfield 9, 3) := by decide +kernel
theorem dX5_startWith_5 : decode cX5_startWith 5 = .ok (.aload_n 0, 1) := by decide +kernel
theorem dX5_startWith_6 : decode cX5_startWith 6 = .ok (.iconst 0, 1) := by decide +kernel
theorem dX5_startWith_7 : decode cX5_startWith 7 = .ok (.putfield 15, 3) := by decide +kernel
theorem dX5_startWith_10 : decode cX5_startWith 10 = .ok (.aload_n 0, 1) := by decide +kernel
theorem dX5_startWith_11 : decode cX5_startWith 11 = .ok (.iconst 0, 1) := by decide +kernel
theorem dX5_startWith_12 : decode cX5_startWith 12 = .ok (.putfield 18, 3) := by decide +kernel
theorem dX5_startWith_15 : decode cX5_startWith 15 = .ok (.return_, 1) := by decide +kernel
theorem dX5_copyFrom_0 : decode cX5_copyFrom 0 = .ok (.aload_n 0, 1) := by decide +kernel
theorem dX5_copyFrom_1 : decode cX5_copyFrom 1 = .ok (.aload_n 1, 1) := by decide +kernel
theorem dX5_copyFrom_2 : decode cX5_copyFrom 2 = .ok (.getfield 9, 3) := by decide +kernel
theorem dX5_copyFrom_5 : decode cX5_copyFrom 5 = .ok (.putfield 9, 3) := by decide +kernel
theorem dX5_copyFrom_8 : decode cX5_copyFrom 8 = .ok (.aload_n 0, 1) := by decide +kernel
theorem dX5_copyFrom_9 : decode cX5_copyFrom 9 = .ok (.aload_n 1, 1) := by decide +kernel
theorem dX5_copyFrom_10 : decode cX5_copyFrom 10 = .ok (.getfield 15, 3) := by decide +kernel
theorem dX5_copyFrom_13 : decode cX5_copyFrom 13 = .ok (.putfield 15, 3) := by decide +kernel
theorem dX5_copyFrom_16 : decode cX5_copyFrom 16 = .ok (.aload_n 0, 1) := by decide +kernel
theorem dX5_copyFrom_17 : decode cX5_copyFrom 17 = .ok (.aload_n 1, 1) := by decide +kernel
theorem dX5_copyFrom_18 : decode cX5_copyFrom 18 = .ok (.getfield 18, 3) := by decide +kernel
theorem dX5_copyFrom_21 : decode cX5_copyFrom 21 = .ok (.putfield 18, 3) := by decide +kernel
theorem dX5_copyFrom_24 : decode cX5_copyFrom 24 = .ok (.aload_n 1, 1) := by decide +kernel
theorem dX5_copyFrom_25 : decode cX5_copyFrom 25 = .ok (.getfield 21, 3) := by decide +kernel
theorem dX5_copyFrom_28 : decode cX5_copyFrom 28 = .ok (.iconst 0, 1) := by decide +kernel
theorem dX5_copyFrom_29 : decode cX5_copyFrom 29 = .ok (.aload_n 0, 1) := by decide +kernel
theorem dX5_copyFrom_30 : decode cX5_copyFrom 30 = .ok (.getfield 21, 3) := by decide +kernel
theorem dX5_copyFrom_33 : decode cX5_copyFrom 33 = .ok (.iconst 0, 1) := by decide +kernel
theorem dX5_copyFrom_34 : decode cX5_copyFrom 34 = .ok (.bipush 6, 2) := by decide +kernel
theorem dX5_copyFrom_36 : decode cX5_copyFrom 36 = .ok (.invokestatic 40, 3) := by decide +kernel
theorem dX5_copyFrom_39 : decode cX5_copyFrom 39 = .ok (.aload_n 1, 1) := by decide +kernel
theorem dX5_copyFrom_40 : decode cX5_copyFrom 40 = .ok (.getfield 25, 3) := by decide +kernel
theorem dX5_copyFrom_43 : decode cX5_copyFrom 43 = .ok (.iconst 0, 1) := by decide +kernel
theorem dX5_copyFrom_44 : decode cX5_copyFrom 44 = .ok (.aload_n 0, 1) := by decide +kernel
theorem dX5_copyFrom_45 : decode cX5_copyFrom 45 = .ok (.getfield 25, 3) := by decide +kernel
theorem dX5_copyFrom_48 : decode cX5_copyFrom 48 = .ok (.iconst 0, 1) := by decide +kernel
theorem dX5_copyFrom_49 : decode cX5_copyFrom 49 = .ok (.bipush 14, 2) := by decide +kernel
theorem dX5_copyFrom_51 : decode cX5_copyFrom 51 = .ok (.invokestatic 40, 3) := by decide +kernel
theorem dX5_copyFrom_54 : decode cX5_copyFrom 54 = .ok (.aload_n 1, 1) := by decide +kernel
theorem dX5_copyFrom_55 : decode cX5_copyFrom 55 = .ok (.getfield 28, 3) := by decide +kernel
theorem dX5_copyFrom_58 : decode cX5_copyFrom 58 = .ok (.iconst 0, 1) := by decide +kernel
theorem dX5_copyFrom_59 : decode cX5_copyFrom 59 = .ok (.aload_n 0, 1) := by decide +kernel
theorem dX5_copyFrom_60 : decode cX5_copyFrom 60 = .ok (.getfield 28, 3) := by decide +kernel
theorem dX5_copyFrom_63 : decode cX5_copyFrom 63 = .ok (.iconst 0, 1) := by decide +kernel
theorem dX5_copyFrom_64 : decode cX5_copyFrom 64 = .ok (.bipush 14, 2) := by decide +kernel
theorem dX5_copyFrom_66 : decode cX5_copyFrom 66 = .ok (.invokestatic 40, 3) := by decide +kernel
theorem dX5_copyFrom_69 : decode cX5_copyFrom 69 = .ok (.aload_n 1, 1) := by decide +kernel
theorem dX5_copyFrom_70 : decode cX5_copyFrom 70 = .ok (.getfield 31, 3) := by decide +kernel
theorem dX5_copyFrom_73 : decode cX5_copyFrom 73 = .ok (.iconst 0, 1) := by decide +kernel
theorem dX5_copyFrom_74 : decode cX5_copyFrom 74 = .ok (.aload_n 0, 1) := by decide +kernel
theorem dX5_copyFrom_75 : decode cX5_copyFrom 75 = .ok (.getfield 31, 3) := by decide +kernel
theorem dX5_copyFrom_78 : decode cX5_copyFrom 78 = .ok (.iconst 0, 1) := by decide +kernel
theorem dX5_copyFrom_79 : decode cX5_copyFrom 79 = .ok (.bipush 14, 2) := by decide +kernel
theorem dX5_copyFrom_81 : decode cX5_copyFrom 81 = .ok (.invokestatic 40, 3) := by decide +kernel
theorem dX5_copyFrom_84 : decode cX5_copyFrom 84 = .ok (.aload_n 1, 1) := by decide +kernel
theorem dX5_copyFrom_85 : decode cX5_copyFrom 85 = .ok (.getfield 34, 3) := by decide +kernel
theorem dX5_copyFrom_88 : decode cX5_copyFrom 88 = .ok (.iconst 0, 1) := by decide +kernel
theorem dX5_copyFrom_89 : decode cX5_copyFrom 89 = .ok (.aload_n 0, 1) := by decide +kernel
theorem dX5_copyFrom_90 : decode cX5_copyFrom 90 = .ok (.getfield 34, 3) := by decide +kernel
theorem dX5_copyFrom_93 : decode cX5_copyFrom 93 = .ok (.iconst 0, 1) := by decide +kernel
theorem dX5_copyFrom_94 : decode cX5_copyFrom 94 = .ok (.bipush 14, 2) := by decide +kernel
theorem dX5_copyFrom_96 : decode cX5_copyFrom 96 = .ok (.invokestatic 40, 3) := by decide +kernel
theorem dX5_copyFrom_99 : decode cX5_copyFrom 99 = .ok (.aload_n 1, 1) := by decide +kernel
theorem dX5_copyFrom_100 : decode cX5_copyFrom 100 = .ok (.getfield 37, 3) := by decide +kernel
theorem dX5_copyFrom_103 : decode cX5_copyFrom 103 = .ok (.iconst 0, 1) := by decide +kernel
theorem dX5_copyFrom_104 : decode cX5_copyFrom 104 = .ok (.aload_n 0, 1) := by decide +kernel
theorem dX5_copyFrom_105 : decode cX5_copyFrom 105 = .ok (.getfield 37, 3) := by decide +kernel
theorem dX5_copyFrom_108 : decode cX5_copyFrom 108 = .ok (.iconst 0, 1) := by decide +kernel
theorem dX5_copyFrom_109 : decode cX5_copyFrom 109 = .ok (.bipush 14, 2) := by decide +kernel
theorem dX5_copyFrom_111 : decode cX5_copyFrom 111 = .ok (.invokestatic 40, 3) := by decide +kernel
theorem dX5_copyFrom_114 : decode cX5_copyFrom 114 = .ok (.return_, 1) := by decide +kernel
theorem dX5_appendEvent_0 : decode cX5_appendEvent 0 = .ok (.aload_n 0, 1) := by decide +kernel
theorem dX5_appendEvent_1 : decode cX5_appendEvent 1 = .ok (.getfield 15, 3) := by decide +kernel
theorem dX5_appendEvent_4 : decode cX5_appendEvent 4 = .ok (.bipush 6, 2) := by decide +kernel
theorem dX5_appendEvent_6 : decode cX5_appendEvent 6 = .ok (.if_icmp .ge 23, 3) := by decide +kernel
theorem dX5_appendEvent_9 : decode cX5_appendEvent 9 = .ok (.aload_n 0, 1) := by decide +kernel
theorem dX5_appendEvent_10 : decode cX5_appendEvent 10 = .ok (.getfield 21, 3) := by decide +kernel
theorem dX5_appendEvent_13 : decode cX5_appendEvent 13 = .ok (.aload_n 0, 1) := by decide +kernel
theorem dX5_appendEvent_14 : decode cX5_appendEvent 14 = .ok (.getfield 15, 3) := by decide +kernel
theorem dX5_appendEvent_17 : decode cX5_appendEvent 17 = .ok (.iload_n 1, 1) := by decide +kernel
theorem dX5_appendEvent_18 : decode cX5_appendEvent 18 = .ok (.iastore, 1) := by decide +kernel
theorem dX5_appendEvent_19 : decode cX5_appendEvent 19 = .ok (.aload_n 0, 1) := by decide +kernel
theorem dX5_appendEvent_20 : decode cX5_appendEvent 20 = .ok (.dup, 1) := by decide +kernel
theorem dX5_appendEvent_21 : decode cX5_appendEvent 21 = .ok (.getfield 15, 3) := by decide +kernel
theorem dX5_appendEvent_24 : decode cX5_appendEvent 24 = .ok (.iconst 1, 1) := by decide +kernel
theorem dX5_appendEvent_25 : decode cX5_appendEvent 25 = .ok (.iadd, 1) := by decide +kernel
theorem dX5_appendEvent_26 : decode cX5_appendEvent 26 = .ok (.putfield 15, 3) := by decide +kernel
theorem dX5_appendEvent_29 : decode cX5_appendEvent 29 = .ok (.return_, 1) := by decide +kernel
theorem dX5_appendSpan_0 : decode cX5_appendSpan 0 = .ok (.aload_n 0, 1) := by decide +kernel
theorem dX5_appendSpan_1 : decode cX5_appendSpan 1 = .ok (.getfield 18, 3) := by decide +kernel
theorem dX5_appendSpan_4 : decode cX5_appendSpan 4 = .ok (.bipush 14, 2) := by decide +kernel
theorem dX5_appendSpan_6 : decode cX5_appendSpan 6 = .ok (.if_icmp .ge 65, 3) := by decide +kernel
theorem dX5_appendSpan_9 : decode cX5_appendSpan 9 = .ok (.aload_n 0, 1) := by decide +kernel
theorem dX5_appendSpan_10 : decode cX5_appendSpan 10 = .ok (.getfield 25, 3) := by decide +kernel
theorem dX5_appendSpan_13 : decode cX5_appendSpan 13 = .ok (.aload_n 0, 1) := by decide +kernel
theorem dX5_appendSpan_14 : decode cX5_appendSpan 14 = .ok (.getfield 18, 3) := by decide +kernel
theorem dX5_appendSpan_17 : decode cX5_appendSpan 17 = .ok (.iload_n 1, 1) := by decide +kernel
theorem dX5_appendSpan_18 : decode cX5_appendSpan 18 = .ok (.iastore, 1) := by decide +kernel
theorem dX5_appendSpan_19 : decode cX5_appendSpan 19 = .ok (.aload_n 0, 1) := by decide +kernel
theorem dX5_appendSpan_20 : decode cX5_appendSpan 20 = .ok (.getfield 28, 3) := by decide +kernel
theorem dX5_appendSpan_23 : decode cX5_appendSpan 23 = .ok (.aload_n 0, 1) := by decide +kernel
theorem dX5_appendSpan_24 : decode cX5_appendSpan 24 = .ok (.getfield 18, 3) := by decide +kernel
theorem dX5_appendSpan_27 : decode cX5_appendSpan 27 = .ok (.iload_n 2, 1) := by decide +kernel
theorem dX5_appendSpan_28 : decode cX5_appendSpan 28 = .ok (.iastore, 1) := by decide +kernel
theorem dX5_appendSpan_29 : decode cX5_appendSpan 29 = .ok (.aload_n 0, 1) := by decide +kernel
theorem dX5_appendSpan_30 : decode cX5_appendSpan 30 = .ok (.getfield 31, 3) := by decide +kernel
theorem dX5_appendSpan_33 : decode cX5_appendSpan 33 = .ok (.aload_n 0, 1) := by decide +kernel
theorem dX5_appendSpan_34 : decode cX5_appendSpan 34 = .ok (.getfield 18, 3) := by decide +kernel
theorem dX5_appendSpan_37 : decode cX5_appendSpan 37 = .ok (.iload_n 3, 1) := by decide +kernel
theorem dX5_appendSpan_38 : decode cX5_appendSpan 38 = .ok (.iastore, 1) := by decide +kernel
theorem dX5_appendSpan_39 : decode cX5_appendSpan 39 = .ok (.aload_n 0, 1) := by decide +kernel
theorem dX5_appendSpan_40 : decode cX5_appendSpan 40 = .ok (.getfield 34, 3) := by decide +kernel
theorem dX5_appendSpan_43 : decode cX5_appendSpan 43 = .ok (.aload_n 0, 1) := by decide +kernel
theorem dX5_appendSpan_44 : decode cX5_appendSpan 44 = .ok (.getfield 18, 3) := by decide +kernel
theorem dX5_appendSpan_47 : decode cX5_appendSpan 47 = .ok (.iload 4, 2) := by decide +kernel
theorem dX5_appendSpan_49 : decode cX5_appendSpan 49 = .ok (.iastore, 1) := by decide +kernel
theorem dX5_appendSpan_50 : decode cX5_appendSpan 50 = .ok (.aload_n 0, 1) := by decide +kernel
theorem dX5_appendSpan_51 : decode cX5_appendSpan 51 = .ok (.getfield 37, 3) := by decide +kernel
theorem dX5_appendSpan_54 : decode cX5_appendSpan 54 = .ok (.aload_n 0, 1) := by decide +kernel
theorem dX5_appendSpan_55 : decode cX5_appendSpan 55 = .ok (.getfield 18, 3) := by decide +kernel
theorem dX5_appendSpan_58 : decode cX5_appendSpan 58 = .ok (.iload 5, 2) := by decide +kernel
theorem dX5_appendSpan_60 : decode cX5_appendSpan 60 = .ok (.iastore, 1) := by decide +kernel
theorem dX5_appendSpan_61 : decode cX5_appendSpan 61 = .ok (.aload_n 0, 1) := by decide +kernel
theorem dX5_appendSpan_62 : decode cX5_appendSpan 62 = .ok (.dup, 1) := by decide +kernel
theorem dX5_appendSpan_63 : decode cX5_appendSpan 63 = .ok (.getfield 18, 3) := by decide +kernel
theorem dX5_appendSpan_66 : decode cX5_appendSpan 66 = .ok (.iconst 1, 1) := by decide +kernel
theorem dX5_appendSpan_67 : decode cX5_appendSpan 67 = .ok (.iadd, 1) := by decide +kernel
theorem dX5_appendSpan_68 : decode cX5_appendSpan 68 = .ok (.putfield 18, 3) := by decide +kernel
theorem dX5_appendSpan_71 : decode cX5_appendSpan 71 = .ok (.return_, 1) := by decide +kernel
theorem dX5_slackOf_0 : decode cX5_slackOf 0 = .ok (.aload_n 0, 1) := by decide +kernel
theorem dX5_slackOf_1 : decode cX5_slackOf 1 = .ok (.iload_n 1, 1) := by decide +kernel
theorem dX5_slackOf_2 : decode cX5_slackOf 2 = .ok (.aload_n 0, 1) := by decide +kernel
theorem dX5_slackOf_3 : decode cX5_slackOf 3 = .ok (.getfield 21, 3) := by decide +kernel
theorem dX5_slackOf_6 : decode cX5_slackOf 6 = .ok (.aload_n 0, 1) := by decide +kernel
theorem dX5_slackOf_7 : decode cX5_slackOf 7 = .ok (.getfield 28, 3) := by decide +kernel
theorem dX5_slackOf_10 : decode cX5_slackOf 10 = .ok (.iload_n 1, 1) := by decide +kernel
theorem dX5_slackOf_11 : decode cX5_slackOf 11 = .ok (.iaload, 1) := by decide +kernel
theorem dX5_slackOf_12 : decode cX5_slackOf 12 = .ok (.iaload, 1) := by decide +kernel
theorem dX5_slackOf_13 : decode cX5_slackOf 13 = .ok (.aload_n 0, 1) := by decide +kernel
theorem dX5_slackOf_14 : decode cX5_slackOf 14 = .ok (.getfield 21, 3) := by decide +kernel
theorem dX5_slackOf_17 : decode cX5_slackOf 17 = .ok (.aload_n 0, 1) := by decide +kernel
theorem dX5_slackOf_18 : decode cX5_slackOf 18 = .ok (.getfield 25, 3) := by decide +kernel
theorem dX5_slackOf_21 : decode cX5_slackOf 21 = .ok (.iload_n 1, 1) := by decide +kernel
theorem dX5_slackOf_22 : decode cX5_slackOf 22 = .ok (.iaload, 1) := by decide +kernel
theorem dX5_slackOf_23 : decode cX5_slackOf 23 = .ok (.iaload, 1) := by decide +kernel
theorem dX5_slackOf_24 : decode cX5_slackOf 24 = .ok (.isub, 1) := by decide +kernel
theorem dX5_slackOf_25 : decode cX5_slackOf 25 = .ok (.invokevirtual 46, 3) := by decide +kernel
theorem dX5_slackOf_28 : decode cX5_slackOf 28 = .ok (.ireturn, 1) := by decide +kernel
theorem dX5_slackWith_0 : decode cX5_slackWith 0 = .ok (.iload_n 2, 1) := by decide +kernel
theorem dX5_slackWith_1 : decode cX5_slackWith 1 = .ok (.aload_n 0, 1) := by decide +kernel
theorem dX5_slackWith_2 : decode cX5_slackWith 2 = .ok (.getfield 31, 3) := by decide +kernel
theorem dX5_slackWith_5 : decode cX5_slackWith 5 = .ok (.iload_n 1, 1) := by decide +kernel
theorem dX5_slackWith_6 : decode cX5_slackWith 6 = .ok (.iaload, 1) := by decide +kernel
theorem dX5_slackWith_7 : decode cX5_slackWith 7 = .ok (.isub, 1) := by decide +kernel
theorem dX5_slackWith_8 : decode cX5_slackWith 8 = .ok (.aload_n 0, 1) := by decide +kernel
theorem dX5_slackWith_9 : decode cX5_slackWith 9 = .ok (.getfield 9, 3) := by decide +kernel
theorem dX5_slackWith_12 : decode cX5_slackWith 12 = .ok (.invokestatic 50, 3) := by decide +kernel
theorem dX5_slackWith_15 : decode cX5_slackWith 15 = .ok (.ireturn, 1) := by decide +kernel
theorem dX5_keeps_0 : decode cX5_keeps 0 = .ok (.aload_n 0, 1) := by decide +kernel
theorem dX5_keeps_1 : decode cX5_keeps 1 = .ok (.getfield 31, 3) := by decide +kernel
theorem dX5_keeps_4 : decode cX5_keeps 4 = .ok (.iload_n 1, 1) := by decide +kernel
theorem dX5_keeps_5 : decode cX5_keeps 5 = .ok (.iaload, 1) := by decide +kernel
theorem dX5_keeps_6 : decode cX5_keeps 6 = .ok (.aload_n 0, 1) := by decide +kernel
theorem dX5_keeps_7 : decode cX5_keeps 7 = .ok (.iload_n 1, 1) := by decide +kernel
theorem dX5_keeps_8 : decode cX5_keeps 8 = .ok (.invokevirtual 53, 3) := by decide +kernel
theorem dX5_keeps_11 : decode cX5_keeps 11 = .ok (.iadd, 1) := by decide +kernel
theorem dX5_keeps_12 : decode cX5_keeps 12 = .ok (.aload_n 0, 1) := by decide +kernel
theorem dX5_keeps_13 : decode cX5_keeps 13 = .ok (.getfield 34, 3) := by decide +kernel
theorem dX5_keeps_16 : decode cX5_keeps 16 = .ok (.iload_n 1, 1) := by decide +kernel
theorem dX5_keeps_17 : decode cX5_keeps 17 = .ok (.iaload, 1) := by decide +kernel
theorem dX5_keeps_18 : decode cX5_keeps 18 = .ok (.if_icmp .gt 7, 3) := by decide +kernel
theorem dX5_keeps_21 : decode cX5_keeps 21 = .ok (.iconst 1, 1) := by decide +kernel
theorem dX5_keeps_22 : decode cX5_keeps 22 = .ok (.goto 4, 3) := by decide +kernel
theorem dX5_keeps_25 : decode cX5_keeps 25 = .ok (.iconst 0, 1) := by decide +kernel
theorem dX5_keeps_26 : decode cX5_keeps 26 = .ok (.ireturn, 1) := by decide +kernel
theorem dX5_countBroken_0 : decode cX5_countBroken 0 = .ok (.iconst 0, 1) := by decide +kernel
theorem dX5_countBroken_1 : decode cX5_countBroken 1 = .ok (.istore_n 1, 1) := by decide +kernel
theorem dX5_countBroken_2 : decode cX5_countBroken 2 = .ok (.iconst 0, 1) := by decide +kernel
theorem dX5_countBroken_3 : decode cX5_countBroken 3 = .ok (.istore_n 2, 1) := by decide +kernel
theorem dX5_countBroken_4 : decode cX5_countBroken 4 = .ok (.iload_n 2, 1) := by decide +kernel
theorem dX5_countBroken_5 : decode cX5_countBroken 5 = .ok (.aload_n 0, 1) := by decide +kernel
theorem dX5_countBroken_6 : decode cX5_countBroken 6 = .ok (.getfield 18, 3) := by decide +kernel
theorem dX5_countBroken_9 : decode cX5_countBroken 9 = .ok (.if_icmp .ge 20, 3) := by decide +kernel
theorem dX5_countBroken_12 : decode cX5_countBroken 12 = .ok (.aload_n 0, 1) := by decide +kernel
theorem dX5_countBroken_13 : decode cX5_countBroken 13 = .ok (.iload_n 2, 1) := by decide +kernel
theorem dX5_countBroken_14 : decode cX5_countBroken 14 = .ok (.invokevirtual 57, 3) := by decide +kernel
theorem dX5_countBroken_17 : decode cX5_countBroken 17 = .ok (.ifCond .ne 6, 3) := by decide +kernel
theorem dX5_countBroken_20 : decode cX5_countBroken 20 = .ok (.iinc 1 1, 3) := by decide +kernel
theorem dX5_countBroken_23 : decode cX5_countBroken 23 = .ok (.iinc 2 1, 3) := by decide +kernel
theorem dX5_countBroken_26 : decode cX5_countBroken 26 = .ok (.goto (-22), 3) := by decide +kernel
theorem dX5_countBroken_29 : decode cX5_countBroken 29 = .ok (.iload_n 1, 1) := by decide +kernel
theorem dX5_countBroken_30 : decode cX5_countBroken 30 = .ok (.ireturn, 1) := by decide +kernel
theorem dX5_sumCosts_0 : decode cX5_sumCosts 0 = .ok (.iconst 0, 1) := by decide +kernel
theorem dX5_sumCosts_1 : decode cX5_sumCosts 1 = .ok (.istore_n 1, 1) := by decide +kernel
theorem dX5_sumCosts_2 : decode cX5_sumCosts 2 = .ok (.iconst 0, 1) := by decide +kernel
theorem dX5_sumCosts_3 : decode cX5_sumCosts 3 = .ok (.istore_n 2, 1) := by decide +kernel
theorem dX5_sumCosts_4 : decode cX5_sumCosts 4 = .ok (.iload_n 2, 1) := by decide +kernel
theorem dX5_sumCosts_5 : decode cX5_sumCosts 5 = .ok (.aload_n 0, 1) := by decide +kernel
theorem dX5_sumCosts_6 : decode cX5_sumCosts 6 = .ok (.getfield 18, 3) := by decide +kernel
theorem dX5_sumCosts_9 : decode cX5_sumCosts 9 = .ok (.if_icmp .ge 24, 3) := by decide +kernel
theorem dX5_sumCosts_12 : decode cX5_sumCosts 12 = .ok (.iload_n 1, 1) := by decide +kernel
theorem dX5_sumCosts_13 : decode cX5_sumCosts 13 = .ok (.aload_n 0, 1) := by decide +kernel
theorem dX5_sumCosts_14 : decode cX5_sumCosts 14 = .ok (.getfield 37, 3) := by decide +kernel
theorem dX5_sumCosts_17 : decode cX5_sumCosts 17 = .ok (.iload_n 2, 1) := by decide +kernel
theorem dX5_sumCosts_18 : decode cX5_sumCosts 18 = .ok (.iaload, 1) := by decide +kernel
theorem dX5_sumCosts_19 : decode cX5_sumCosts 19 = .ok (.aload_n 0, 1) := by decide +kernel
theorem dX5_sumCosts_20 : decode cX5_sumCosts 20 = .ok (.iload_n 2, 1) := by decide +kernel
theorem dX5_sumCosts_21 : decode cX5_sumCosts 21 = .ok (.invokevirtual 53, 3) := by decide +kernel
theorem dX5_sumCosts_24 : decode cX5_sumCosts 24 = .ok (.imul, 1) := by decide +kernel
theorem dX5_sumCosts_25 : decode cX5_sumCosts 25 = .ok (.iadd, 1) := by decide +kernel
theorem dX5_sumCosts_26 : decode cX5_sumCosts 26 = .ok (.istore_n 1, 1) := by decide +kernel
theorem dX5_sumCosts_27 : decode cX5_sumCosts 27 = .ok (.iinc 2 1, 3) := by decide +kernel
theorem dX5_sumCosts_30 : decode cX5_sumCosts 30 = .ok (.goto (-26), 3) := by decide +kernel
theorem dX5_sumCosts_33 : decode cX5_sumCosts 33 = .ok (.iload_n 1, 1) := by decide +kernel
theorem dX5_sumCosts_34 : decode cX5_sumCosts 34 = .ok (.ireturn, 1) := by decide +kernel
theorem dX5_sumWeights_0 : decode cX5_sumWeights 0 = .ok (.iconst 0, 1) := by decide +kernel
theorem dX5_sumWeights_1 : decode cX5_sumWeights 1 = .ok (.istore_n 1, 1) := by decide +kernel
theorem dX5_sumWeights_2 : decode cX5_sumWeights 2 = .ok (.iconst 0, 1) := by decide +kernel
theorem dX5_sumWeights_3 : decode cX5_sumWeights 3 = .ok (.istore_n 2, 1) := by decide +kernel
theorem dX5_sumWeights_4 : decode cX5_sumWeights 4 = .ok (.iload_n 2, 1) := by decide +kernel
theorem dX5_sumWeights_5 : decode cX5_sumWeights 5 = .ok (.aload_n 0, 1) := by decide +kernel
theorem dX5_sumWeights_6 : decode cX5_sumWeights 6 = .ok (.getfield 18, 3) := by decide +kernel
theorem dX5_sumWeights_9 : decode cX5_sumWeights 9 = .ok (.if_icmp .ge 18, 3) := by decide +kernel
theorem dX5_sumWeights_12 : decode cX5_sumWeights 12 = .ok (.iload_n 1, 1) := by decide +kernel
theorem dX5_sumWeights_13 : decode cX5_sumWeights 13 = .ok (.aload_n 0, 1) := by decide +kernel
theorem dX5_sumWeights_14 : decode cX5_sumWeights 14 = .ok (.getfield 37, 3) := by decide +kernel
theorem dX5_sumWeights_17 : decode cX5_sumWeights 17 = .ok (.iload_n 2, 1) := by decide +kernel
theorem dX5_sumWeights_18 : decode cX5_sumWeights 18 = .ok (.iaload, 1) := by decide +kernel
theorem dX5_sumWeights_19 : decode cX5_sumWeights 19 = .ok (.iadd, 1) := by decide +kernel
theorem dX5_sumWeights_20 : decode cX5_sumWeights 20 = .ok (.istore_n 1, 1) := by decide +kernel
theorem dX5_sumWeights_21 : decode cX5_sumWeights 21 = .ok (.iinc 2 1, 3) := by decide +kernel
theorem dX5_sumWeights_24 : decode cX5_sumWeights 24 = .ok (.goto (-20), 3) := by decide +kernel
theorem dX5_sumWeights_27 : decode cX5_sumWeights 27 = .ok (.iload_n 1, 1) := by decide +kernel
theorem dX5_sumWeights_28 : decode cX5_sumWeights 28 = .ok (.ireturn, 1) := by decide +kernel
theorem dX6_init_0 : decode cX6_init 0 = .ok (.aload_n 0, 1) := by decide +kernel
theorem dX6_init_1 : decode cX6_init 1 = .ok (.invokespecial 3, 3) := by decide +kernel
theorem dX6_init_4 : decode cX6_init 4 = .ok (.aload_n 0, 1) := by decide +kernel
theorem dX6_init_5 : decode cX6_init 5 = .ok (.new 9, 3) := by decide +kernel
theorem dX6_init_8 : decode cX6_init 8 = .ok (.dup, 1) := by decide +kernel
theorem dX6_init_9 : decode cX6_init 9 = .ok (.invokespecial 11, 3) := by decide +kernel
theorem dX6_init_12 : decode cX6_init 12 = .ok (.putfield 12, 3) := by decide +kernel
theorem dX6_init_15 : decode cX6_init 15 = .ok (.aload_n 0, 1) := by decide +kernel
theorem dX6_init_16 : decode cX6_init 16 = .ok (.new 18, 3) := by decide +kernel
theorem dX6_init_19 : decode cX6_init 19 = .ok (.dup, 1) := by decide +kernel
theorem dX6_init_20 : decode cX6_init 20 = .ok (.invokespecial 20, 3) := by decide +kernel
theorem dX6_init_23 : decode cX6_init 23 = .ok (.putfield 21, 3) := by decide +kernel
theorem dX6_init_26 : decode cX6_init 26 = .ok (.aload_n 0, 1) := by decide +kernel
theorem dX6_init_27 : decode cX6_init 27 = .ok (.iconst 0, 1) := by decide +kernel
theorem dX6_init_28 : decode cX6_init 28 = .ok (.putfield 25, 3) := by decide +kernel
theorem dX6_init_31 : decode cX6_init 31 = .ok (.aload_n 0, 1) := by decide +kernel
theorem dX6_init_32 : decode cX6_init 32 = .ok (.iconst (-1), 1) := by decide +kernel
theorem dX6_init_33 : decode cX6_init 33 = .ok (.putfield 29, 3) := by decide +kernel
theorem dX6_init_36 : decode cX6_init 36 = .ok (.aload_n 0, 1) := by decide +kernel
theorem dX6_init_37 : decode cX6_init 37 = .ok (.iconst 0, 1) := by decide +kernel
theorem dX6_init_38 : decode cX6_init 38 = .ok (.newarray .byte, 2) := by decide +kernel
theorem dX6_init_40 : decode cX6_init 40 = .ok (.putfield 32, 3) := by decide +kernel
theorem dX6_init_43 : decode cX6_init 43 = .ok (.aload_n 0, 1) := by decide +kernel
theorem dX6_init_44 : decode cX6_init 44 = .ok (.iconst 0, 1) := by decide +kernel
theorem dX6_init_45 : decode cX6_init 45 = .ok (.putfield 36, 3) := by decide +kernel
theorem dX6_init_48 : decode cX6_init 48 = .ok (.aload_n 0, 1) := by decide +kernel
theorem dX6_init_49 : decode cX6_init 49 = .ok (.iconst 0, 1) := by decide +kernel
theorem dX6_init_50 : decode cX6_init 50 = .ok (.putfield 39, 3) := by decide +kernel
theorem dX6_init_53 : decode cX6_init 53 = .ok (.aload_n 0, 1) := by decide +kernel
theorem dX6_init_54 : decode cX6_init 54 = .ok (.iconst 0, 1) := by decide +kernel
theorem dX6_init_55 : decode cX6_init 55 = .ok (.putfield 42, 3) := by decide +kernel
theorem dX6_init_58 : decode cX6_init 58 = .ok (.aload_n 0, 1) := by decide +kernel
theorem dX6_init_59 : decode cX6_init 59 = .ok (.iconst 0, 1) := by decide +kernel
theorem dX6_init_60 : decode cX6_init 60 = .ok (.putfield 45, 3) := by decide +kernel
theorem dX6_init_63 : decode cX6_init 63 = .ok (.aload_n 0, 1) := by decide +kernel
theorem dX6_init_64 : decode cX6_init 64 = .ok (.iconst 0, 1) := by decide +kernel
theorem dX6_init_65 : decode cX6_init 65 = .ok (.putfield 48, 3) := by decide +kernel
theorem dX6_init_68 : decode cX6_init 68 = .ok (.return_, 1) := by decide +kernel
theorem dX6_accepts_0 : decode cX6_accepts 0 = .ok (.aload_n 0, 1) := by decide +kernel
theorem dX6_accepts_1 : decode cX6_accepts 1 = .ok (.aload_n 1, 1) := by decide +kernel
theorem dX6_accepts_2 : decode cX6_accepts 2 = .ok (.putfield 32, 3) := by decide +kernel
theorem dX6_accepts_5 : decode cX6_accepts 5 = .ok (.aload_n 0, 1) := by decide +kernel
theorem dX6_accepts_6 : decode cX6_accepts 6 = .ok (.iload_n 2, 1) := by decide +kernel
theorem dX6_accepts_7 : decode cX6_accepts 7 = .ok (.aload_n 1, 1) := by decide +kernel
theorem dX6_accepts_8 : decode cX6_accepts 8 = .ok (.arraylength, 1) := by decide +kernel
theorem dX6_accepts_9 : decode cX6_accepts 9 = .ok (.invokestatic 51, 3) := by decide +kernel
theorem dX6_accepts_12 : decode cX6_accepts 12 = .ok (.putfield 36, 3) := by decide +kernel
theorem dX6_accepts_15 : decode cX6_accepts 15 = .ok (.aload_n 0, 1) := by decide +kernel
theorem dX6_accepts_16 : decode cX6_accepts 16 = .ok (.iconst 0, 1) := by decide +kernel
theorem dX6_accepts_17 : decode cX6_accepts 17 = .ok (.putfield 45, 3) := by decide +kernel
theorem dX6_accepts_20 : decode cX6_accepts 20 = .ok (.aload_n 0, 1) := by decide +kernel
theorem dX6_accepts_21 : decode cX6_accepts 21 = .ok (.iconst 0, 1) := by decide +kernel
theorem dX6_accepts_22 : decode cX6_accepts 22 = .ok (.putfield 25, 3) := by decide +kernel
theorem dX6_accepts_25 : decode cX6_accepts 25 = .ok (.aload_n 0, 1) := by decide +kernel
theorem dX6_accepts_26 : decode cX6_accepts 26 = .ok (.iconst (-1), 1) := by decide +kernel
theorem dX6_accepts_27 : decode cX6_accepts 27 = .ok (.putfield 29, 3) := by decide +kernel
theorem dX6_accepts_30 : decode cX6_accepts 30 = .ok (.aload_n 0, 1) := by decide +kernel
theorem dX6_accepts_31 : decode cX6_accepts 31 = .ok (.getfield 21, 3) := by decide +kernel
theorem dX6_accepts_34 : decode cX6_accepts 34 = .ok (.invokevirtual 57, 3) := by decide +kernel
theorem dX6_accepts_37 : decode cX6_accepts 37 = .ok (.aload_n 0, 1) := by decide +kernel
theorem dX6_accepts_38 : decode cX6_accepts 38 = .ok (.getfield 12, 3) := by decide +kernel
theorem dX6_accepts_41 : decode cX6_accepts 41 = .ok (.bipush 12, 2) := by decide +kernel
theorem dX6_accepts_43 : decode cX6_accepts 43 = .ok (.invokevirtual 60, 3) := by decide +kernel
theorem dX6_accepts_46 : decode cX6_accepts 46 = .ok (.aload_n 0, 1) := by decide +kernel
theorem dX6_accepts_47 : decode cX6_accepts 47 = .ok (.invokevirtual 64, 3) := by decide +kernel
theorem dX6_accepts_50 : decode cX6_accepts 50 = .ok (.aload_n 0, 1) := by decide +kernel
theorem dX6_accepts_51 : decode cX6_accepts 51 = .ok (.getfield 39, 3) := by decide +kernel
theorem dX6_accepts_54 : decode cX6_accepts 54 = .ok (.ifCond .eq 10, 3) := by decide +kernel
theorem dX6_accepts_57 : decode cX6_accepts 57 = .ok (.aload_n 0, 1) := by decide +kernel
theorem dX6_accepts_58 : decode cX6_accepts 58 = .ok (.invokevirtual 67, 3) := by decide +kernel
theorem dX6_accepts_61 : decode cX6_accepts 61 = .ok (.ifCond .eq 7, 3) := by decide +kernel
theorem dX6_accepts_64 : decode cX6_accepts 64 = .ok (.iconst 1, 1) := by decide +kernel
theorem dX6_accepts_65 : decode cX6_accepts 65 = .ok (.goto 4, 3) := by decide +kernel
theorem dX6_accepts_68 : decode cX6_accepts 68 = .ok (.iconst 0, 1) := by decide +kernel
theorem dX6_accepts_69 : decode cX6_accepts 69 = .ok (.istore_n 3, 1) := by decide +kernel
theorem dX6_accepts_70 : decode cX6_accepts 70 = .ok (.iconst 0, 1) := by decide +kernel
theorem dX6_accepts_71 : decode cX6_accepts 71 = .ok (.istore 4, 2) := by decide +kernel
theorem dX6_accepts_73 : decode cX6_accepts 73 = .ok (.iload 4, 2) := by decide +kernel
theorem dX6_accepts_75 : decode cX6_accepts 75 = .ok (.sipush 500, 3) := by decide +kernel
theorem dX6_accepts_78 : decode cX6_accepts 78 = .ok (.if_icmp .ge 44, 3) := by decide +kernel
theorem dX6_accepts_81 : decode cX6_accepts 81 = .ok (.iload_n 3, 1) := by decide +kernel
theorem dX6_accepts_82 : decode cX6_accepts 82 = .ok (.ifCond .eq 40, 3) := by decide +kernel
theorem dX6_accepts_85 : decode cX6_accepts 85 = .ok (.aload_n 0, 1) := by decide +kernel
theorem dX6_accepts_86 : decode cX6_accepts 86 = .ok (.getfield 39, 3) := by decide +kernel
theorem dX6_accepts_89 : decode cX6_accepts 89 = .ok (.ifCond .eq 33, 3) := by decide +kernel
theorem dX6_accepts_92 : decode cX6_accepts 92 = .ok (.aload_n 0, 1) := by decide +kernel
theorem dX6_accepts_93 : decode cX6_accepts 93 = .ok (.invokevirtual 64, 3) := by decide +kernel
theorem dX6_accepts_96 : decode cX6_accepts 96 = .ok (.aload_n 0, 1) := by decide +kernel
theorem dX6_accepts_97 : decode cX6_accepts 97 = .ok (.getfield 39, 3) := by decide +kernel
theorem dX6_accepts_100 : decode cX6_accepts 100 = .ok (.ifCond .eq 10, 3) := by decide +kernel
theorem dX6_accepts_103 : decode cX6_accepts 103 = .ok (.aload_n 0, 1) := by decide +kernel
theorem dX6_accepts_104 : decode cX6_accepts 104 = .ok (.invokevirtual 71, 3) := by decide +kernel
theorem dX6_accepts_107 : decode cX6_accepts 107 = .ok (.ifCond .eq 7, 3) := by decide +kernel
theorem dX6_accepts_110 : decode cX6_accepts 110 = .ok (.iconst 1, 1) := by decide +kernel
theorem dX6_accepts_111 : decode cX6_accepts 111 = .ok (.goto 4, 3) := by decide +kernel
theorem dX6_accepts_114 : decode cX6_accepts 114 = .ok (.iconst 0, 1) := by decide +kernel
theorem dX6_accepts_115 : decode cX6_accepts 115 = .ok (.istore_n 3, 1) := by decide +kernel
theorem dX6_accepts_116 : decode cX6_accepts 116 = .ok (.iinc 4 1, 3) := by decide +kernel
theorem dX6_accepts_119 : decode cX6_accepts 119 = .ok (.goto (-46), 3) := by decide +kernel
theorem dX6_accepts_122 : decode cX6_accepts 122 = .ok (.iload_n 3, 1) := by decide +kernel
theorem dX6_accepts_123 : decode cX6_accepts 123 = .ok (.ireturn, 1) := by decide +kernel
theorem dX6_readPeriod_0 : decode cX6_readPeriod 0 = .ok (.aload_n 0, 1) := by decide +kernel
theorem dX6_readPeriod_1 : decode cX6_readPeriod 1 = .ok (.ldc 74, 2) := by decide +kernel
theorem dX6_readPeriod_3 : decode cX6_readPeriod 3 = .ok (.invokevirtual 76, 3) := by decide +kernel
theorem dX6_readPeriod_6 : decode cX6_readPeriod 6 = .ok (.ifCond .ne 8, 3) := by decide +kernel
theorem dX6_readPeriod_9 : decode cX6_readPeriod 9 = .ok (.aload_n 0, 1) := by decide +kernel
theorem dX6_readPeriod_10 : decode cX6_readPeriod 10 = .ok (.invokevirtual 80, 3) := by decide +kernel
theorem dX6_readPeriod_13 : decode cX6_readPeriod 13 = .ok (.ireturn, 1) := by decide +kernel
theorem dX6_readPeriod_14 : decode cX6_readPeriod 14 = .ok (.aload_n 0, 1) := by decide +kernel
theorem dX6_readPeriod_15 : decode cX6_readPeriod 15 = .ok (.iconst 2, 1) := by decide +kernel
theorem dX6_readPeriod_16 : decode cX6_readPeriod 16 = .ok (.bipush 24, 2) := by decide +kernel
theorem dX6_readPeriod_18 : decode cX6_readPeriod 18 = .ok (.invokevirtual 83, 3) := by decide +kernel
theorem dX6_readPeriod_21 : decode cX6_readPeriod 21 = .ok (.istore_n 1, 1) := by decide +kernel
theorem dX6_readPeriod_22 : decode cX6_readPeriod 22 = .ok (.iload_n 1, 1) := by decide +kernel
theorem dX6_readPeriod_23 : decode cX6_readPeriod 23 = .ok (.iconst (-1), 1) := by decide +kernel
theorem dX6_readPeriod_24 : decode cX6_readPeriod 24 = .ok (.if_icmp .eq 10, 3) := by decide +kernel
theorem dX6_readPeriod_27 : decode cX6_readPeriod 27 = .ok (.aload_n 0, 1) := by decide +kernel
theorem dX6_readPeriod_28 : decode cX6_readPeriod 28 = .ok (.invokevirtual 86, 3) := by decide +kernel
theorem dX6_readPeriod_31 : decode cX6_readPeriod 31 = .ok (.ifCond .ne 5, 3) := by decide +kernel
theorem dX6_readPeriod_34 : decode cX6_readPeriod 34 = .ok (.iconst 0, 1) := by decide +kernel
theorem dX6_readPeriod_35 : decode cX6_readPeriod 35 = .ok (.ireturn, 1) := by decide +kernel
theorem dX6_readPeriod_36 : decode cX6_readPeriod 36 = .ok (.aload_n 0, 1) := by decide +kernel
theorem dX6_readPeriod_37 : decode cX6_readPeriod 37 = .ok (.getfield 12, 3) := by decide +kernel
theorem dX6_readPeriod_40 : decode cX6_readPeriod 40 = .ok (.iload_n 1, 1) := by decide +kernel
theorem dX6_readPeriod_41 : decode cX6_readPeriod 41 = .ok (.invokevirtual 60, 3) := by decide +kernel
theorem dX6_readPeriod_44 : decode cX6_readPeriod 44 = .ok (.iconst 1, 1) := by decide +kernel
theorem dX6_readPeriod_45 : decode cX6_readPeriod 45 = .ok (.ireturn, 1) := by decide +kernel
theorem dX6_readStatement_0 : decode cX6_readStatement 0 = .ok (.aload_n 0, 1) := by decide +kernel
theorem dX6_readStatement_1 : decode cX6_readStatement 1 = .ok (.ldc 89, 2) := by decide +kernel
theorem dX6_readStatement_3 : decode cX6_readStatement 3 = .ok (.invokevirtual 76, 3) := by decide +kernel
theorem dX6_readStatement_6 : decode cX6_readStatement 6 = .ok (.ifCond .eq 28, 3) := by decide +kernel
theorem dX6_readStatement_9 : decode cX6_readStatement 9 = .ok (.aload_n 0, 1) := by decide +kernel
theorem dX6_readStatement_10 : decode cX6_readStatement 10 = .ok (.getfield 12, 3) := by decide +kernel
theorem dX6_readStatement_13 : decode cX6_readStatement 13 = .ok (.getfield 91, 3) := by decide +kernel
theorem dX6_readStatement_16 : decode cX6_readStatement 16 = .ok (.bipush 6, 2) := by decide +kernel
theorem dX6_readStatement_18 : decode cX6_readStatement 18 = .ok (.if_icmp .ge 10, 3) := by decide +kernel
theorem dX6_readStatement_21 : decode cX6_readStatement 21 = .ok (.aload_n 0, 1) := by decide +kernel
theorem dX6_readStatement_22 : decode cX6_readStatement 22 = .ok (.invokevirtual 94, 3) := by decide +kernel
theorem dX6_readStatement_25 : decode cX6_readStatement 25 = .ok (.goto 8, 3) := by decide +kernel
theorem dX6_readStatement_28 : decode cX6_readStatement 28 = .ok (.aload_n 0, 1) := by decide +kernel
theorem dX6_readStatement_29 : decode cX6_readStatement 29 = .ok (.iconst 5, 1) := by decide +kernel
theorem dX6_readStatement_30 : decode cX6_readStatement 30 = .ok (.invokevirtual 97, 3) := by decide +kernel
theorem dX6_readStatement_33 : decode cX6_readStatement 33 = .ok (.ireturn, 1) := by decide +kernel
theorem dX6_readStatement_34 : decode cX6_readStatement 34 = .ok (.aload_n 0, 1) := by decide +kernel
theorem dX6_readStatement_35 : decode cX6_readStatement 35 = .ok (.ldc 101, 2) := by decide +kernel
theorem dX6_readStatement_37 : decode cX6_readStatement 37 = .ok (.invokevirtual 76, 3) := by decide +kernel
theorem dX6_readStatement_40 : decode cX6_readStatement 40 = .ok (.ifCond .eq 28, 3) := by decide +kernel
theorem dX6_readStatement_43 : decode cX6_readStatement 43 = .ok (.aload_n 0, 1) := by decide +kernel
theorem dX6_readStatement_44 : decode cX6_readStatement 44 = .ok (.getfield 12, 3) := by decide +kernel
theorem dX6_readStatement_47 : decode cX6_readStatement 47 = .ok (.getfield 103, 3) := by decide +kernel
theorem dX6_readStatement_50 : decode cX6_readStatement 50 = .ok (.bipush 14, 2) := by decide +kernel
theorem dX6_readStatement_52 : decode cX6_readStatement 52 = .ok (.if_icmp .ge 10, 3) := by decide +kernel
theorem dX6_readStatement_55 : decode cX6_readStatement 55 = .ok (.aload_n 0, 1) := by decide +kernel
theorem dX6_readStatement_56 : decode cX6_readStatement 56 = .ok (.invokevirtual 106, 3) := by decide +kernel
theorem dX6_readStatement_59 : decode cX6_readStatement 59 = .ok (.goto 8, 3) := by decide +kernel
theorem dX6_readStatement_62 : decode cX6_readStatement 62 = .ok (.aload_n 0, 1) := by decide +kernel
theorem dX6_readStatement_63 : decode cX6_readStatement 63 = .ok (.iconst 5, 1) := by decide +kernel
theorem dX6_readStatement_64 : decode cX6_readStatement 64 = .ok (.invokevirtual 97, 3) := by decide +kernel
theorem dX6_readStatement_67 : decode cX6_readStatement 67 = .ok (.ireturn, 1) := by decide +kernel
theorem dX6_readStatement_68 : decode cX6_readStatement 68 = .ok (.aload_n 0, 1) := by decide +kernel
theorem dX6_readStatement_69 : decode cX6_readStatement 69 = .ok (.invokevirtual 80, 3) := by decide +kernel
theorem dX6_readStatement_72 : decode cX6_readStatement 72 = .ok (.ireturn, 1) := by decide +kernel
theorem dX6_readEvent_0 : decode cX6_readEvent 0 = .ok (.aload_n 0, 1) := by decide +kernel
theorem dX6_readEvent_1 : decode cX6_readEvent 1 = .ok (.invokevirtual 64, 3) := by decide +kernel
theorem dX6_readEvent_4 : decode cX6_readEvent 4 = .ok (.aload_n 0, 1) := by decide +kernel
theorem dX6_readEvent_5 : decode cX6_readEvent 5 = .ok (.getfield 39, 3) := by decide +kernel
theorem dX6_readEvent_8 : decode cX6_readEvent 8 = .ok (.iconst 2, 1) := by decide +kernel
theorem dX6_readEvent_9 : decode cX6_readEvent 9 = .ok (.if_icmp .eq 8, 3) := by decide +kernel
theorem dX6_readEvent_12 : decode cX6_readEvent 12 = .ok (.aload_n 0, 1) := by decide +kernel
theorem dX6_readEvent_13 : decode cX6_readEvent 13 = .ok (.invokevirtual 80, 3) := by decide +kernel
theorem dX6_readEvent_16 : decode cX6_readEvent 16 = .ok (.ireturn, 1) := by decide +kernel
theorem dX6_readEvent_17 : decode cX6_readEvent 17 = .ok (.aload_n 0, 1) := by decide +kernel
theorem dX6_readEvent_18 : decode cX6_readEvent 18 = .ok (.getfield 21, 3) := by decide +kernel
theorem dX6_readEvent_21 : decode cX6_readEvent 21 = .ok (.aload_n 0, 1) := by decide +kernel
theorem dX6_readEvent_22 : decode cX6_readEvent 22 = .ok (.getfield 32, 3) := by decide +kernel
theorem dX6_readEvent_25 : decode cX6_readEvent 25 = .ok (.aload_n 0, 1) := by decide +kernel
theorem dX6_readEvent_26 : decode cX6_readEvent 26 = .ok (.getfield 42, 3) := by decide +kernel
theorem dX6_readEvent_29 : decode cX6_readEvent 29 = .ok (.aload_n 0, 1) := by decide +kernel
theorem dX6_readEvent_30 : decode cX6_readEvent 30 = .ok (.getfield 45, 3) := by decide +kernel
theorem dX6_readEvent_33 : decode cX6_readEvent 33 = .ok (.aload_n 0, 1) := by decide +kernel
theorem dX6_readEvent_34 : decode cX6_readEvent 34 = .ok (.getfield 42, 3) := by decide +kernel
theorem dX6_readEvent_37 : decode cX6_readEvent 37 = .ok (.isub, 1) := by decide +kernel
theorem dX6_readEvent_38 : decode cX6_readEvent 38 = .ok (.invokevirtual 109, 3) := by decide +kernel
theorem dX6_readEvent_41 : decode cX6_readEvent 41 = .ok (.iconst (-1), 1) := by decide +kernel
theorem dX6_readEvent_42 : decode cX6_readEvent 42 = .ok (.if_icmp .eq 9, 3) := by decide +kernel
theorem dX6_readEvent_45 : decode cX6_readEvent 45 = .ok (.aload_n 0, 1) := by decide +kernel
theorem dX6_readEvent_46 : decode cX6_readEvent 46 = .ok (.iconst 4, 1) := by decide +kernel
theorem dX6_readEvent_47 : decode cX6_readEvent 47 = .ok (.invokevirtual 97, 3) := by decide +kernel
theorem dX6_readEvent_50 : decode cX6_readEvent 50 = .ok (.ireturn, 1) := by decide +kernel
theorem dX6_readEvent_51 : decode cX6_readEvent 51 = .ok (.aload_n 0, 1) := by decide +kernel
theorem dX6_readEvent_52 : decode cX6_readEvent 52 = .ok (.getfield 21, 3) := by decide +kernel
theorem dX6_readEvent_55 : decode cX6_readEvent 55 = .ok (.aload_n 0, 1) := by decide +kernel
theorem dX6_readEvent_56 : decode cX6_readEvent 56 = .ok (.getfield 32, 3) := by decide +kernel
theorem dX6_readEvent_59 : decode cX6_readEvent 59 = .ok (.aload_n 0, 1) := by decide +kernel
theorem dX6_readEvent_60 : decode cX6_readEvent 60 = .ok (.getfield 42, 3) := by decide +kernel
theorem dX6_readEvent_63 : decode cX6_readEvent 63 = .ok (.aload_n 0, 1) := by decide +kernel
theorem dX6_readEvent_64 : decode cX6_readEvent 64 = .ok (.getfield 45, 3) := by decide +kernel
theorem dX6_readEvent_67 : decode cX6_readEvent 67 = .ok (.aload_n 0, 1) := by decide +kernel
theorem dX6_readEvent_68 : decode cX6_readEvent 68 = .ok (.getfield 42, 3) := by decide +kernel
theorem dX6_readEvent_71 : decode cX6_readEvent 71 = .ok (.isub, 1) := by decide +kernel
theorem dX6_readEvent_72 : decode cX6_readEvent 72 = .ok (.invokevirtual 113, 3) := by decide +kernel
theorem dX6_readEvent_75 : decode cX6_readEvent 75 = .ok (.aload_n 0, 1) := by decide +kernel
theorem dX6_readEvent_76 : decode cX6_readEvent 76 = .ok (.iconst 0, 1) := by decide +kernel
theorem dX6_readEvent_77 : decode cX6_readEvent 77 = .ok (.aload_n 0, 1) := by decide +kernel
theorem dX6_readEvent_78 : decode cX6_readEvent 78 = .ok (.getfield 12, 3) := by decide +kernel
theorem dX6_readEvent_81 : decode cX6_readEvent 81 = .ok (.getfield 117, 3) := by decide +kernel
theorem dX6_readEvent_84 : decode cX6_readEvent 84 = .ok (.iconst 1, 1) := by decide +kernel
theorem dX6_readEvent_85 : decode cX6_readEvent 85 = .ok (.isub, 1) := by decide +kernel
theorem dX6_readEvent_86 : decode cX6_readEvent 86 = .ok (.invokevirtual 83, 3) := by decide +kernel
theorem dX6_readEvent_89 : decode cX6_readEvent 89 = .ok (.istore_n 1, 1) := by decide +kernel
theorem dX6_readEvent_90 : decode cX6_readEvent 90 = .ok (.iload_n 1, 1) := by decide +kernel
theorem dX6_readEvent_91 : decode cX6_readEvent 91 = .ok (.iconst (-1), 1) := by decide +kernel
theorem dX6_readEvent_92 : decode cX6_readEvent 92 = .ok (.if_icmp .ne 5, 3) := by decide +kernel
theorem dX6_readEvent_95 : decode cX6_readEvent 95 = .ok (.iconst 0, 1) := by decide +kernel
theorem dX6_readEvent_96 : decode cX6_readEvent 96 = .ok (.ireturn, 1) := by decide +kernel
theorem dX6_readEvent_97 : decode cX6_readEvent 97 = .ok (.aload_n 0, 1) := by decide +kernel
theorem dX6_readEvent_98 : decode cX6_readEvent 98 = .ok (.getfield 12, 3) := by decide +kernel
theorem dX6_readEvent_101 : decode cX6_readEvent 101 = .ok (.iload_n 1, 1) := by decide +kernel
theorem dX6_readEvent_102 : decode cX6_readEvent 102 = .ok (.invokevirtual 119, 3) := by decide +kernel
theorem dX6_readEvent_105 : decode cX6_readEvent 105 = .ok (.aload_n 0, 1) := by decide +kernel
theorem dX6_readEvent_106 : decode cX6_readEvent 106 = .ok (.invokevirtual 86, 3) := by decide +kernel
theorem dX6_readEvent_109 : decode cX6_readEvent 109 = .ok (.ireturn, 1) := by decide +kernel
theorem dX6_readSpan_0 : decode cX6_readSpan 0 = .ok (.aload_n 0, 1) := by decide +kernel
theorem dX6_readSpan_1 : decode cX6_readSpan 1 = .ok (.iconst (-1), 1) := by decide +kernel
theorem dX6_readSpan_2 : decode cX6_readSpan 2 = .ok (.invokevirtual 122, 3) := by decide +kernel
theorem dX6_readSpan_5 : decode cX6_readSpan 5 = .ok (.istore_n 1, 1) := by decide +kernel
theorem dX6_readSpan_6 : decode cX6_readSpan 6 = .ok (.iload_n 1, 1) := by decide +kernel
theorem dX6_readSpan_7 : decode cX6_readSpan 7 = .ok (.iconst (-1), 1) := by decide +kernel
theorem dX6_readSpan_8 : decode cX6_readSpan 8 = .ok (.if_icmp .ne 7, 3) := by decide +kernel
theorem dX6_readSpan_11 : decode cX6_readSpan 11 = .ok (.iconst (-1), 1) := by decide +kernel
theorem dX6_readSpan_12 : decode cX6_readSpan 12 = .ok (.goto 8, 3) := by decide +kernel
theorem dX6_readSpan_15 : decode cX6_readSpan 15 = .ok (.aload_n 0, 1) := by decide +kernel
theorem dX6_readSpan_16 : decode cX6_readSpan 16 = .ok (.iload_n 1, 1) := by decide +kernel
theorem dX6_readSpan_17 : decode cX6_readSpan 17 = .ok (.invokevirtual 122, 3) := by decide +kernel
theorem dX6_readSpan_20 : decode cX6_readSpan 20 = .ok (.istore_n 2, 1) := by decide +kernel
theorem dX6_readSpan_21 : decode cX6_readSpan 21 = .ok (.iload_n 2, 1) := by decide +kernel
theorem dX6_readSpan_22 : decode cX6_readSpan 22 = .ok (.iconst (-1), 1) := by decide +kernel
theorem dX6_readSpan_23 : decode cX6_readSpan 23 = .ok (.if_icmp .ne 7, 3) := by decide +kernel
theorem dX6_readSpan_26 : decode cX6_readSpan 26 = .ok (.iconst (-1), 1) := by decide +kernel
theorem dX6_readSpan_27 : decode cX6_readSpan 27 = .ok (.goto 10, 3) := by decide +kernel
theorem dX6_readSpan_30 : decode cX6_readSpan 30 = .ok (.aload_n 0, 1) := by decide +kernel
theorem dX6_readSpan_31 : decode cX6_readSpan 31 = .ok (.iconst 0, 1) := by decide +kernel
theorem dX6_readSpan_32 : decode cX6_readSpan 32 = .ok (.bipush 48, 2) := by decide +kernel
theorem dX6_readSpan_34 : decode cX6_readSpan 34 = .ok (.invokevirtual 83, 3) := by decide +kernel
theorem dX6_readSpan_37 : decode cX6_readSpan 37 = .ok (.istore_n 3, 1) := by decide +kernel
theorem dX6_readSpan_38 : decode cX6_readSpan 38 = .ok (.iload_n 3, 1) := by decide +kernel
theorem dX6_readSpan_39 : decode cX6_readSpan 39 = .ok (.iconst (-1), 1) := by decide +kernel
theorem dX6_readSpan_40 : decode cX6_readSpan 40 = .ok (.if_icmp .ne 7, 3) := by decide +kernel
theorem dX6_readSpan_43 : decode cX6_readSpan 43 = .ok (.iconst (-1), 1) := by decide +kernel
theorem dX6_readSpan_44 : decode cX6_readSpan 44 = .ok (.goto 19, 3) := by decide +kernel
theorem dX6_readSpan_47 : decode cX6_readSpan 47 = .ok (.aload_n 0, 1) := by decide +kernel
theorem dX6_readSpan_48 : decode cX6_readSpan 48 = .ok (.iload_n 3, 1) := by decide +kernel
theorem dX6_readSpan_49 : decode cX6_readSpan 49 = .ok (.iload_n 3, 1) := by decide +kernel
theorem dX6_readSpan_50 : decode cX6_readSpan 50 = .ok (.aload_n 0, 1) := by decide +kernel
theorem dX6_readSpan_51 : decode cX6_readSpan 51 = .ok (.getfield 12, 3) := by decide +kernel
theorem dX6_readSpan_54 : decode cX6_readSpan 54 = .ok (.getfield 117, 3) := by decide +kernel
theorem dX6_readSpan_57 : decode cX6_readSpan 57 = .ok (.iadd, 1) := by decide +kernel
theorem dX6_readSpan_58 : decode cX6_readSpan 58 = .ok (.iconst 1, 1) := by decide +kernel
theorem dX6_readSpan_59 : decode cX6_readSpan 59 = .ok (.isub, 1) := by decide +kernel
theorem dX6_readSpan_60 : decode cX6_readSpan 60 = .ok (.invokevirtual 83, 3) := by decide +kernel
theorem dX6_readSpan_63 : decode cX6_readSpan 63 = .ok (.istore 4, 2) := by decide +kernel
theorem dX6_readSpan_65 : decode cX6_readSpan 65 = .ok (.iload 4, 2) := by decide +kernel
theorem dX6_readSpan_67 : decode cX6_readSpan 67 = .ok (.iconst (-1), 1) := by decide +kernel
theorem dX6_readSpan_68 : decode cX6_readSpan 68 = .ok (.if_icmp .ne 5, 3) := by decide +kernel
theorem dX6_readSpan_71 : decode cX6_readSpan 71 = .ok (.iconst 0, 1) := by decide +kernel
theorem dX6_readSpan_72 : decode cX6_readSpan 72 = .ok (.ireturn, 1) := by decide +kernel
theorem dX6_readSpan_73 : decode cX6_readSpan 73 = .ok (.iconst 1, 1) := by decide +kernel
theorem dX6_readSpan_74 : decode cX6_readSpan 74 = .ok (.istore 5, 2) := by decide +kernel
theorem dX6_readSpan_76 : decode cX6_readSpan 76 = .ok (.aload_n 0, 1) := by decide +kernel
theorem dX6_readSpan_77 : decode cX6_readSpan 77 = .ok (.invokevirtual 64, 3) := by decide +kernel
theorem dX6_readSpan_80 : decode cX6_readSpan 80 = .ok (.aload_n 0, 1) := by decide +kernel
theorem dX6_readSpan_81 : decode cX6_readSpan 81 = .ok (.getfield 39, 3) := by decide +kernel
theorem dX6_readSpan_84 : decode cX6_readSpan 84 = .ok (.iconst 3, 1) := by decide +kernel
theorem dX6_readSpan_85 : decode cX6_readSpan 85 = .ok (.if_icmp .ne 28, 3) := by decide +kernel
theorem dX6_readSpan_88 : decode cX6_readSpan 88 = .ok (.aload_n 0, 1) := by decide +kernel
theorem dX6_readSpan_89 : decode cX6_readSpan 89 = .ok (.getfield 48, 3) := by decide +kernel
theorem dX6_readSpan_92 : decode cX6_readSpan 92 = .ok (.bipush 20, 2) := by decide +kernel
theorem dX6_readSpan_94 : decode cX6_readSpan 94 = .ok (.if_icmp .le 9, 3) := by decide +kernel
theorem dX6_readSpan_97 : decode cX6_readSpan 97 = .ok (.aload_n 0, 1) := by decide +kernel
theorem dX6_readSpan_98 : decode cX6_readSpan 98 = .ok (.iconst 3, 1) := by decide +kernel
theorem dX6_readSpan_99 : decode cX6_readSpan 99 = .ok (.invokevirtual 97, 3) := by decide +kernel
theorem dX6_readSpan_102 : decode cX6_readSpan 102 = .ok (.ireturn, 1) := by decide +kernel
theorem dX6_readSpan_103 : decode cX6_readSpan 103 = .ok (.aload_n 0, 1) := by decide +kernel
theorem dX6_readSpan_104 : decode cX6_readSpan 104 = .ok (.getfield 48, 3) := by decide +kernel
theorem dX6_readSpan_107 : decode cX6_readSpan 107 = .ok (.istore 5, 2) := by decide +kernel
theorem dX6_readSpan_109 : decode cX6_readSpan 109 = .ok (.aload_n 0, 1) := by decide +kernel
theorem dX6_readSpan_110 : decode cX6_readSpan 110 = .ok (.invokevirtual 64, 3) := by decide +kernel
theorem dX6_readSpan_113 : decode cX6_readSpan 113 = .ok (.aload_n 0, 1) := by decide +kernel
theorem dX6_readSpan_114 : decode cX6_readSpan 114 = .ok (.getfield 39, 3) := by decide +kernel
theorem dX6_readSpan_117 : decode cX6_readSpan 117 = .ok (.iconst 4, 1) := by decide +kernel
theorem dX6_readSpan_118 : decode cX6_readSpan 118 = .ok (.if_icmp .eq 8, 3) := by decide +kernel
theorem dX6_readSpan_121 : decode cX6_readSpan 121 = .ok (.aload_n 0, 1) := by decide +kernel
theorem dX6_readSpan_122 : decode cX6_readSpan 122 = .ok (.invokevirtual 80, 3) := by decide +kernel
theorem dX6_readSpan_125 : decode cX6_readSpan 125 = .ok (.ireturn, 1) := by decide +kernel
theorem dX6_readSpan_126 : decode cX6_readSpan 126 = .ok (.aload_n 0, 1) := by decide +kernel
theorem dX6_readSpan_127 : decode cX6_readSpan 127 = .ok (.getfield 12, 3) := by decide +kernel
theorem dX6_readSpan_130 : decode cX6_readSpan 130 = .ok (.iload_n 1, 1) := by decide +kernel
theorem dX6_readSpan_131 : decode cX6_readSpan 131 = .ok (.iload_n 2, 1) := by decide +kernel
theorem dX6_readSpan_132 : decode cX6_readSpan 132 = .ok (.iload_n 3, 1) := by decide +kernel
theorem dX6_readSpan_133 : decode cX6_readSpan 133 = .ok (.iload 4, 2) := by decide +kernel
theorem dX6_readSpan_135 : decode cX6_readSpan 135 = .ok (.iload 5, 2) := by decide +kernel
theorem dX6_readSpan_137 : decode cX6_readSpan 137 = .ok (.invokevirtual 126, 3) := by decide +kernel
theorem dX6_readSpan_140 : decode cX6_readSpan 140 = .ok (.iconst 1, 1) := by decide +kernel
theorem dX6_readSpan_141 : decode cX6_readSpan 141 = .ok (.ireturn, 1) := by decide +kernel
theorem dX6_readKnownEvent_0 : decode cX6_readKnownEvent 0 = .ok (.aload_n 0, 1) := by decide +kernel
theorem dX6_readKnownEvent_1 : decode cX6_readKnownEvent 1 = .ok (.invokevirtual 64, 3) := by decide +kernel
theorem dX6_readKnownEvent_4 : decode cX6_readKnownEvent 4 = .ok (.aload_n 0, 1) := by decide +kernel
theorem dX6_readKnownEvent_5 : decode cX6_readKnownEvent 5 = .ok (.getfield 39, 3) := by decide +kernel
theorem dX6_readKnownEvent_8 : decode cX6_readKnownEvent 8 = .ok (.iconst 2, 1) := by decide +kernel
theorem dX6_readKnownEvent_9 : decode cX6_readKnownEvent 9 = .ok (.if_icmp .eq 10, 3) := by decide +kernel
theorem dX6_readKnownEvent_12 : decode cX6_readKnownEvent 12 = .ok (.aload_n 0, 1) := by decide +kernel
theorem dX6_readKnownEvent_13 : decode cX6_readKnownEvent 13 = .ok (.invokevirtual 80, 3) := by decide +kernel
theorem dX6_readKnownEvent_16 : decode cX6_readKnownEvent 16 = .ok (.pop, 1) := by decide +kernel
theorem dX6_readKnownEvent_17 : decode cX6_readKnownEvent 17 = .ok (.iconst (-1), 1) := by decide +kernel
theorem dX6_readKnownEvent_18 : decode cX6_readKnownEvent 18 = .ok (.ireturn, 1) := by decide +kernel
theorem dX6_readKnownEvent_19 : decode cX6_readKnownEvent 19 = .ok (.aload_n 0, 1) := by decide +kernel
theorem dX6_readKnownEvent_20 : decode cX6_readKnownEvent 20 = .ok (.getfield 21, 3) := by decide +kernel
theorem dX6_readKnownEvent_23 : decode cX6_readKnownEvent 23 = .ok (.aload_n 0, 1) := by decide +kernel
theorem dX6_readKnownEvent_24 : decode cX6_readKnownEvent 24 = .ok (.getfield 32, 3) := by decide +kernel
theorem dX6_readKnownEvent_27 : decode cX6_readKnownEvent 27 = .ok (.aload_n 0, 1) := by decide +kernel
theorem dX6_readKnownEvent_28 : decode cX6_readKnownEvent 28 = .ok (.getfield 42, 3) := by decide +kernel
theorem dX6_readKnownEvent_31 : decode cX6_readKnownEvent 31 = .ok (.aload_n 0, 1) := by decide +kernel
theorem dX6_readKnownEvent_32 : decode cX6_readKnownEvent 32 = .ok (.getfield 45, 3) := by decide +kernel
theorem dX6_readKnownEvent_35 : decode cX6_readKnownEvent 35 = .ok (.aload_n 0, 1) := by decide +kernel
theorem dX6_readKnownEvent_36 : decode cX6_readKnownEvent 36 = .ok (.getfield 42, 3) := by decide +kernel
theorem dX6_readKnownEvent_39 : decode cX6_readKnownEvent 39 = .ok (.isub, 1) := by decide +kernel
theorem dX6_readKnownEvent_40 : decode cX6_readKnownEvent 40 = .ok (.invokevirtual 109, 3) := by decide +kernel
theorem dX6_readKnownEvent_43 : decode cX6_readKnownEvent 43 = .ok (.istore_n 2, 1) := by decide +kernel
theorem dX6_readKnownEvent_44 : decode cX6_readKnownEvent 44 = .ok (.iload_n 2, 1) := by decide +kernel
theorem dX6_readKnownEvent_45 : decode cX6_readKnownEvent 45 = .ok (.iconst (-1), 1) := by decide +kernel
theorem dX6_readKnownEvent_46 : decode cX6_readKnownEvent 46 = .ok (.if_icmp .eq 8, 3) := by decide +kernel
theorem dX6_readKnownEvent_49 : decode cX6_readKnownEvent 49 = .ok (.iload_n 2, 1) := by decide +kernel
theorem dX6_readKnownEvent_50 : decode cX6_readKnownEvent 50 = .ok (.iload_n 1, 1) := by decide +kernel
theorem dX6_readKnownEvent_51 : decode cX6_readKnownEvent 51 = .ok (.if_icmp .ne 11, 3) := by decide +kernel
theorem dX6_readKnownEvent_54 : decode cX6_readKnownEvent 54 = .ok (.aload_n 0, 1) := by decide +kernel
theorem dX6_readKnownEvent_55 : decode cX6_readKnownEvent 55 = .ok (.iconst 4, 1) := by decide +kernel
theorem dX6_readKnownEvent_56 : decode cX6_readKnownEvent 56 = .ok (.invokevirtual 97, 3) := by decide +kernel
theorem dX6_readKnownEvent_59 : decode cX6_readKnownEvent 59 = .ok (.pop, 1) := by decide +kernel
theorem dX6_readKnownEvent_60 : decode cX6_readKnownEvent 60 = .ok (.iconst (-1), 1) := by decide +kernel
theorem dX6_readKnownEvent_61 : decode cX6_readKnownEvent 61 = .ok (.ireturn, 1) := by decide +kernel
theorem dX6_readKnownEvent_62 : decode cX6_readKnownEvent 62 = .ok (.iload_n 2, 1) := by decide +kernel
theorem dX6_readKnownEvent_63 : decode cX6_readKnownEvent 63 = .ok (.ireturn, 1) := by decide +kernel
theorem dX6_readNumber_0 : decode cX6_readNumber 0 = .ok (.aload_n 0, 1) := by decide +kernel
theorem dX6_readNumber_1 : decode cX6_readNumber 1 = .ok (.invokevirtual 64, 3) := by decide +kernel
theorem dX6_readNumber_4 : decode cX6_readNumber 4 = .ok (.aload_n 0, 1) := by decide +kernel
theorem dX6_readNumber_5 : decode cX6_readNumber 5 = .ok (.getfield 39, 3) := by decide +kernel
theorem dX6_readNumber_8 : decode cX6_readNumber 8 = .ok (.iconst 3, 1) := by decide +kernel
theorem dX6_readNumber_9 : decode cX6_readNumber 9 = .ok (.if_icmp .eq 10, 3) := by decide +kernel
theorem dX6_readNumber_12 : decode cX6_readNumber 12 = .ok (.aload_n 0, 1) := by decide +kernel
theorem dX6_readNumber_13 : decode cX6_readNumber 13 = .ok (.invokevirtual 80, 3) := by decide +kernel
theorem dX6_readNumber_16 : decode cX6_readNumber 16 = .ok (.pop, 1) := by decide +kernel
theorem dX6_readNumber_17 : decode cX6_readNumber 17 = .ok (.iconst (-1), 1) := by decide +kernel
theorem dX6_readNumber_18 : decode cX6_readNumber 18 = .ok (.ireturn, 1) := by decide +kernel
theorem dX6_readNumber_19 : decode cX6_readNumber 19 = .ok (.aload_n 0, 1) := by decide +kernel
theorem dX6_readNumber_20 : decode cX6_readNumber 20 = .ok (.getfield 48, 3) := by decide +kernel
theorem dX6_readNumber_23 : decode cX6_readNumber 23 = .ok (.iload_n 1, 1) := by decide +kernel
theorem dX6_readNumber_24 : decode cX6_readNumber 24 = .ok (.if_icmp .lt 11, 3) := by decide +kernel
theorem dX6_readNumber_27 : decode cX6_readNumber 27 = .ok (.aload_n 0, 1) := by decide +kernel
theorem dX6_readNumber_28 : decode cX6_readNumber 28 = .ok (.getfield 48, 3) := by decide +kernel
theorem dX6_readNumber_31 : decode cX6_readNumber 31 = .ok (.iload_n 2, 1) := by decide +kernel
theorem dX6_readNumber_32 : decode cX6_readNumber 32 = .ok (.if_icmp .le 11, 3) := by decide +kernel
theorem dX6_readNumber_35 : decode cX6_readNumber 35 = .ok (.aload_n 0, 1) := by decide +kernel
theorem dX6_readNumber_36 : decode cX6_readNumber 36 = .ok (.iconst 3, 1) := by decide +kernel
theorem dX6_readNumber_37 : decode cX6_readNumber 37 = .ok (.invokevirtual 97, 3) := by decide +kernel
theorem dX6_readNumber_40 : decode cX6_readNumber 40 = .ok (.pop, 1) := by decide +kernel
theorem dX6_readNumber_41 : decode cX6_readNumber 41 = .ok (.iconst (-1), 1) := by decide +kernel
theorem dX6_readNumber_42 : decode cX6_readNumber 42 = .ok (.ireturn, 1) := by decide +kernel
theorem dX6_readNumber_43 : decode cX6_readNumber 43 = .ok (.aload_n 0, 1) := by decide +kernel
theorem dX6_readNumber_44 : decode cX6_readNumber 44 = .ok (.getfield 48, 3) := by decide +kernel
theorem dX6_readNumber_47 : decode cX6_readNumber 47 = .ok (.ireturn, 1) := by decide +kernel
theorem dX6_readSemicolon_0 : decode cX6_readSemicolon 0 = .ok (.aload_n 0, 1) := by decide +kernel
theorem dX6_readSemicolon_1 : decode cX6_readSemicolon 1 = .ok (.invokevirtual 64, 3) := by decide +kernel
theorem dX6_readSemicolon_4 : decode cX6_readSemicolon 4 = .ok (.aload_n 0, 1) := by decide +kernel
theorem dX6_readSemicolon_5 : decode cX6_readSemicolon 5 = .ok (.getfield 39, 3) := by decide +kernel
theorem dX6_readSemicolon_8 : decode cX6_readSemicolon 8 = .ok (.iconst 4, 1) := by decide +kernel
theorem dX6_readSemicolon_9 : decode cX6_readSemicolon 9 = .ok (.if_icmp .eq 10, 3) := by decide +kernel
theorem dX6_readSemicolon_12 : decode cX6_readSemicolon 12 = .ok (.aload_n 0, 1) := by decide +kernel
theorem dX6_readSemicolon_13 : decode cX6_readSemicolon 13 = .ok (.invokevirtual 80, 3) := by decide +kernel
theorem dX6_readSemicolon_16 : decode cX6_readSemicolon 16 = .ok (.ifCond .eq 7, 3) := by decide +kernel
theorem dX6_readSemicolon_19 : decode cX6_readSemicolon 19 = .ok (.iconst 1, 1) := by decide +kernel
theorem dX6_readSemicolon_20 : decode cX6_readSemicolon 20 = .ok (.goto 4, 3) := by decide +kernel
theorem dX6_readSemicolon_23 : decode cX6_readSemicolon 23 = .ok (.iconst 0, 1) := by decide +kernel
theorem dX6_readSemicolon_24 : decode cX6_readSemicolon 24 = .ok (.ireturn, 1) := by decide +kernel
theorem dX6_unexpected_0 : decode cX6_unexpected 0 = .ok (.aload_n 0, 1) := by decide +kernel
theorem dX6_unexpected_1 : decode cX6_unexpected 1 = .ok (.aload_n 0, 1) := by decide +kernel
theorem dX6_unexpected_2 : decode cX6_unexpected 2 = .ok (.getfield 39, 3) := by decide +kernel
theorem dX6_unexpected_5 : decode cX6_unexpected 5 = .ok (.iconst 1, 1) := by decide +kernel
theorem dX6_unexpected_6 : decode cX6_unexpected 6 = .ok (.if_icmp .ne 7, 3) := by decide +kernel
theorem dX6_unexpected_9 : decode cX6_unexpected 9 = .ok (.iconst 1, 1) := by decide +kernel
theorem dX6_unexpected_10 : decode cX6_unexpected 10 = .ok (.goto 4, 3) := by decide +kernel
theorem dX6_unexpected_13 : decode cX6_unexpected 13 = .ok (.iconst 2, 1) := by decide +kernel
theorem dX6_unexpected_14 : decode cX6_unexpected 14 = .ok (.invokevirtual 97, 3) := by decide +kernel
theorem dX6_unexpected_17 : decode cX6_unexpected 17 = .ok (.ireturn, 1) := by decide +kernel
theorem dX6_fail_0 : decode cX6_fail 0 = .ok (.aload_n 0, 1) := by decide +kernel
theorem dX6_fail_1 : decode cX6_fail 1 = .ok (.iload_n 1, 1) := by decide +kernel
theorem dX6_fail_2 : decode cX6_fail 2 = .ok (.putfield 25, 3) := by decide +kernel
theorem dX6_fail_5 : decode cX6_fail 5 = .ok (.aload_n 0, 1) := by decide +kernel
theorem dX6_fail_6 : decode cX6_fail 6 = .ok (.aload_n 0, 1) := by decide +kernel
theorem dX6_fail_7 : decode cX6_fail 7 = .ok (.getfield 42, 3) := by decide +kernel
theorem dX6_fail_10 : decode cX6_fail 10 = .ok (.putfield 29, 3) := by decide +kernel
theorem dX6_fail_13 : decode cX6_fail 13 = .ok (.iconst 0, 1) := by decide +kernel
theorem dX6_fail_14 : decode cX6_fail 14 = .ok (.ireturn, 1) := by decide +kernel
theorem dX6_isWord_0 : decode cX6_isWord 0 = .ok (.aload_n 1, 1) := by decide +kernel
theorem dX6_isWord_1 : decode cX6_isWord 1 = .ok (.invokevirtual 130, 3) := by decide +kernel
theorem dX6_isWord_4 : decode cX6_isWord 4 = .ok (.istore_n 2, 1) := by decide +kernel
theorem dX6_isWord_5 : decode cX6_isWord 5 = .ok (.aload_n 0, 1) := by decide +kernel
theorem dX6_isWord_6 : decode cX6_isWord 6 = .ok (.getfield 39, 3) := by decide +kernel
theorem dX6_isWord_9 : decode cX6_isWord 9 = .ok (.iconst 2, 1) := by decide +kernel
theorem dX6_isWord_10 : decode cX6_isWord 10 = .ok (.if_icmp .ne 16, 3) := by decide +kernel
theorem dX6_isWord_13 : decode cX6_isWord 13 = .ok (.aload_n 0, 1) := by decide +kernel
theorem dX6_isWord_14 : decode cX6_isWord 14 = .ok (.getfield 45, 3) := by decide +kernel
theorem dX6_isWord_17 : decode cX6_isWord 17 = .ok (.aload_n 0, 1) := by decide +kernel
theorem dX6_isWord_18 : decode cX6_isWord 18 = .ok (.getfield 42, 3) := by decide +kernel
theorem dX6_isWord_21 : decode cX6_isWord 21 = .ok (.isub, 1) := by decide +kernel
theorem dX6_isWord_22 : decode cX6_isWord 22 = .ok (.iload_n 2, 1) := by decide +kernel
theorem dX6_isWord_23 : decode cX6_isWord 23 = .ok (.if_icmp .eq 5, 3) := by decide +kernel
theorem dX6_isWord_26 : decode cX6_isWord 26 = .ok (.iconst 0, 1) := by decide +kernel
theorem dX6_isWord_27 : decode cX6_isWord 27 = .ok (.ireturn, 1) := by decide +kernel
theorem dX6_isWord_28 : decode cX6_isWord 28 = .ok (.iconst 0, 1) := by decide +kernel
theorem dX6_isWord_29 : decode cX6_isWord 29 = .ok (.istore_n 3, 1) := by decide +kernel
theorem dX6_isWord_30 : decode cX6_isWord 30 = .ok (.iload_n 3, 1) := by decide +kernel
theorem dX6_isWord_31 : decode cX6_isWord 31 = .ok (.iload_n 2, 1) := by decide +kernel
theorem dX6_isWord_32 : decode cX6_isWord 32 = .ok (.if_icmp .ge 30, 3) := by decide +kernel
theorem dX6_isWord_35 : decode cX6_isWord 35 = .ok (.aload_n 0, 1) := by decide +kernel
theorem dX6_isWord_36 : decode cX6_isWord 36 = .ok (.getfield 32, 3) := by decide +kernel
theorem dX6_isWord_39 : decode cX6_isWord 39 = .ok (.aload_n 0, 1) := by decide +kernel
theorem dX6_isWord_40 : decode cX6_isWord 40 = .ok (.getfield 42, 3) := by decide +kernel
theorem dX6_isWord_43 : decode cX6_isWord 43 = .ok (.iload_n 3, 1) := by decide +kernel
theorem dX6_isWord_44 : decode cX6_isWord 44 = .ok (.iadd, 1) := by decide +kernel
theorem dX6_isWord_45 : decode cX6_isWord 45 = .ok (.baload, 1) := by decide +kernel
theorem dX6_isWord_46 : decode cX6_isWord 46 = .ok (.aload_n 1, 1) := by decide +kernel
theorem dX6_isWord_47 : decode cX6_isWord 47 = .ok (.iload_n 3, 1) := by decide +kernel
theorem dX6_isWord_48 : decode cX6_isWord 48 = .ok (.invokevirtual 136, 3) := by decide +kernel
theorem dX6_isWord_51 : decode cX6_isWord 51 = .ok (.if_icmp .eq 5, 3) := by decide +kernel
theorem dX6_isWord_54 : decode cX6_isWord 54 = .ok (.iconst 0, 1) := by decide +kernel
theorem dX6_isWord_55 : decode cX6_isWord 55 = .ok (.ireturn, 1) := by decide +kernel
theorem dX6_isWord_56 : decode cX6_isWord 56 = .ok (.iinc 3 1, 3) := by decide +kernel
theorem dX6_isWord_59 : decode cX6_isWord 59 = .ok (.goto (-29), 3) := by decide +kernel
theorem dX6_isWord_62 : decode cX6_isWord 62 = .ok (.iconst 1, 1) := by decide +kernel
theorem dX6_isWord_63 : decode cX6_isWord 63 = .ok (.ireturn, 1) := by decide +kernel
theorem dX6_nextToken_0 : decode cX6_nextToken 0 = .ok (.aload_n 0, 1) := by decide +kernel
theorem dX6_nextToken_1 : decode cX6_nextToken 1 = .ok (.aload_n 0, 1) := by decide +kernel
theorem dX6_nextToken_2 : decode cX6_nextToken 2 = .ok (.getfield 45, 3) := by decide +kernel
theorem dX6_nextToken_5 : decode cX6_nextToken 5 = .ok (.putfield 42, 3) := by decide +kernel
theorem dX6_nextToken_8 : decode cX6_nextToken 8 = .ok (.aload_n 0, 1) := by decide +kernel
theorem dX6_nextToken_9 : decode cX6_nextToken 9 = .ok (.getfield 42, 3) := by decide +kernel
theorem dX6_nextToken_12 : decode cX6_nextToken 12 = .ok (.aload_n 0, 1) := by decide +kernel
theorem dX6_nextToken_13 : decode cX6_nextToken 13 = .ok (.getfield 36, 3) := by decide +kernel
theorem dX6_nextToken_16 : decode cX6_nextToken 16 = .ok (.if_icmp .ge 44, 3) := by decide +kernel
theorem dX6_nextToken_19 : decode cX6_nextToken 19 = .ok (.aload_n 0, 1) := by decide +kernel
theorem dX6_nextToken_20 : decode cX6_nextToken 20 = .ok (.getfield 32, 3) := by decide +kernel
theorem dX6_nextToken_23 : decode cX6_nextToken 23 = .ok (.aload_n 0, 1) := by decide +kernel
theorem dX6_nextToken_24 : decode cX6_nextToken 24 = .ok (.getfield 42, 3) := by decide +kernel
theorem dX6_nextToken_27 : decode cX6_nextToken 27 = .ok (.baload, 1) := by decide +kernel
theorem dX6_nextToken_28 : decode cX6_nextToken 28 = .ok (.bipush 32, 2) := by decide +kernel
theorem dX6_nextToken_30 : decode cX6_nextToken 30 = .ok (.if_icmp .eq 17, 3) := by decide +kernel
theorem dX6_nextToken_33 : decode cX6_nextToken 33 = .ok (.aload_n 0, 1) := by decide +kernel
theorem dX6_nextToken_34 : decode cX6_nextToken 34 = .ok (.getfield 32, 3) := by decide +kernel
theorem dX6_nextToken_37 : decode cX6_nextToken 37 = .ok (.aload_n 0, 1) := by decide +kernel
theorem dX6_nextToken_38 : decode cX6_nextToken 38 = .ok (.getfield 42, 3) := by decide +kernel
theorem dX6_nextToken_41 : decode cX6_nextToken 41 = .ok (.baload, 1) := by decide +kernel
theorem dX6_nextToken_42 : decode cX6_nextToken 42 = .ok (.bipush 10, 2) := by decide +kernel
theorem dX6_nextToken_44 : decode cX6_nextToken 44 = .ok (.if_icmp .ne 16, 3) := by decide +kernel
theorem dX6_nextToken_47 : decode cX6_nextToken 47 = .ok (.aload_n 0, 1) := by decide +kernel
theorem dX6_nextToken_48 : decode cX6_nextToken 48 = .ok (.dup, 1) := by decide +kernel
theorem dX6_nextToken_49 : decode cX6_nextToken 49 = .ok (.getfield 42, 3) := by decide +kernel
theorem dX6_nextToken_52 : decode cX6_nextToken 52 = .ok (.iconst 1, 1) := by decide +kernel
theorem dX6_nextToken_53 : decode cX6_nextToken 53 = .ok (.iadd, 1) := by decide +kernel
theorem dX6_nextToken_54 : decode cX6_nextToken 54 = .ok (.putfield 42, 3) := by decide +kernel
theorem dX6_nextToken_57 : decode cX6_nextToken 57 = .ok (.goto (-49), 3) := by decide +kernel
theorem dX6_nextToken_60 : decode cX6_nextToken 60 = .ok (.aload_n 0, 1) := by decide +kernel
theorem dX6_nextToken_61 : decode cX6_nextToken 61 = .ok (.getfield 42, 3) := by decide +kernel
theorem dX6_nextToken_64 : decode cX6_nextToken 64 = .ok (.aload_n 0, 1) := by decide +kernel
theorem dX6_nextToken_65 : decode cX6_nextToken 65 = .ok (.getfield 36, 3) := by decide +kernel
theorem dX6_nextToken_68 : decode cX6_nextToken 68 = .ok (.if_icmp .lt 17, 3) := by decide +kernel
theorem dX6_nextToken_71 : decode cX6_nextToken 71 = .ok (.aload_n 0, 1) := by decide +kernel
theorem dX6_nextToken_72 : decode cX6_nextToken 72 = .ok (.aload_n 0, 1) := by decide +kernel
theorem dX6_nextToken_73 : decode cX6_nextToken 73 = .ok (.getfield 42, 3) := by decide +kernel
theorem dX6_nextToken_76 : decode cX6_nextToken 76 = .ok (.putfield 45, 3) := by decide +kernel
theorem dX6_nextToken_79 : decode cX6_nextToken 79 = .ok (.aload_n 0, 1) := by decide +kernel
theorem dX6_nextToken_80 : decode cX6_nextToken 80 = .ok (.iconst 0, 1) := by decide +kernel
theorem dX6_nextToken_81 : decode cX6_nextToken 81 = .ok (.putfield 39, 3) := by decide +kernel
theorem dX6_nextToken_84 : decode cX6_nextToken 84 = .ok (.return_, 1) := by decide +kernel
theorem dX6_nextToken_85 : decode cX6_nextToken 85 = .ok (.aload_n 0, 1) := by decide +kernel
theorem dX6_nextToken_86 : decode cX6_nextToken 86 = .ok (.bipush 97, 2) := by decide +kernel
theorem dX6_nextToken_88 : decode cX6_nextToken 88 = .ok (.bipush 122, 2) := by decide +kernel
theorem dX6_nextToken_90 : decode cX6_nextToken 90 = .ok (.invokevirtual 140, 3) := by decide +kernel
theorem dX6_nextToken_93 : decode cX6_nextToken 93 = .ok (.istore_n 1, 1) := by decide +kernel
theorem dX6_nextToken_94 : decode cX6_nextToken 94 = .ok (.aload_n 0, 1) := by decide +kernel
theorem dX6_nextToken_95 : decode cX6_nextToken 95 = .ok (.bipush 48, 2) := by decide +kernel
theorem dX6_nextToken_97 : decode cX6_nextToken 97 = .ok (.bipush 57, 2) := by decide +kernel
theorem dX6_nextToken_99 : decode cX6_nextToken 99 = .ok (.invokevirtual 140, 3) := by decide +kernel
theorem dX6_nextToken_102 : decode cX6_nextToken 102 = .ok (.istore_n 2, 1) := by decide +kernel
theorem dX6_nextToken_103 : decode cX6_nextToken 103 = .ok (.iload_n 1, 1) := by decide +kernel
theorem dX6_nextToken_104 : decode cX6_nextToken 104 = .ok (.aload_n 0, 1) := by decide +kernel
theorem dX6_nextToken_105 : decode cX6_nextToken 105 = .ok (.getfield 42, 3) := by decide +kernel
theorem dX6_nextToken_108 : decode cX6_nextToken 108 = .ok (.if_icmp .le 31, 3) := by decide +kernel
theorem dX6_nextToken_111 : decode cX6_nextToken 111 = .ok (.aload_n 0, 1) := by decide +kernel
theorem dX6_nextToken_112 : decode cX6_nextToken 112 = .ok (.iload_n 1, 1) := by decide +kernel
theorem dX6_nextToken_113 : decode cX6_nextToken 113 = .ok (.putfield 45, 3) := by decide +kernel
theorem dX6_nextToken_116 : decode cX6_nextToken 116 = .ok (.aload_n 0, 1) := by decide +kernel
theorem dX6_nextToken_117 : decode cX6_nextToken 117 = .ok (.iload_n 1, 1) := by decide +kernel
theorem dX6_nextToken_118 : decode cX6_nextToken 118 = .ok (.aload_n 0, 1) := by decide +kernel
theorem dX6_nextToken_119 : decode cX6_nextToken 119 = .ok (.getfield 42, 3) := by decide +kernel
theorem dX6_nextToken_122 : decode cX6_nextToken 122 = .ok (.isub, 1) := by decide +kernel
theorem dX6_nextToken_123 : decode cX6_nextToken 123 = .ok (.bipush 8, 2) := by decide +kernel
theorem dX6_nextToken_125 : decode cX6_nextToken 125 = .ok (.if_icmp .gt 7, 3) := by decide +kernel
theorem dX6_nextToken_128 : decode cX6_nextToken 128 = .ok (.iconst 2, 1) := by decide +kernel
theorem dX6_nextToken_129 : decode cX6_nextToken 129 = .ok (.goto 4, 3) := by decide +kernel
theorem dX6_nextToken_132 : decode cX6_nextToken 132 = .ok (.iconst 1, 1) := by decide +kernel
theorem dX6_nextToken_133 : decode cX6_nextToken 133 = .ok (.putfield 39, 3) := by decide +kernel
theorem dX6_nextToken_136 : decode cX6_nextToken 136 = .ok (.goto 91, 3) := by decide +kernel
theorem dX6_nextToken_139 : decode cX6_nextToken 139 = .ok (.iload_n 2, 1) := by decide +kernel
theorem dX6_nextToken_140 : decode cX6_nextToken 140 = .ok (.aload_n 0, 1) := by decide +kernel
theorem dX6_nextToken_141 : decode cX6_nextToken 141 = .ok (.getfield 42, 3) := by decide +kernel
theorem dX6_nextToken_144 : decode cX6_nextToken 144 = .ok (.if_icmp .le 50, 3) := by decide +kernel
theorem dX6_nextToken_147 : decode cX6_nextToken 147 = .ok (.aload_n 0, 1) := by decide +kernel
theorem dX6_nextToken_148 : decode cX6_nextToken 148 = .ok (.iload_n 2, 1) := by decide +kernel
theorem dX6_nextToken_149 : decode cX6_nextToken 149 = .ok (.putfield 45, 3) := by decide +kernel
theorem dX6_nextToken_152 : decode cX6_nextToken 152 = .ok (.aload_n 0, 1) := by decide +kernel
theorem dX6_nextToken_153 : decode cX6_nextToken 153 = .ok (.iload_n 2, 1) := by decide +kernel
theorem dX6_nextToken_154 : decode cX6_nextToken 154 = .ok (.aload_n 0, 1) := by decide +kernel
theorem dX6_nextToken_155 : decode cX6_nextToken 155 = .ok (.getfield 42, 3) := by decide +kernel
theorem dX6_nextToken_158 : decode cX6_nextToken 158 = .ok (.isub, 1) := by decide +kernel
theorem dX6_nextToken_159 : decode cX6_nextToken 159 = .ok (.iconst 2, 1) := by decide +kernel
theorem dX6_nextToken_160 : decode cX6_nextToken 160 = .ok (.if_icmp .gt 7, 3) := by decide +kernel
theorem dX6_nextToken_163 : decode cX6_nextToken 163 = .ok (.iconst 3, 1) := by decide +kernel
theorem dX6_nextToken_164 : decode cX6_nextToken 164 = .ok (.goto 4, 3) := by decide +kernel
theorem dX6_nextToken_167 : decode cX6_nextToken 167 = .ok (.iconst 1, 1) := by decide +kernel
theorem dX6_nextToken_168 : decode cX6_nextToken 168 = .ok (.putfield 39, 3) := by decide +kernel
theorem dX6_nextToken_171 : decode cX6_nextToken 171 = .ok (.aload_n 0, 1) := by decide +kernel
theorem dX6_nextToken_172 : decode cX6_nextToken 172 = .ok (.aload_n 0, 1) := by decide +kernel
theorem dX6_nextToken_173 : decode cX6_nextToken 173 = .ok (.getfield 39, 3) := by decide +kernel
theorem dX6_nextToken_176 : decode cX6_nextToken 176 = .ok (.iconst 3, 1) := by decide +kernel
theorem dX6_nextToken_177 : decode cX6_nextToken 177 = .ok (.if_icmp .ne 10, 3) := by decide +kernel
theorem dX6_nextToken_180 : decode cX6_nextToken 180 = .ok (.aload_n 0, 1) := by decide +kernel
theorem dX6_nextToken_181 : decode cX6_nextToken 181 = .ok (.invokevirtual 143, 3) := by decide +kernel
theorem dX6_nextToken_184 : decode cX6_nextToken 184 = .ok (.goto 4, 3) := by decide +kernel
theorem dX6_nextToken_187 : decode cX6_nextToken 187 = .ok (.iconst 0, 1) := by decide +kernel
theorem dX6_nextToken_188 : decode cX6_nextToken 188 = .ok (.putfield 48, 3) := by decide +kernel
theorem dX6_nextToken_191 : decode cX6_nextToken 191 = .ok (.goto 36, 3) := by decide +kernel
theorem dX6_nextToken_194 : decode cX6_nextToken 194 = .ok (.aload_n 0, 1) := by decide +kernel
theorem dX6_nextToken_195 : decode cX6_nextToken 195 = .ok (.aload_n 0, 1) := by decide +kernel
theorem dX6_nextToken_196 : decode cX6_nextToken 196 = .ok (.getfield 42, 3) := by decide +kernel
theorem dX6_nextToken_199 : decode cX6_nextToken 199 = .ok (.iconst 1, 1) := by decide +kernel
theorem dX6_nextToken_200 : decode cX6_nextToken 200 = .ok (.iadd, 1) := by decide +kernel
theorem dX6_nextToken_201 : decode cX6_nextToken 201 = .ok (.putfield 45, 3) := by decide +kernel
theorem dX6_nextToken_204 : decode cX6_nextToken 204 = .ok (.aload_n 0, 1) := by decide +kernel
theorem dX6_nextToken_205 : decode cX6_nextToken 205 = .ok (.aload_n 0, 1) := by decide +kernel
theorem dX6_nextToken_206 : decode cX6_nextToken 206 = .ok (.getfield 32, 3) := by decide +kernel
theorem dX6_nextToken_209 : decode cX6_nextToken 209 = .ok (.aload_n 0, 1) := by decide +kernel
theorem dX6_nextToken_210 : decode cX6_nextToken 210 = .ok (.getfield 42, 3) := by decide +kernel
theorem dX6_nextToken_213 : decode cX6_nextToken 213 = .ok (.baload, 1) := by decide +kernel
theorem dX6_nextToken_214 : decode cX6_nextToken 214 = .ok (.bipush 59, 2) := by decide +kernel
theorem dX6_nextToken_216 : decode cX6_nextToken 216 = .ok (.if_icmp .ne 7, 3) := by decide +kernel
theorem dX6_nextToken_219 : decode cX6_nextToken 219 = .ok (.iconst 4, 1) := by decide +kernel
theorem dX6_nextToken_220 : decode cX6_nextToken 220 = .ok (.goto 4, 3) := by decide +kernel
theorem dX6_nextToken_223 : decode cX6_nextToken 223 = .ok (.iconst 1, 1) := by decide +kernel
theorem dX6_nextToken_224 : decode cX6_nextToken 224 = .ok (.putfield 39, 3) := by decide +kernel
theorem dX6_nextToken_227 : decode cX6_nextToken 227 = .ok (.return_, 1) := by decide +kernel
theorem dX6_endOfRun_0 : decode cX6_endOfRun 0 = .ok (.aload_n 0, 1) := by decide +kernel
theorem dX6_endOfRun_1 : decode cX6_endOfRun 1 = .ok (.getfield 42, 3) := by decide +kernel
theorem dX6_endOfRun_4 : decode cX6_endOfRun 4 = .ok (.istore_n 3, 1) := by decide +kernel
theorem dX6_endOfRun_5 : decode cX6_endOfRun 5 = .ok (.iload_n 3, 1) := by decide +kernel
theorem dX6_endOfRun_6 : decode cX6_endOfRun 6 = .ok (.aload_n 0, 1) := by decide +kernel
theorem dX6_endOfRun_7 : decode cX6_endOfRun 7 = .ok (.getfield 36, 3) := by decide +kernel
theorem dX6_endOfRun_10 : decode cX6_endOfRun 10 = .ok (.if_icmp .ge 29, 3) := by decide +kernel
theorem dX6_endOfRun_13 : decode cX6_endOfRun 13 = .ok (.aload_n 0, 1) := by decide +kernel
theorem dX6_endOfRun_14 : decode cX6_endOfRun 14 = .ok (.getfield 32, 3) := by decide +kernel
theorem dX6_endOfRun_17 : decode cX6_endOfRun 17 = .ok (.iload_n 3, 1) := by decide +kernel
theorem dX6_endOfRun_18 : decode cX6_endOfRun 18 = .ok (.baload, 1) := by decide +kernel
theorem dX6_endOfRun_19 : decode cX6_endOfRun 19 = .ok (.iload_n 1, 1) := by decide +kernel
theorem dX6_endOfRun_20 : decode cX6_endOfRun 20 = .ok (.if_icmp .lt 19, 3) := by decide +kernel
theorem dX6_endOfRun_23 : decode cX6_endOfRun 23 = .ok (.aload_n 0, 1) := by decide +kernel
theorem dX6_endOfRun_24 : decode cX6_endOfRun 24 = .ok (.getfield 32, 3) := by decide +kernel
theorem dX6_endOfRun_27 : decode cX6_endOfRun 27 = .ok (.iload_n 3, 1) := by decide +kernel
theorem dX6_endOfRun_28 : decode cX6_endOfRun 28 = .ok (.baload, 1) := by decide +kernel
theorem dX6_endOfRun_29 : decode cX6_endOfRun 29 = .ok (.iload_n 2, 1) := by decide +kernel
theorem dX6_endOfRun_30 : decode cX6_endOfRun 30 = .ok (.if_icmp .gt 9, 3) := by decide +kernel
theorem dX6_endOfRun_33 : decode cX6_endOfRun 33 = .ok (.iinc 3 1, 3) := by decide +kernel
theorem dX6_endOfRun_36 : decode cX6_endOfRun 36 = .ok (.goto (-31), 3) := by decide +kernel
theorem dX6_endOfRun_39 : decode cX6_endOfRun 39 = .ok (.iload_n 3, 1) := by decide +kernel
theorem dX6_endOfRun_40 : decode cX6_endOfRun 40 = .ok (.ireturn, 1) := by decide +kernel
theorem dX6_valueOfDigits_0 : decode cX6_valueOfDigits 0 = .ok (.iconst 0, 1) := by decide +kernel
theorem dX6_valueOfDigits_1 : decode cX6_valueOfDigits 1 = .ok (.istore_n 1, 1) := by decide +kernel
theorem dX6_valueOfDigits_2 : decode cX6_valueOfDigits 2 = .ok (.aload_n 0, 1) := by decide +kernel
theorem dX6_valueOfDigits_3 : decode cX6_valueOfDigits 3 = .ok (.getfield 42, 3) := by decide +kernel
theorem dX6_valueOfDigits_6 : decode cX6_valueOfDigits 6 = .ok (.istore_n 2, 1) := by decide +kernel
theorem dX6_valueOfDigits_7 : decode cX6_valueOfDigits 7 = .ok (.iload_n 2, 1) := by decide +kernel
theorem dX6_valueOfDigits_8 : decode cX6_valueOfDigits 8 = .ok (.aload_n 0, 1) := by decide +kernel
theorem dX6_valueOfDigits_9 : decode cX6_valueOfDigits 9 = .ok (.getfield 45, 3) := by decide +kernel
theorem dX6_valueOfDigits_12 : decode cX6_valueOfDigits 12 = .ok (.if_icmp .ge 24, 3) := by decide +kernel
theorem dX6_valueOfDigits_15 : decode cX6_valueOfDigits 15 = .ok (.iload_n 1, 1) := by decide +kernel
theorem dX6_valueOfDigits_16 : decode cX6_valueOfDigits 16 = .ok (.bipush 10, 2) := by decide +kernel
theorem dX6_valueOfDigits_18 : decode cX6_valueOfDigits 18 = .ok (.imul, 1) := by decide +kernel
theorem dX6_valueOfDigits_19 : decode cX6_valueOfDigits 19 = .ok (.aload_n 0, 1) := by decide +kernel
theorem dX6_valueOfDigits_20 : decode cX6_valueOfDigits 20 = .ok (.getfield 32, 3) := by decide +kernel
theorem dX6_valueOfDigits_23 : decode cX6_valueOfDigits 23 = .ok (.iload_n 2, 1) := by decide +kernel
theorem dX6_valueOfDigits_24 : decode cX6_valueOfDigits 24 = .ok (.baload, 1) := by decide +kernel
theorem dX6_valueOfDigits_25 : decode cX6_valueOfDigits 25 = .ok (.bipush 48, 2) := by decide +kernel
theorem dX6_valueOfDigits_27 : decode cX6_valueOfDigits 27 = .ok (.isub, 1) := by decide +kernel
theorem dX6_valueOfDigits_28 : decode cX6_valueOfDigits 28 = .ok (.iadd, 1) := by decide +kernel
theorem dX6_valueOfDigits_29 : decode cX6_valueOfDigits 29 = .ok (.istore_n 1, 1) := by decide +kernel
theorem dX6_valueOfDigits_30 : decode cX6_valueOfDigits 30 = .ok (.iinc 2 1, 3) := by decide +kernel
theorem dX6_valueOfDigits_33 : decode cX6_valueOfDigits 33 = .ok (.goto (-26), 3) := by decide +kernel
theorem dX6_valueOfDigits_36 : decode cX6_valueOfDigits 36 = .ok (.iload_n 1, 1) := by decide +kernel
theorem dX6_valueOfDigits_37 : decode cX6_valueOfDigits 37 = .ok (.ireturn, 1) := by decide +kernel
theorem dX7_init_0 : decode cX7_init 0 = .ok (.aload_n 0, 1) := by decide +kernel
theorem dX7_init_1 : decode cX7_init 1 = .ok (.invokespecial 3, 3) := by decide +kernel
theorem dX7_init_4 : decode cX7_init 4 = .ok (.aload_n 0, 1) := by decide +kernel
theorem dX7_init_5 : decode cX7_init 5 = .ok (.ldc 11, 2) := by decide +kernel
theorem dX7_init_7 : decode cX7_init 7 = .ok (.putfield 12, 3) := by decide +kernel
theorem dX7_init_10 : decode cX7_init 10 = .ok (.aload_n 0, 1) := by decide +kernel
theorem dX7_init_11 : decode cX7_init 11 = .ok (.bipush 6, 2) := by decide +kernel
theorem dX7_init_13 : decode cX7_init 13 = .ok (.newarray .int, 2) := by decide +kernel
theorem dX7_init_15 : decode cX7_init 15 = .ok (.putfield 16, 3) := by decide +kernel
theorem dX7_init_18 : decode cX7_init 18 = .ok (.aload_n 0, 1) := by decide +kernel
theorem dX7_init_19 : decode cX7_init 19 = .ok (.new 20, 3) := by decide +kernel
theorem dX7_init_22 : decode cX7_init 22 = .ok (.dup, 1) := by decide +kernel
theorem dX7_init_23 : decode cX7_init 23 = .ok (.invokespecial 22, 3) := by decide +kernel
theorem dX7_init_26 : decode cX7_init 26 = .ok (.putfield 23, 3) := by decide +kernel
theorem dX7_init_29 : decode cX7_init 29 = .ok (.aload_n 0, 1) := by decide +kernel
theorem dX7_init_30 : decode cX7_init 30 = .ok (.bipush 36, 2) := by decide +kernel
theorem dX7_init_32 : decode cX7_init 32 = .ok (.bipush 24, 2) := by decide +kernel
theorem dX7_init_34 : decode cX7_init 34 = .ok (.multianewarray 27 2, 4) := by decide +kernel
theorem dX7_init_38 : decode cX7_init 38 = .ok (.putfield 29, 3) := by decide +kernel
theorem dX7_init_41 : decode cX7_init 41 = .ok (.aload_n 0, 1) := by decide +kernel
theorem dX7_init_42 : decode cX7_init 42 = .ok (.bipush 6, 2) := by decide +kernel
theorem dX7_init_44 : decode cX7_init 44 = .ok (.sipush 144, 3) := by decide +kernel
theorem dX7_init_47 : decode cX7_init 47 = .ok (.multianewarray 27 2, 4) := by decide +kernel
theorem dX7_init_51 : decode cX7_init 51 = .ok (.putfield 32, 3) := by decide +kernel
theorem dX7_init_54 : decode cX7_init 54 = .ok (.aload_n 0, 1) := by decide +kernel
theorem dX7_init_55 : decode cX7_init 55 = .ok (.bipush 6, 2) := by decide +kernel
theorem dX7_init_57 : decode cX7_init 57 = .ok (.newarray .int, 2) := by decide +kernel
theorem dX7_init_59 : decode cX7_init 59 = .ok (.putfield 35, 3) := by decide +kernel
theorem dX7_init_62 : decode cX7_init 62 = .ok (.aload_n 0, 1) := by decide +kernel
theorem dX7_init_63 : decode cX7_init 63 = .ok (.bipush 6, 2) := by decide +kernel
theorem dX7_init_65 : decode cX7_init 65 = .ok (.newarray .int, 2) := by decide +kernel
theorem dX7_init_67 : decode cX7_init 67 = .ok (.putfield 38, 3) := by decide +kernel
theorem dX7_init_70 : decode cX7_init 70 = .ok (.aload_n 0, 1) := by decide +kernel
theorem dX7_init_71 : decode cX7_init 71 = .ok (.iconst 0, 1) := by decide +kernel
theorem dX7_init_72 : decode cX7_init 72 = .ok (.putfield 41, 3) := by decide +kernel
theorem dX7_init_75 : decode cX7_init 75 = .ok (.aload_n 0, 1) := by decide +kernel
theorem dX7_init_76 : decode cX7_init 76 = .ok (.bipush 12, 2) := by decide +kernel
theorem dX7_init_78 : decode cX7_init 78 = .ok (.putfield 44, 3) := by decide +kernel
theorem dX7_init_81 : decode cX7_init 81 = .ok (.aload_n 0, 1) := by decide +kernel
theorem dX7_init_82 : decode cX7_init 82 = .ok (.iconst 0, 1) := by decide +kernel
theorem dX7_init_83 : decode cX7_init 83 = .ok (.putfield 47, 3) := by decide +kernel
theorem dX7_init_86 : decode cX7_init 86 = .ok (.return_, 1) := by decide +kernel
theorem dX7_findGood_0 : decode cX7_findGood 0 = .ok (.aload_n 0, 1) := by decide +kernel
theorem dX7_findGood_1 : decode cX7_findGood 1 = .ok (.iload_n 2, 1) := by decide +kernel
theorem dX7_findGood_2 : decode cX7_findGood 2 = .ok (.putfield 47, 3) := by decide +kernel
theorem dX7_findGood_5 : decode cX7_findGood 5 = .ok (.aload_n 0, 1) := by decide +kernel
theorem dX7_findGood_6 : decode cX7_findGood 6 = .ok (.aload_n 1, 1) := by decide +kernel
theorem dX7_findGood_7 : decode cX7_findGood 7 = .ok (.getfield 51, 3) := by decide +kernel
theorem dX7_findGood_10 : decode cX7_findGood 10 = .ok (.putfield 41, 3) := by decide +kernel
theorem dX7_findGood_13 : decode cX7_findGood 13 = .ok (.aload_n 0, 1) := by decide +kernel
theorem dX7_findGood_14 : decode cX7_findGood 14 = .ok (.aload_n 1, 1) := by decide +kernel
theorem dX7_findGood_15 : decode cX7_findGood 15 = .ok (.getfield 56, 3) := by decide +kernel
theorem dX7_findGood_18 : decode cX7_findGood 18 = .ok (.putfield 44, 3) := by decide +kernel
theorem dX7_findGood_21 : decode cX7_findGood 21 = .ok (.aload_n 0, 1) := by decide +kernel
theorem dX7_findGood_22 : decode cX7_findGood 22 = .ok (.ldc 11, 2) := by decide +kernel
theorem dX7_findGood_24 : decode cX7_findGood 24 = .ok (.putfield 12, 3) := by decide +kernel
theorem dX7_findGood_27 : decode cX7_findGood 27 = .ok (.aload_n 0, 1) := by decide +kernel
theorem dX7_findGood_28 : decode cX7_findGood 28 = .ok (.getfield 23, 3) := by decide +kernel
theorem dX7_findGood_31 : decode cX7_findGood 31 = .ok (.aload_n 1, 1) := by decide +kernel
theorem dX7_findGood_32 : decode cX7_findGood 32 = .ok (.invokevirtual 57, 3) := by decide +kernel
theorem dX7_findGood_35 : decode cX7_findGood 35 = .ok (.aload_n 0, 1) := by decide +kernel
theorem dX7_findGood_36 : decode cX7_findGood 36 = .ok (.getfield 23, 3) := by decide +kernel
theorem dX7_findGood_39 : decode cX7_findGood 39 = .ok (.invokevirtual 61, 3) := by decide +kernel
theorem dX7_findGood_42 : decode cX7_findGood 42 = .ok (.aload_n 0, 1) := by decide +kernel
theorem dX7_findGood_43 : decode cX7_findGood 43 = .ok (.getfield 23, 3) := by decide +kernel
theorem dX7_findGood_46 : decode cX7_findGood 46 = .ok (.invokevirtual 64, 3) := by decide +kernel
theorem dX7_findGood_49 : decode cX7_findGood 49 = .ok (.ifCond .ne 23, 3) := by decide +kernel
theorem dX7_findGood_52 : decode cX7_findGood 52 = .ok (.aload_n 0, 1) := by decide +kernel
theorem dX7_findGood_53 : decode cX7_findGood 53 = .ok (.aload_n 1, 1) := by decide +kernel
theorem dX7_findGood_54 : decode cX7_findGood 54 = .ok (.invokevirtual 68, 3) := by decide +kernel
theorem dX7_findGood_57 : decode cX7_findGood 57 = .ok (.aload_n 0, 1) := by decide +kernel
theorem dX7_findGood_58 : decode cX7_findGood 58 = .ok (.invokevirtual 71, 3) := by decide +kernel
theorem dX7_findGood_61 : decode cX7_findGood 61 = .ok (.aload_n 0, 1) := by decide +kernel
theorem dX7_findGood_62 : decode cX7_findGood 62 = .ok (.aload_n 1, 1) := by decide +kernel
theorem dX7_findGood_63 : decode cX7_findGood 63 = .ok (.invokevirtual 74, 3) := by decide +kernel
theorem dX7_findGood_66 : decode cX7_findGood 66 = .ok (.aload_n 0, 1) := by decide +kernel
theorem dX7_findGood_67 : decode cX7_findGood 67 = .ok (.iconst 0, 1) := by decide +kernel
theorem dX7_findGood_68 : decode cX7_findGood 68 = .ok (.iconst 0, 1) := by decide +kernel
theorem dX7_findGood_69 : decode cX7_findGood 69 = .ok (.invokevirtual 77, 3) := by decide +kernel
theorem dX7_findGood_72 : decode cX7_findGood 72 = .ok (.aload_n 0, 1) := by decide +kernel
theorem dX7_findGood_73 : decode cX7_findGood 73 = .ok (.getfield 12, 3) := by decide +kernel
theorem dX7_findGood_76 : decode cX7_findGood 76 = .ok (.ldc 11, 2) := by decide +kernel
theorem dX7_findGood_78 : decode cX7_findGood 78 = .ok (.if_icmp .ge 7, 3) := by decide +kernel
theorem dX7_findGood_81 : decode cX7_findGood 81 = .ok (.iconst 1, 1) := by decide +kernel
theorem dX7_findGood_82 : decode cX7_findGood 82 = .ok (.goto 4, 3) := by decide +kernel
theorem dX7_findGood_85 : decode cX7_findGood 85 = .ok (.iconst 0, 1) := by decide +kernel
theorem dX7_findGood_86 : decode cX7_findGood 86 = .ok (.ireturn, 1) := by decide +kernel
theorem dX7_priceDifferences_0 : decode cX7_priceDifferences 0 = .ok (.iconst 0, 1) := by decide +kernel
theorem dX7_priceDifferences_1 : decode cX7_priceDifferences 1 = .ok (.istore_n 2, 1) := by decide +kernel
theorem dX7_priceDifferences_2 : decode cX7_priceDifferences 2 = .ok (.iload_n 2, 1) := by decide +kernel
theorem dX7_priceDifferences_3 : decode cX7_priceDifferences 3 = .ok (.aload_n 0, 1) := by decide +kernel
theorem dX7_priceDifferences_4 : decode cX7_priceDifferences 4 = .ok (.getfield 41, 3) := by decide +kernel
theorem dX7_priceDifferences_7 : decode cX7_priceDifferences 7 = .ok (.if_icmp .ge 83, 3) := by decide +kernel
theorem dX7_priceDifferences_10 : decode cX7_priceDifferences 10 = .ok (.iload_n 2, 1) := by decide +kernel
theorem dX7_priceDifferences_11 : decode cX7_priceDifferences 11 = .ok (.iconst 1, 1) := by decide +kernel
theorem dX7_priceDifferences_12 : decode cX7_priceDifferences 12 = .ok (.iadd, 1) := by decide +kernel
theorem dX7_priceDifferences_13 : decode cX7_priceDifferences 13 = .ok (.istore_n 3, 1) := by decide +kernel
theorem dX7_priceDifferences_14 : decode cX7_priceDifferences 14 = .ok (.iload_n 3, 1) := by decide +kernel
theorem dX7_priceDifferences_15 : decode cX7_priceDifferences 15 = .ok (.aload_n 0, 1) := by decide +kernel
theorem dX7_priceDifferences_16 : decode cX7_priceDifferences 16 = .ok (.getfield 41, 3) := by decide +kernel
theorem dX7_priceDifferences_19 : decode cX7_priceDifferences 19 = .ok (.if_icmp .ge 65, 3) := by decide +kernel
theorem dX7_priceDifferences_22 : decode cX7_priceDifferences 22 = .ok (.iconst 0, 1) := by decide +kernel
theorem dX7_priceDifferences_23 : decode cX7_priceDifferences 23 = .ok (.istore 4, 2) := by decide +kernel
theorem dX7_priceDifferences_25 : decode cX7_priceDifferences 25 = .ok (.iload 4, 2) := by decide +kernel
theorem dX7_priceDifferences_27 : decode cX7_priceDifferences 27 = .ok (.aload_n 0, 1) := by decide +kernel
theorem dX7_priceDifferences_28 : decode cX7_priceDifferences 28 = .ok (.getfield 44, 3) := by decide +kernel
theorem dX7_priceDifferences_31 : decode cX7_priceDifferences 31 = .ok (.if_icmp .ge 47, 3) := by decide +kernel
theorem dX7_priceDifferences_34 : decode cX7_priceDifferences 34 = .ok (.aload_n 0, 1) := by decide +kernel
theorem dX7_priceDifferences_35 : decode cX7_priceDifferences 35 = .ok (.getfield 23, 3) := by decide +kernel
theorem dX7_priceDifferences_38 : decode cX7_priceDifferences 38 = .ok (.iload_n 2, 1) := by decide +kernel
theorem dX7_priceDifferences_39 : decode cX7_priceDifferences 39 = .ok (.iload_n 3, 1) := by decide +kernel
theorem dX7_priceDifferences_40 : decode cX7_priceDifferences 40 = .ok (.iload 4, 2) := by decide +kernel
theorem dX7_priceDifferences_42 : decode cX7_priceDifferences 42 = .ok (.invokevirtual 81, 3) := by decide +kernel
theorem dX7_priceDifferences_45 : decode cX7_priceDifferences 45 = .ok (.istore 5, 2) := by decide +kernel
theorem dX7_priceDifferences_47 : decode cX7_priceDifferences 47 = .ok (.aload_n 0, 1) := by decide +kernel
theorem dX7_priceDifferences_48 : decode cX7_priceDifferences 48 = .ok (.getfield 29, 3) := by decide +kernel
theorem dX7_priceDifferences_51 : decode cX7_priceDifferences 51 = .ok (.iload_n 2, 1) := by decide +kernel
theorem dX7_priceDifferences_52 : decode cX7_priceDifferences 52 = .ok (.bipush 6, 2) := by decide +kernel
theorem dX7_priceDifferences_54 : decode cX7_priceDifferences 54 = .ok (.imul, 1) := by decide +kernel
theorem dX7_priceDifferences_55 : decode cX7_priceDifferences 55 = .ok (.iload_n 3, 1) := by decide +kernel
theorem dX7_priceDifferences_56 : decode cX7_priceDifferences 56 = .ok (.iadd, 1) := by decide +kernel
theorem dX7_priceDifferences_57 : decode cX7_priceDifferences 57 = .ok (.aaload, 1) := by decide +kernel
theorem dX7_priceDifferences_58 : decode cX7_priceDifferences 58 = .ok (.iload 4, 2) := by decide +kernel
theorem dX7_priceDifferences_60 : decode cX7_priceDifferences 60 = .ok (.iload 5, 2) := by decide +kernel
theorem dX7_priceDifferences_62 : decode cX7_priceDifferences 62 = .ok (.ifCond .eq 7, 3) := by decide +kernel
theorem dX7_priceDifferences_65 : decode cX7_priceDifferences 65 = .ok (.iconst 0, 1) := by decide +kernel
theorem dX7_priceDifferences_66 : decode cX7_priceDifferences 66 = .ok (.goto 5, 3) := by decide +kernel
theorem dX7_priceDifferences_69 : decode cX7_priceDifferences 69 = .ok (.ldc 11, 2) := by decide +kernel
theorem dX7_priceDifferences_71 : decode cX7_priceDifferences 71 = .ok (.iastore, 1) := by decide +kernel
theorem dX7_priceDifferences_72 : decode cX7_priceDifferences 72 = .ok (.iinc 4 1, 3) := by decide +kernel
theorem dX7_priceDifferences_75 : decode cX7_priceDifferences 75 = .ok (.goto (-50), 3) := by decide +kernel
theorem dX7_priceDifferences_78 : decode cX7_priceDifferences 78 = .ok (.iinc 3 1, 3) := by decide +kernel
theorem dX7_priceDifferences_81 : decode cX7_priceDifferences 81 = .ok (.goto (-67), 3) := by decide +kernel
theorem dX7_priceDifferences_84 : decode cX7_priceDifferences 84 = .ok (.iinc 2 1, 3) := by decide +kernel
theorem dX7_priceDifferences_87 : decode cX7_priceDifferences 87 = .ok (.goto (-85), 3) := by decide +kernel
theorem dX7_priceDifferences_90 : decode cX7_priceDifferences 90 = .ok (.iconst 0, 1) := by decide +kernel
theorem dX7_priceDifferences_91 : decode cX7_priceDifferences 91 = .ok (.istore_n 2, 1) := by decide +kernel
theorem dX7_priceDifferences_92 : decode cX7_priceDifferences 92 = .ok (.iload_n 2, 1) := by decide +kernel
theorem dX7_priceDifferences_93 : decode cX7_priceDifferences 93 = .ok (.aload_n 1, 1) := by decide +kernel
theorem dX7_priceDifferences_94 : decode cX7_priceDifferences 94 = .ok (.getfield 85, 3) := by decide +kernel
theorem dX7_priceDifferences_97 : decode cX7_priceDifferences 97 = .ok (.if_icmp .ge 15, 3) := by decide +kernel
theorem dX7_priceDifferences_100 : decode cX7_priceDifferences 100 = .ok (.aload_n 0, 1) := by decide +kernel
theorem dX7_priceDifferences_101 : decode cX7_priceDifferences 101 = .ok (.aload_n 1, 1) := by decide +kernel
theorem dX7_priceDifferences_102 : decode cX7_priceDifferences 102 = .ok (.iload_n 2, 1) := by decide +kernel
theorem dX7_priceDifferences_103 : decode cX7_priceDifferences 103 = .ok (.invokevirtual 88, 3) := by decide +kernel
theorem dX7_priceDifferences_106 : decode cX7_priceDifferences 106 = .ok (.iinc 2 1, 3) := by decide +kernel
theorem dX7_priceDifferences_109 : decode cX7_priceDifferences 109 = .ok (.goto (-17), 3) := by decide +kernel
theorem dX7_priceDifferences_112 : decode cX7_priceDifferences 112 = .ok (.return_, 1) := by decide +kernel
theorem dX7_priceSpan_0 : decode cX7_priceSpan 0 = .ok (.aload_n 1, 1) := by decide +kernel
theorem dX7_priceSpan_1 : decode cX7_priceSpan 1 = .ok (.getfield 92, 3) := by decide +kernel
theorem dX7_priceSpan_4 : decode cX7_priceSpan 4 = .ok (.iload_n 2, 1) := by decide +kernel
theorem dX7_priceSpan_5 : decode cX7_priceSpan 5 = .ok (.iaload, 1) := by decide +kernel
theorem dX7_priceSpan_6 : decode cX7_priceSpan 6 = .ok (.aload_n 1, 1) := by decide +kernel
theorem dX7_priceSpan_7 : decode cX7_priceSpan 7 = .ok (.getfield 95, 3) := by decide +kernel
theorem dX7_priceSpan_10 : decode cX7_priceSpan 10 = .ok (.iload_n 2, 1) := by decide +kernel
theorem dX7_priceSpan_11 : decode cX7_priceSpan 11 = .ok (.iaload, 1) := by decide +kernel
theorem dX7_priceSpan_12 : decode cX7_priceSpan 12 = .ok (.invokestatic 98, 3) := by decide +kernel
theorem dX7_priceSpan_15 : decode cX7_priceSpan 15 = .ok (.istore_n 3, 1) := by decide +kernel
theorem dX7_priceSpan_16 : decode cX7_priceSpan 16 = .ok (.aload_n 1, 1) := by decide +kernel
theorem dX7_priceSpan_17 : decode cX7_priceSpan 17 = .ok (.getfield 92, 3) := by decide +kernel
theorem dX7_priceSpan_20 : decode cX7_priceSpan 20 = .ok (.iload_n 2, 1) := by decide +kernel
theorem dX7_priceSpan_21 : decode cX7_priceSpan 21 = .ok (.iaload, 1) := by decide +kernel
theorem dX7_priceSpan_22 : decode cX7_priceSpan 22 = .ok (.aload_n 1, 1) := by decide +kernel
theorem dX7_priceSpan_23 : decode cX7_priceSpan 23 = .ok (.getfield 95, 3) := by decide +kernel
theorem dX7_priceSpan_26 : decode cX7_priceSpan 26 = .ok (.iload_n 2, 1) := by decide +kernel
theorem dX7_priceSpan_27 : decode cX7_priceSpan 27 = .ok (.iaload, 1) := by decide +kernel
theorem dX7_priceSpan_28 : decode cX7_priceSpan 28 = .ok (.invokestatic 104, 3) := by decide +kernel
theorem dX7_priceSpan_31 : decode cX7_priceSpan 31 = .ok (.istore 4, 2) := by decide +kernel
theorem dX7_priceSpan_33 : decode cX7_priceSpan 33 = .ok (.iload_n 3, 1) := by decide +kernel
theorem dX7_priceSpan_34 : decode cX7_priceSpan 34 = .ok (.aload_n 1, 1) := by decide +kernel
theorem dX7_priceSpan_35 : decode cX7_priceSpan 35 = .ok (.getfield 92, 3) := by decide +kernel
theorem dX7_priceSpan_38 : decode cX7_priceSpan 38 = .ok (.iload_n 2, 1) := by decide +kernel
theorem dX7_priceSpan_39 : decode cX7_priceSpan 39 = .ok (.iaload, 1) := by decide +kernel
theorem dX7_priceSpan_40 : decode cX7_priceSpan 40 = .ok (.if_icmp .ne 7, 3) := by decide +kernel
theorem dX7_priceSpan_43 : decode cX7_priceSpan 43 = .ok (.iconst 1, 1) := by decide +kernel
theorem dX7_priceSpan_44 : decode cX7_priceSpan 44 = .ok (.goto 4, 3) := by decide +kernel
theorem dX7_priceSpan_47 : decode cX7_priceSpan 47 = .ok (.iconst (-1), 1) := by decide +kernel
theorem dX7_priceSpan_48 : decode cX7_priceSpan 48 = .ok (.istore 5, 2) := by decide +kernel
theorem dX7_priceSpan_50 : decode cX7_priceSpan 50 = .ok (.iconst 0, 1) := by decide +kernel
theorem dX7_priceSpan_51 : decode cX7_priceSpan 51 = .ok (.istore 6, 2) := by decide +kernel
theorem dX7_priceSpan_53 : decode cX7_priceSpan 53 = .ok (.iload 6, 2) := by decide +kernel
theorem dX7_priceSpan_55 : decode cX7_priceSpan 55 = .ok (.aload_n 0, 1) := by decide +kernel
theorem dX7_priceSpan_56 : decode cX7_priceSpan 56 = .ok (.getfield 44, 3) := by decide +kernel
theorem dX7_priceSpan_59 : decode cX7_priceSpan 59 = .ok (.if_icmp .ge 44, 3) := by decide +kernel
theorem dX7_priceSpan_62 : decode cX7_priceSpan 62 = .ok (.aload_n 0, 1) := by decide +kernel
theorem dX7_priceSpan_63 : decode cX7_priceSpan 63 = .ok (.getfield 29, 3) := by decide +kernel
theorem dX7_priceSpan_66 : decode cX7_priceSpan 66 = .ok (.iload_n 3, 1) := by decide +kernel
theorem dX7_priceSpan_67 : decode cX7_priceSpan 67 = .ok (.bipush 6, 2) := by decide +kernel
theorem dX7_priceSpan_69 : decode cX7_priceSpan 69 = .ok (.imul, 1) := by decide +kernel
theorem dX7_priceSpan_70 : decode cX7_priceSpan 70 = .ok (.iload 4, 2) := by decide +kernel
theorem dX7_priceSpan_72 : decode cX7_priceSpan 72 = .ok (.iadd, 1) := by decide +kernel
theorem dX7_priceSpan_73 : decode cX7_priceSpan 73 = .ok (.aaload, 1) := by decide +kernel
theorem dX7_priceSpan_74 : decode cX7_priceSpan 74 = .ok (.iload 6, 2) := by decide +kernel
theorem dX7_priceSpan_76 : decode cX7_priceSpan 76 = .ok (.dup2, 1) := by decide +kernel
theorem dX7_priceSpan_77 : decode cX7_priceSpan 77 = .ok (.iaload, 1) := by decide +kernel
theorem dX7_priceSpan_78 : decode cX7_priceSpan 78 = .ok (.aload_n 1, 1) := by decide +kernel
theorem dX7_priceSpan_79 : decode cX7_priceSpan 79 = .ok (.getfield 107, 3) := by decide +kernel
theorem dX7_priceSpan_82 : decode cX7_priceSpan 82 = .ok (.iload_n 2, 1) := by decide +kernel
theorem dX7_priceSpan_83 : decode cX7_priceSpan 83 = .ok (.iaload, 1) := by decide +kernel
theorem dX7_priceSpan_84 : decode cX7_priceSpan 84 = .ok (.aload_n 1, 1) := by decide +kernel
theorem dX7_priceSpan_85 : decode cX7_priceSpan 85 = .ok (.iload_n 2, 1) := by decide +kernel
theorem dX7_priceSpan_86 : decode cX7_priceSpan 86 = .ok (.iload 5, 2) := by decide +kernel
theorem dX7_priceSpan_88 : decode cX7_priceSpan 88 = .ok (.iload 6, 2) := by decide +kernel
theorem dX7_priceSpan_90 : decode cX7_priceSpan 90 = .ok (.imul, 1) := by decide +kernel
theorem dX7_priceSpan_91 : decode cX7_priceSpan 91 = .ok (.invokevirtual 110, 3) := by decide +kernel
theorem dX7_priceSpan_94 : decode cX7_priceSpan 94 = .ok (.imul, 1) := by decide +kernel
theorem dX7_priceSpan_95 : decode cX7_priceSpan 95 = .ok (.iadd, 1) := by decide +kernel
theorem dX7_priceSpan_96 : decode cX7_priceSpan 96 = .ok (.iastore, 1) := by decide +kernel
theorem dX7_priceSpan_97 : decode cX7_priceSpan 97 = .ok (.iinc 6 1, 3) := by decide +kernel
theorem dX7_priceSpan_100 : decode cX7_priceSpan 100 = .ok (.goto (-47), 3) := by decide +kernel
theorem dX7_priceSpan_103 : decode cX7_priceSpan 103 = .ok (.return_, 1) := by decide +kernel
theorem dX7_sumLeastPrices_0 : decode cX7_sumLeastPrices 0 = .ok (.iconst 0, 1) := by decide +kernel
theorem dX7_sumLeastPrices_1 : decode cX7_sumLeastPrices 1 = .ok (.istore_n 1, 1) := by decide +kernel
theorem dX7_sumLeastPrices_2 : decode cX7_sumLeastPrices 2 = .ok (.aload_n 0, 1) := by decide +kernel
theorem dX7_sumLeastPrices_3 : decode cX7_sumLeastPrices 3 = .ok (.getfield 41, 3) := by decide +kernel
theorem dX7_sumLeastPrices_6 : decode cX7_sumLeastPrices 6 = .ok (.iconst 1, 1) := by decide +kernel
theorem dX7_sumLeastPrices_7 : decode cX7_sumLeastPrices 7 = .ok (.isub, 1) := by decide +kernel
theorem dX7_sumLeastPrices_8 : decode cX7_sumLeastPrices 8 = .ok (.istore_n 2, 1) := by decide +kernel
theorem dX7_sumLeastPrices_9 : decode cX7_sumLeastPrices 9 = .ok (.iload_n 2, 1) := by decide +kernel
theorem dX7_sumLeastPrices_10 : decode cX7_sumLeastPrices 10 = .ok (.ifCond .lt 52, 3) := by decide +kernel
theorem dX7_sumLeastPrices_13 : decode cX7_sumLeastPrices 13 = .ok (.aload_n 0, 1) := by decide +kernel
theorem dX7_sumLeastPrices_14 : decode cX7_sumLeastPrices 14 = .ok (.getfield 35, 3) := by decide +kernel
theorem dX7_sumLeastPrices_17 : decode cX7_sumLeastPrices 17 = .ok (.iload_n 2, 1) := by decide +kernel
theorem dX7_sumLeastPrices_18 : decode cX7_sumLeastPrices 18 = .ok (.iload_n 1, 1) := by decide +kernel
theorem dX7_sumLeastPrices_19 : decode cX7_sumLeastPrices 19 = .ok (.iastore, 1) := by decide +kernel
theorem dX7_sumLeastPrices_20 : decode cX7_sumLeastPrices 20 = .ok (.iload_n 2, 1) := by decide +kernel
theorem dX7_sumLeastPrices_21 : decode cX7_sumLeastPrices 21 = .ok (.iconst 1, 1) := by decide +kernel
theorem dX7_sumLeastPrices_22 : decode cX7_sumLeastPrices 22 = .ok (.iadd, 1) := by decide +kernel
theorem dX7_sumLeastPrices_23 : decode cX7_sumLeastPrices 23 = .ok (.istore_n 3, 1) := by decide +kernel
theorem dX7_sumLeastPrices_24 : decode cX7_sumLeastPrices 24 = .ok (.iload_n 3, 1) := by decide +kernel
theorem dX7_sumLeastPrices_25 : decode cX7_sumLeastPrices 25 = .ok (.aload_n 0, 1) := by decide +kernel
theorem dX7_sumLeastPrices_26 : decode cX7_sumLeastPrices 26 = .ok (.getfield 41, 3) := by decide +kernel
theorem dX7_sumLeastPrices_29 : decode cX7_sumLeastPrices 29 = .ok (.if_icmp .ge 27, 3) := by decide +kernel
theorem dX7_sumLeastPrices_32 : decode cX7_sumLeastPrices 32 = .ok (.iload_n 1, 1) := by decide +kernel
theorem dX7_sumLeastPrices_33 : decode cX7_sumLeastPrices 33 = .ok (.aload_n 0, 1) := by decide +kernel
theorem dX7_sumLeastPrices_34 : decode cX7_sumLeastPrices 34 = .ok (.aload_n 0, 1) := by decide +kernel
theorem dX7_sumLeastPrices_35 : decode cX7_sumLeastPrices 35 = .ok (.getfield 29, 3) := by decide +kernel
theorem dX7_sumLeastPrices_38 : decode cX7_sumLeastPrices 38 = .ok (.iload_n 2, 1) := by decide +kernel
theorem dX7_sumLeastPrices_39 : decode cX7_sumLeastPrices 39 = .ok (.bipush 6, 2) := by decide +kernel
theorem dX7_sumLeastPrices_41 : decode cX7_sumLeastPrices 41 = .ok (.imul, 1) := by decide +kernel
theorem dX7_sumLeastPrices_42 : decode cX7_sumLeastPrices 42 = .ok (.iload_n 3, 1) := by decide +kernel
theorem dX7_sumLeastPrices_43 : decode cX7_sumLeastPrices 43 = .ok (.iadd, 1) := by decide +kernel
theorem dX7_sumLeastPrices_44 : decode cX7_sumLeastPrices 44 = .ok (.aaload, 1) := by decide +kernel
theorem dX7_sumLeastPrices_45 : decode cX7_sumLeastPrices 45 = .ok (.invokevirtual 113, 3) := by decide +kernel
theorem dX7_sumLeastPrices_48 : decode cX7_sumLeastPrices 48 = .ok (.iadd, 1) := by decide +kernel
theorem dX7_sumLeastPrices_49 : decode cX7_sumLeastPrices 49 = .ok (.istore_n 1, 1) := by decide +kernel
theorem dX7_sumLeastPrices_50 : decode cX7_sumLeastPrices 50 = .ok (.iinc 3 1, 3) := by decide +kernel
theorem dX7_sumLeastPrices_53 : decode cX7_sumLeastPrices 53 = .ok (.goto (-29), 3) := by decide +kernel
theorem dX7_sumLeastPrices_56 : decode cX7_sumLeastPrices 56 = .ok (.iinc 2 (-1), 3) := by decide +kernel
theorem dX7_sumLeastPrices_59 : decode cX7_sumLeastPrices 59 = .ok (.goto (-50), 3) := by decide +kernel
theorem dX7_sumLeastPrices_62 : decode cX7_sumLeastPrices 62 = .ok (.return_, 1) := by decide +kernel
theorem dX7_leastPrice_0 : decode cX7_leastPrice 0 = .ok (.ldc 11, 2) := by decide +kernel
theorem dX7_leastPrice_2 : decode cX7_leastPrice 2 = .ok (.istore_n 2, 1) := by decide +kernel
theorem dX7_leastPrice_3 : decode cX7_leastPrice 3 = .ok (.iconst 0, 1) := by decide +kernel
theorem dX7_leastPrice_4 : decode cX7_leastPrice 4 = .ok (.istore_n 3, 1) := by decide +kernel
theorem dX7_leastPrice_5 : decode cX7_leastPrice 5 = .ok (.iload_n 3, 1) := by decide +kernel
theorem dX7_leastPrice_6 : decode cX7_leastPrice 6 = .ok (.aload_n 0, 1) := by decide +kernel
theorem dX7_leastPrice_7 : decode cX7_leastPrice 7 = .ok (.getfield 44, 3) := by decide +kernel
theorem dX7_leastPrice_10 : decode cX7_leastPrice 10 = .ok (.if_icmp .ge 17, 3) := by decide +kernel
theorem dX7_leastPrice_13 : decode cX7_leastPrice 13 = .ok (.iload_n 2, 1) := by decide +kernel
theorem dX7_leastPrice_14 : decode cX7_leastPrice 14 = .ok (.aload_n 1, 1) := by decide +kernel
theorem dX7_leastPrice_15 : decode cX7_leastPrice 15 = .ok (.iload_n 3, 1) := by decide +kernel
theorem dX7_leastPrice_16 : decode cX7_leastPrice 16 = .ok (.iaload, 1) := by decide +kernel
theorem dX7_leastPrice_17 : decode cX7_leastPrice 17 = .ok (.invokestatic 98, 3) := by decide +kernel
theorem dX7_leastPrice_20 : decode cX7_leastPrice 20 = .ok (.istore_n 2, 1) := by decide +kernel
theorem dX7_leastPrice_21 : decode cX7_leastPrice 21 = .ok (.iinc 3 1, 3) := by decide +kernel
theorem dX7_leastPrice_24 : decode cX7_leastPrice 24 = .ok (.goto (-19), 3) := by decide +kernel
theorem dX7_leastPrice_27 : decode cX7_leastPrice 27 = .ok (.iload_n 2, 1) := by decide +kernel
theorem dX7_leastPrice_28 : decode cX7_leastPrice 28 = .ok (.ireturn, 1) := by decide +kernel
theorem dX7_holdFirstEvent_0 : decode cX7_holdFirstEvent 0 = .ok (.iconst 0, 1) := by decide +kernel
theorem dX7_holdFirstEvent_1 : decode cX7_holdFirstEvent 1 = .ok (.istore_n 2, 1) := by decide +kernel
theorem dX7_holdFirstEvent_2 : decode cX7_holdFirstEvent 2 = .ok (.iload_n 2, 1) := by decide +kernel
theorem dX7_holdFirstEvent_3 : decode cX7_holdFirstEvent 3 = .ok (.aload_n 0, 1) := by decide +kernel
theorem dX7_holdFirstEvent_4 : decode cX7_holdFirstEvent 4 = .ok (.getfield 41, 3) := by decide +kernel
theorem dX7_holdFirstEvent_7 : decode cX7_holdFirstEvent 7 = .ok (.if_icmp .ge 70, 3) := by decide +kernel
theorem dX7_holdFirstEvent_10 : decode cX7_holdFirstEvent 10 = .ok (.iconst 0, 1) := by decide +kernel
theorem dX7_holdFirstEvent_11 : decode cX7_holdFirstEvent 11 = .ok (.istore_n 3, 1) := by decide +kernel
theorem dX7_holdFirstEvent_12 : decode cX7_holdFirstEvent 12 = .ok (.iload_n 3, 1) := by decide +kernel
theorem dX7_holdFirstEvent_13 : decode cX7_holdFirstEvent 13 = .ok (.aload_n 0, 1) := by decide +kernel
theorem dX7_holdFirstEvent_14 : decode cX7_holdFirstEvent 14 = .ok (.getfield 44, 3) := by decide +kernel
theorem dX7_holdFirstEvent_17 : decode cX7_holdFirstEvent 17 = .ok (.if_icmp .ge 54, 3) := by decide +kernel
theorem dX7_holdFirstEvent_20 : decode cX7_holdFirstEvent 20 = .ok (.iload_n 2, 1) := by decide +kernel
theorem dX7_holdFirstEvent_21 : decode cX7_holdFirstEvent 21 = .ok (.ifCond .gt 13, 3) := by decide +kernel
theorem dX7_holdFirstEvent_24 : decode cX7_holdFirstEvent 24 = .ok (.iload_n 3, 1) := by decide +kernel
theorem dX7_holdFirstEvent_25 : decode cX7_holdFirstEvent 25 = .ok (.aload_n 1, 1) := by decide +kernel
theorem dX7_holdFirstEvent_26 : decode cX7_holdFirstEvent 26 = .ok (.getfield 117, 3) := by decide +kernel
theorem dX7_holdFirstEvent_29 : decode cX7_holdFirstEvent 29 = .ok (.iconst 0, 1) := by decide +kernel
theorem dX7_holdFirstEvent_30 : decode cX7_holdFirstEvent 30 = .ok (.iaload, 1) := by decide +kernel
theorem dX7_holdFirstEvent_31 : decode cX7_holdFirstEvent 31 = .ok (.if_icmp .ne 7, 3) := by decide +kernel
theorem dX7_holdFirstEvent_34 : decode cX7_holdFirstEvent 34 = .ok (.iconst 1, 1) := by decide +kernel
theorem dX7_holdFirstEvent_35 : decode cX7_holdFirstEvent 35 = .ok (.goto 4, 3) := by decide +kernel
theorem dX7_holdFirstEvent_38 : decode cX7_holdFirstEvent 38 = .ok (.iconst 0, 1) := by decide +kernel
theorem dX7_holdFirstEvent_39 : decode cX7_holdFirstEvent 39 = .ok (.istore 4, 2) := by decide +kernel
theorem dX7_holdFirstEvent_41 : decode cX7_holdFirstEvent 41 = .ok (.aload_n 0, 1) := by decide +kernel
theorem dX7_holdFirstEvent_42 : decode cX7_holdFirstEvent 42 = .ok (.getfield 32, 3) := by decide +kernel
theorem dX7_holdFirstEvent_45 : decode cX7_holdFirstEvent 45 = .ok (.iconst 0, 1) := by decide +kernel
theorem dX7_holdFirstEvent_46 : decode cX7_holdFirstEvent 46 = .ok (.aaload, 1) := by decide +kernel
theorem dX7_holdFirstEvent_47 : decode cX7_holdFirstEvent 47 = .ok (.iload_n 2, 1) := by decide +kernel
theorem dX7_holdFirstEvent_48 : decode cX7_holdFirstEvent 48 = .ok (.bipush 24, 2) := by decide +kernel
theorem dX7_holdFirstEvent_50 : decode cX7_holdFirstEvent 50 = .ok (.imul, 1) := by decide +kernel
theorem dX7_holdFirstEvent_51 : decode cX7_holdFirstEvent 51 = .ok (.iload_n 3, 1) := by decide +kernel
theorem dX7_holdFirstEvent_52 : decode cX7_holdFirstEvent 52 = .ok (.iadd, 1) := by decide +kernel
theorem dX7_holdFirstEvent_53 : decode cX7_holdFirstEvent 53 = .ok (.iload 4, 2) := by decide +kernel
theorem dX7_holdFirstEvent_55 : decode cX7_holdFirstEvent 55 = .ok (.ifCond .eq 7, 3) := by decide +kernel
theorem dX7_holdFirstEvent_58 : decode cX7_holdFirstEvent 58 = .ok (.iconst 0, 1) := by decide +kernel
theorem dX7_holdFirstEvent_59 : decode cX7_holdFirstEvent 59 = .ok (.goto 5, 3) := by decide +kernel
theorem dX7_holdFirstEvent_62 : decode cX7_holdFirstEvent 62 = .ok (.ldc 11, 2) := by decide +kernel
theorem dX7_holdFirstEvent_64 : decode cX7_holdFirstEvent 64 = .ok (.iastore, 1) := by decide +kernel
theorem dX7_holdFirstEvent_65 : decode cX7_holdFirstEvent 65 = .ok (.iinc 3 1, 3) := by decide +kernel
theorem dX7_holdFirstEvent_68 : decode cX7_holdFirstEvent 68 = .ok (.goto (-56), 3) := by decide +kernel
theorem dX7_holdFirstEvent_71 : decode cX7_holdFirstEvent 71 = .ok (.iinc 2 1, 3) := by decide +kernel
theorem dX7_holdFirstEvent_74 : decode cX7_holdFirstEvent 74 = .ok (.goto (-72), 3) := by decide +kernel
theorem dX7_holdFirstEvent_77 : decode cX7_holdFirstEvent 77 = .ok (.return_, 1) := by decide +kernel
theorem dX7_placeFrom_0 : decode cX7_placeFrom 0 = .ok (.iload_n 1, 1) := by decide +kernel
theorem dX7_placeFrom_1 : decode cX7_placeFrom 1 = .ok (.aload_n 0, 1) := by decide +kernel
theorem dX7_placeFrom_2 : decode cX7_placeFrom 2 = .ok (.getfield 41, 3) := by decide +kernel
theorem dX7_placeFrom_5 : decode cX7_placeFrom 5 = .ok (.if_icmp .ge 9, 3) := by decide +kernel
theorem dX7_placeFrom_8 : decode cX7_placeFrom 8 = .ok (.iload_n 1, 1) := by decide +kernel
theorem dX7_placeFrom_9 : decode cX7_placeFrom 9 = .ok (.bipush 6, 2) := by decide +kernel
theorem dX7_placeFrom_11 : decode cX7_placeFrom 11 = .ok (.if_icmp .lt 26, 3) := by decide +kernel
theorem dX7_placeFrom_14 : decode cX7_placeFrom 14 = .ok (.aload_n 0, 1) := by decide +kernel
theorem dX7_placeFrom_15 : decode cX7_placeFrom 15 = .ok (.iload_n 2, 1) := by decide +kernel
theorem dX7_placeFrom_16 : decode cX7_placeFrom 16 = .ok (.putfield 12, 3) := by decide +kernel
theorem dX7_placeFrom_19 : decode cX7_placeFrom 19 = .ok (.aload_n 0, 1) := by decide +kernel
theorem dX7_placeFrom_20 : decode cX7_placeFrom 20 = .ok (.getfield 38, 3) := by decide +kernel
theorem dX7_placeFrom_23 : decode cX7_placeFrom 23 = .ok (.iconst 0, 1) := by decide +kernel
theorem dX7_placeFrom_24 : decode cX7_placeFrom 24 = .ok (.aload_n 0, 1) := by decide +kernel
theorem dX7_placeFrom_25 : decode cX7_placeFrom 25 = .ok (.getfield 16, 3) := by decide +kernel
theorem dX7_placeFrom_28 : decode cX7_placeFrom 28 = .ok (.iconst 0, 1) := by decide +kernel
theorem dX7_placeFrom_29 : decode cX7_placeFrom 29 = .ok (.aload_n 0, 1) := by decide +kernel
theorem dX7_placeFrom_30 : decode cX7_placeFrom 30 = .ok (.getfield 41, 3) := by decide +kernel
theorem dX7_placeFrom_33 : decode cX7_placeFrom 33 = .ok (.invokestatic 120, 3) := by decide +kernel
theorem dX7_placeFrom_36 : decode cX7_placeFrom 36 = .ok (.return_, 1) := by decide +kernel
theorem dX7_placeFrom_37 : decode cX7_placeFrom 37 = .ok (.iconst 0, 1) := by decide +kernel
theorem dX7_placeFrom_38 : decode cX7_placeFrom 38 = .ok (.istore_n 3, 1) := by decide +kernel
theorem dX7_placeFrom_39 : decode cX7_placeFrom 39 = .ok (.iload_n 3, 1) := by decide +kernel
theorem dX7_placeFrom_40 : decode cX7_placeFrom 40 = .ok (.aload_n 0, 1) := by decide +kernel
theorem dX7_placeFrom_41 : decode cX7_placeFrom 41 = .ok (.getfield 44, 3) := by decide +kernel
theorem dX7_placeFrom_44 : decode cX7_placeFrom 44 = .ok (.if_icmp .ge 30, 3) := by decide +kernel
theorem dX7_placeFrom_47 : decode cX7_placeFrom 47 = .ok (.aload_n 0, 1) := by decide +kernel
theorem dX7_placeFrom_48 : decode cX7_placeFrom 48 = .ok (.iload_n 1, 1) := by decide +kernel
theorem dX7_placeFrom_49 : decode cX7_placeFrom 49 = .ok (.iload_n 3, 1) := by decide +kernel
theorem dX7_placeFrom_50 : decode cX7_placeFrom 50 = .ok (.iload_n 2, 1) := by decide +kernel
theorem dX7_placeFrom_51 : decode cX7_placeFrom 51 = .ok (.aload_n 0, 1) := by decide +kernel
theorem dX7_placeFrom_52 : decode cX7_placeFrom 52 = .ok (.getfield 32, 3) := by decide +kernel
theorem dX7_placeFrom_55 : decode cX7_placeFrom 55 = .ok (.iload_n 1, 1) := by decide +kernel
theorem dX7_placeFrom_56 : decode cX7_placeFrom 56 = .ok (.aaload, 1) := by decide +kernel
theorem dX7_placeFrom_57 : decode cX7_placeFrom 57 = .ok (.iload_n 1, 1) := by decide +kernel
theorem dX7_placeFrom_58 : decode cX7_placeFrom 58 = .ok (.bipush 24, 2) := by decide +kernel
theorem dX7_placeFrom_60 : decode cX7_placeFrom 60 = .ok (.imul, 1) := by decide +kernel
theorem dX7_placeFrom_61 : decode cX7_placeFrom 61 = .ok (.iload_n 3, 1) := by decide +kernel
theorem dX7_placeFrom_62 : decode cX7_placeFrom 62 = .ok (.iadd, 1) := by decide +kernel
theorem dX7_placeFrom_63 : decode cX7_placeFrom 63 = .ok (.iaload, 1) := by decide +kernel
theorem dX7_placeFrom_64 : decode cX7_placeFrom 64 = .ok (.iadd, 1) := by decide +kernel
theorem dX7_placeFrom_65 : decode cX7_placeFrom 65 = .ok (.invokevirtual 126, 3) := by decide +kernel
theorem dX7_placeFrom_68 : decode cX7_placeFrom 68 = .ok (.iinc 3 1, 3) := by decide +kernel
theorem dX7_placeFrom_71 : decode cX7_placeFrom 71 = .ok (.goto (-32), 3) := by decide +kernel
theorem dX7_placeFrom_74 : decode cX7_placeFrom 74 = .ok (.return_, 1) := by decide +kernel
theorem dX7_placeAt_0 : decode cX7_placeAt 0 = .ok (.aload_n 0, 1) := by decide +kernel
theorem dX7_placeAt_1 : decode cX7_placeAt 1 = .ok (.iload_n 3, 1) := by decide +kernel
theorem dX7_placeAt_2 : decode cX7_placeAt 2 = .ok (.invokevirtual 130, 3) := by decide +kernel
theorem dX7_placeAt_5 : decode cX7_placeAt 5 = .ok (.ifCond .eq 33, 3) := by decide +kernel
theorem dX7_placeAt_8 : decode cX7_placeAt 8 = .ok (.aload_n 0, 1) := by decide +kernel
theorem dX7_placeAt_9 : decode cX7_placeAt 9 = .ok (.iload_n 3, 1) := by decide +kernel
theorem dX7_placeAt_10 : decode cX7_placeAt 10 = .ok (.aload_n 0, 1) := by decide +kernel
theorem dX7_placeAt_11 : decode cX7_placeAt 11 = .ok (.iload_n 1, 1) := by decide +kernel
theorem dX7_placeAt_12 : decode cX7_placeAt 12 = .ok (.iload_n 2, 1) := by decide +kernel
theorem dX7_placeAt_13 : decode cX7_placeAt 13 = .ok (.invokevirtual 134, 3) := by decide +kernel
theorem dX7_placeAt_16 : decode cX7_placeAt 16 = .ok (.iadd, 1) := by decide +kernel
theorem dX7_placeAt_17 : decode cX7_placeAt 17 = .ok (.invokevirtual 130, 3) := by decide +kernel
theorem dX7_placeAt_20 : decode cX7_placeAt 20 = .ok (.ifCond .eq 18, 3) := by decide +kernel
theorem dX7_placeAt_23 : decode cX7_placeAt 23 = .ok (.aload_n 0, 1) := by decide +kernel
theorem dX7_placeAt_24 : decode cX7_placeAt 24 = .ok (.getfield 38, 3) := by decide +kernel
theorem dX7_placeAt_27 : decode cX7_placeAt 27 = .ok (.iload_n 1, 1) := by decide +kernel
theorem dX7_placeAt_28 : decode cX7_placeAt 28 = .ok (.iload_n 2, 1) := by decide +kernel
theorem dX7_placeAt_29 : decode cX7_placeAt 29 = .ok (.iastore, 1) := by decide +kernel
theorem dX7_placeAt_30 : decode cX7_placeAt 30 = .ok (.aload_n 0, 1) := by decide +kernel
theorem dX7_placeAt_31 : decode cX7_placeAt 31 = .ok (.iload_n 1, 1) := by decide +kernel
theorem dX7_placeAt_32 : decode cX7_placeAt 32 = .ok (.iconst 1, 1) := by decide +kernel
theorem dX7_placeAt_33 : decode cX7_placeAt 33 = .ok (.iadd, 1) := by decide +kernel
theorem dX7_placeAt_34 : decode cX7_placeAt 34 = .ok (.iload_n 3, 1) := by decide +kernel
theorem dX7_placeAt_35 : decode cX7_placeAt 35 = .ok (.invokevirtual 77, 3) := by decide +kernel
theorem dX7_placeAt_38 : decode cX7_placeAt 38 = .ok (.return_, 1) := by decide +kernel
theorem dX7_canGetBest_0 : decode cX7_canGetBest 0 = .ok (.iload_n 1, 1) := by decide +kernel
theorem dX7_canGetBest_1 : decode cX7_canGetBest 1 = .ok (.aload_n 0, 1) := by decide +kernel
theorem dX7_canGetBest_2 : decode cX7_canGetBest 2 = .ok (.getfield 12, 3) := by decide +kernel
theorem dX7_canGetBest_5 : decode cX7_canGetBest 5 = .ok (.if_icmp .ge 23, 3) := by decide +kernel
theorem dX7_canGetBest_8 : decode cX7_canGetBest 8 = .ok (.aload_n 0, 1) := by decide +kernel
theorem dX7_canGetBest_9 : decode cX7_canGetBest 9 = .ok (.getfield 12, 3) := by decide +kernel
theorem dX7_canGetBest_12 : decode cX7_canGetBest 12 = .ok (.ldc 11, 2) := by decide +kernel
theorem dX7_canGetBest_14 : decode cX7_canGetBest 14 = .ok (.if_icmp .eq 10, 3) := by decide +kernel
theorem dX7_canGetBest_17 : decode cX7_canGetBest 17 = .ok (.aload_n 0, 1) := by decide +kernel
theorem dX7_canGetBest_18 : decode cX7_canGetBest 18 = .ok (.getfield 47, 3) := by decide +kernel
theorem dX7_canGetBest_21 : decode cX7_canGetBest 21 = .ok (.ifCond .ne 7, 3) := by decide +kernel
theorem dX7_canGetBest_24 : decode cX7_canGetBest 24 = .ok (.iconst 1, 1) := by decide +kernel
theorem dX7_canGetBest_25 : decode cX7_canGetBest 25 = .ok (.goto 4, 3) := by decide +kernel
theorem dX7_canGetBest_28 : decode cX7_canGetBest 28 = .ok (.iconst 0, 1) := by decide +kernel
theorem dX7_canGetBest_29 : decode cX7_canGetBest 29 = .ok (.ireturn, 1) := by decide +kernel
theorem dX7_priceBehind_0 : decode cX7_priceBehind 0 = .ok (.aload_n 0, 1) := by decide +kernel
theorem dX7_priceBehind_1 : decode cX7_priceBehind 1 = .ok (.getfield 35, 3) := by decide +kernel
theorem dX7_priceBehind_4 : decode cX7_priceBehind 4 = .ok (.iload_n 1, 1) := by decide +kernel
theorem dX7_priceBehind_5 : decode cX7_priceBehind 5 = .ok (.iaload, 1) := by decide +kernel
theorem dX7_priceBehind_6 : decode cX7_priceBehind 6 = .ok (.istore_n 3, 1) := by decide +kernel
theorem dX7_priceBehind_7 : decode cX7_priceBehind 7 = .ok (.iload_n 1, 1) := by decide +kernel
theorem dX7_priceBehind_8 : decode cX7_priceBehind 8 = .ok (.iconst 1, 1) := by decide +kernel
theorem dX7_priceBehind_9 : decode cX7_priceBehind 9 = .ok (.iadd, 1) := by decide +kernel
theorem dX7_priceBehind_10 : decode cX7_priceBehind 10 = .ok (.istore 4, 2) := by decide +kernel
theorem dX7_priceBehind_12 : decode cX7_priceBehind 12 = .ok (.iload 4, 2) := by decide +kernel
theorem dX7_priceBehind_14 : decode cX7_priceBehind 14 = .ok (.aload_n 0, 1) := by decide +kernel
theorem dX7_priceBehind_15 : decode cX7_priceBehind 15 = .ok (.getfield 41, 3) := by decide +kernel
theorem dX7_priceBehind_18 : decode cX7_priceBehind 18 = .ok (.if_icmp .ge 123, 3) := by decide +kernel
theorem dX7_priceBehind_21 : decode cX7_priceBehind 21 = .ok (.aload_n 0, 1) := by decide +kernel
theorem dX7_priceBehind_22 : decode cX7_priceBehind 22 = .ok (.getfield 29, 3) := by decide +kernel
theorem dX7_priceBehind_25 : decode cX7_priceBehind 25 = .ok (.iload_n 1, 1) := by decide +kernel
theorem dX7_priceBehind_26 : decode cX7_priceBehind 26 = .ok (.bipush 6, 2) := by decide +kernel
theorem dX7_priceBehind_28 : decode cX7_priceBehind 28 = .ok (.imul, 1) := by decide +kernel
theorem dX7_priceBehind_29 : decode cX7_priceBehind 29 = .ok (.iload 4, 2) := by decide +kernel
theorem dX7_priceBehind_31 : decode cX7_priceBehind 31 = .ok (.iadd, 1) := by decide +kernel
theorem dX7_priceBehind_32 : decode cX7_priceBehind 32 = .ok (.aaload, 1) := by decide +kernel
theorem dX7_priceBehind_33 : decode cX7_priceBehind 33 = .ok (.astore 5, 2) := by decide +kernel
theorem dX7_priceBehind_35 : decode cX7_priceBehind 35 = .ok (.ldc 11, 2) := by decide +kernel
theorem dX7_priceBehind_37 : decode cX7_priceBehind 37 = .ok (.istore 6, 2) := by decide +kernel
theorem dX7_priceBehind_39 : decode cX7_priceBehind 39 = .ok (.iconst 0, 1) := by decide +kernel
theorem dX7_priceBehind_40 : decode cX7_priceBehind 40 = .ok (.istore 7, 2) := by decide +kernel
theorem dX7_priceBehind_42 : decode cX7_priceBehind 42 = .ok (.iload 7, 2) := by decide +kernel
theorem dX7_priceBehind_44 : decode cX7_priceBehind 44 = .ok (.aload_n 0, 1) := by decide +kernel
theorem dX7_priceBehind_45 : decode cX7_priceBehind 45 = .ok (.getfield 44, 3) := by decide +kernel
theorem dX7_priceBehind_48 : decode cX7_priceBehind 48 = .ok (.if_icmp .ge 82, 3) := by decide +kernel
theorem dX7_priceBehind_51 : decode cX7_priceBehind 51 = .ok (.iload 7, 2) := by decide +kernel
theorem dX7_priceBehind_53 : decode cX7_priceBehind 53 = .ok (.iload_n 2, 1) := by decide +kernel
theorem dX7_priceBehind_54 : decode cX7_priceBehind 54 = .ok (.if_icmp .ge 15, 3) := by decide +kernel
theorem dX7_priceBehind_57 : decode cX7_priceBehind 57 = .ok (.iload 7, 2) := by decide +kernel
theorem dX7_priceBehind_59 : decode cX7_priceBehind 59 = .ok (.iload_n 2, 1) := by decide +kernel
theorem dX7_priceBehind_60 : decode cX7_priceBehind 60 = .ok (.isub, 1) := by decide +kernel
theorem dX7_priceBehind_61 : decode cX7_priceBehind 61 = .ok (.aload_n 0, 1) := by decide +kernel
theorem dX7_priceBehind_62 : decode cX7_priceBehind 62 = .ok (.getfield 44, 3) := by decide +kernel
theorem dX7_priceBehind_65 : decode cX7_priceBehind 65 = .ok (.iadd, 1) := by decide +kernel
theorem dX7_priceBehind_66 : decode cX7_priceBehind 66 = .ok (.goto 7, 3) := by decide +kernel
theorem dX7_priceBehind_69 : decode cX7_priceBehind 69 = .ok (.iload 7, 2) := by decide +kernel
theorem dX7_priceBehind_71 : decode cX7_priceBehind 71 = .ok (.iload_n 2, 1) := by decide +kernel
theorem dX7_priceBehind_72 : decode cX7_priceBehind 72 = .ok (.isub, 1) := by decide +kernel
theorem dX7_priceBehind_73 : decode cX7_priceBehind 73 = .ok (.istore 8, 2) := by decide +kernel
theorem dX7_priceBehind_75 : decode cX7_priceBehind 75 = .ok (.iload 4, 2) := by decide +kernel
theorem dX7_priceBehind_77 : decode cX7_priceBehind 77 = .ok (.bipush 24, 2) := by decide +kernel
theorem dX7_priceBehind_79 : decode cX7_priceBehind 79 = .ok (.imul, 1) := by decide +kernel
theorem dX7_priceBehind_80 : decode cX7_priceBehind 80 = .ok (.iload 7, 2) := by decide +kernel
theorem dX7_priceBehind_82 : decode cX7_priceBehind 82 = .ok (.iadd, 1) := by decide +kernel
theorem dX7_priceBehind_83 : decode cX7_priceBehind 83 = .ok (.istore 9, 2) := by decide +kernel
theorem dX7_priceBehind_85 : decode cX7_priceBehind 85 = .ok (.aload_n 0, 1) := by decide +kernel
theorem dX7_priceBehind_86 : decode cX7_priceBehind 86 = .ok (.getfield 32, 3) := by decide +kernel
theorem dX7_priceBehind_89 : decode cX7_priceBehind 89 = .ok (.iload_n 1, 1) := by decide +kernel
theorem dX7_priceBehind_90 : decode cX7_priceBehind 90 = .ok (.aaload, 1) := by decide +kernel
theorem dX7_priceBehind_91 : decode cX7_priceBehind 91 = .ok (.iload 9, 2) := by decide +kernel
theorem dX7_priceBehind_93 : decode cX7_priceBehind 93 = .ok (.iaload, 1) := by decide +kernel
theorem dX7_priceBehind_94 : decode cX7_priceBehind 94 = .ok (.aload 5, 2) := by decide +kernel
theorem dX7_priceBehind_96 : decode cX7_priceBehind 96 = .ok (.iload 8, 2) := by decide +kernel
theorem dX7_priceBehind_98 : decode cX7_priceBehind 98 = .ok (.iaload, 1) := by decide +kernel
theorem dX7_priceBehind_99 : decode cX7_priceBehind 99 = .ok (.iadd, 1) := by decide +kernel
theorem dX7_priceBehind_100 : decode cX7_priceBehind 100 = .ok (.istore 10, 2) := by decide +kernel
theorem dX7_priceBehind_102 : decode cX7_priceBehind 102 = .ok (.aload_n 0, 1) := by decide +kernel
theorem dX7_priceBehind_103 : decode cX7_priceBehind 103 = .ok (.getfield 32, 3) := by decide +kernel
theorem dX7_priceBehind_106 : decode cX7_priceBehind 106 = .ok (.iload_n 1, 1) := by decide +kernel
theorem dX7_priceBehind_107 : decode cX7_priceBehind 107 = .ok (.iconst 1, 1) := by decide +kernel
theorem dX7_priceBehind_108 : decode cX7_priceBehind 108 = .ok (.iadd, 1) := by decide +kernel
theorem dX7_priceBehind_109 : decode cX7_priceBehind 109 = .ok (.aaload, 1) := by decide +kernel
theorem dX7_priceBehind_110 : decode cX7_priceBehind 110 = .ok (.iload 9, 2) := by decide +kernel
theorem dX7_priceBehind_112 : decode cX7_priceBehind 112 = .ok (.iload 10, 2) := by decide +kernel
theorem dX7_priceBehind_114 : decode cX7_priceBehind 114 = .ok (.iastore, 1) := by decide +kernel
theorem dX7_priceBehind_115 : decode cX7_priceBehind 115 = .ok (.iload 6, 2) := by decide +kernel
theorem dX7_priceBehind_117 : decode cX7_priceBehind 117 = .ok (.iload 10, 2) := by decide +kernel
theorem dX7_priceBehind_119 : decode cX7_priceBehind 119 = .ok (.invokestatic 98, 3) := by decide +kernel
theorem dX7_priceBehind_122 : decode cX7_priceBehind 122 = .ok (.istore 6, 2) := by decide +kernel
theorem dX7_priceBehind_124 : decode cX7_priceBehind 124 = .ok (.iinc 7 1, 3) := by decide +kernel
theorem dX7_priceBehind_127 : decode cX7_priceBehind 127 = .ok (.goto (-85), 3) := by decide +kernel
theorem dX7_priceBehind_130 : decode cX7_priceBehind 130 = .ok (.iload_n 3, 1) := by decide +kernel
theorem dX7_priceBehind_131 : decode cX7_priceBehind 131 = .ok (.iload 6, 2) := by decide +kernel
theorem dX7_priceBehind_133 : decode cX7_priceBehind 133 = .ok (.iadd, 1) := by decide +kernel
theorem dX7_priceBehind_134 : decode cX7_priceBehind 134 = .ok (.istore_n 3, 1) := by decide +kernel
theorem dX7_priceBehind_135 : decode cX7_priceBehind 135 = .ok (.iinc 4 1, 3) := by decide +kernel
theorem dX7_priceBehind_138 : decode cX7_priceBehind 138 = .ok (.goto (-126), 3) := by decide +kernel
theorem dX7_priceBehind_141 : decode cX7_priceBehind 141 = .ok (.iload_n 3, 1) := by decide +kernel
theorem dX7_priceBehind_142 : decode cX7_priceBehind 142 = .ok (.ireturn, 1) := by decide +kernel
theorem dJ5_init_d00df_0 : decode cJ5_init_d00df 0 = .ok (.aload_n 0, 1) := by decide +kernel
theorem dJ5_init_d00df_1 : decode cJ5_init_d00df 1 = .ok (.invokespecial 3, 3) := by decide +kernel
theorem dJ5_init_d00df_4 : decode cJ5_init_d00df 4 = .ok (.getstatic 18, 3) := by decide +kernel
theorem dJ5_init_d00df_7 : decode cJ5_init_d00df 7 = .ok (.ifCond .eq 18, 3) := by decide +kernel
theorem dJ5_init_d00df_10 : decode cJ5_init_d00df 10 = .ok (.aload_n 0, 1) := by decide +kernel
theorem dJ5_init_d00df_11 : decode cJ5_init_d00df 11 = .ok (.iload_n 1, 1) := by decide +kernel
theorem dJ5_init_d00df_12 : decode cJ5_init_d00df 12 = .ok (.newarray .byte, 2) := by decide +kernel
theorem dJ5_init_d00df_14 : decode cJ5_init_d00df 14 = .ok (.putfield 15, 3) := by decide +kernel
theorem dJ5_init_d00df_17 : decode cJ5_init_d00df 17 = .ok (.aload_n 0, 1) := by decide +kernel
theorem dJ5_init_d00df_18 : decode cJ5_init_d00df 18 = .ok (.iconst 0, 1) := by decide +kernel
theorem dJ5_init_d00df_19 : decode cJ5_init_d00df 19 = .ok (.putfield 22, 3) := by decide +kernel
theorem dJ5_init_d00df_22 : decode cJ5_init_d00df 22 = .ok (.goto 16, 3) := by decide +kernel
theorem dJ5_init_d00df_25 : decode cJ5_init_d00df 25 = .ok (.aload_n 0, 1) := by decide +kernel
theorem dJ5_init_d00df_26 : decode cJ5_init_d00df 26 = .ok (.iload_n 1, 1) := by decide +kernel
theorem dJ5_init_d00df_27 : decode cJ5_init_d00df 27 = .ok (.invokestatic 26, 3) := by decide +kernel
theorem dJ5_init_d00df_30 : decode cJ5_init_d00df 30 = .ok (.putfield 15, 3) := by decide +kernel
theorem dJ5_init_d00df_33 : decode cJ5_init_d00df 33 = .ok (.aload_n 0, 1) := by decide +kernel
theorem dJ5_init_d00df_34 : decode cJ5_init_d00df 34 = .ok (.iconst 1, 1) := by decide +kernel
theorem dJ5_init_d00df_35 : decode cJ5_init_d00df 35 = .ok (.putfield 22, 3) := by decide +kernel
theorem dJ5_init_d00df_38 : decode cJ5_init_d00df 38 = .ok (.return_, 1) := by decide +kernel
theorem dJ5_length_8abf5_0 : decode cJ5_length_8abf5 0 = .ok (.aload_n 0, 1) := by decide +kernel
theorem dJ5_length_8abf5_1 : decode cJ5_length_8abf5 1 = .ok (.getfield 79, 3) := by decide +kernel
theorem dJ5_length_8abf5_4 : decode cJ5_length_8abf5 4 = .ok (.ireturn, 1) := by decide +kernel
theorem dJ5_ensureCapacityInternal_d00df_0 : decode cJ5_ensureCapacityInternal_d00df 0 = .ok (.aload_n 0, 1) := by decide +kernel
theorem dJ5_ensureCapacityInternal_d00df_1 : decode cJ5_ensureCapacityInternal_d00df 1 = .ok (.getfield 15, 3) := by decide +kernel
theorem dJ5_ensureCapacityInternal_d00df_4 : decode cJ5_ensureCapacityInternal_d00df 4 = .ok (.arraylength, 1) := by decide +kernel
theorem dJ5_ensureCapacityInternal_d00df_5 : decode cJ5_ensureCapacityInternal_d00df 5 = .ok (.aload_n 0, 1) := by decide +kernel
theorem dJ5_ensureCapacityInternal_d00df_6 : decode cJ5_ensureCapacityInternal_d00df 6 = .ok (.getfield 22, 3) := by decide +kernel
theorem dJ5_ensureCapacityInternal_d00df_9 : decode cJ5_ensureCapacityInternal_d00df 9 = .ok (.ishr, 1) := by decide +kernel
theorem dJ5_ensureCapacityInternal_d00df_10 : decode cJ5_ensureCapacityInternal_d00df 10 = .ok (.istore_n 2, 1) := by decide +kernel
theorem dJ5_ensureCapacityInternal_d00df_11 : decode cJ5_ensureCapacityInternal_d00df 11 = .ok (.iload_n 1, 1) := by decide +kernel
theorem dJ5_ensureCapacityInternal_d00df_12 : decode cJ5_ensureCapacityInternal_d00df 12 = .ok (.iload_n 2, 1) := by decide +kernel
theorem dJ5_ensureCapacityInternal_d00df_13 : decode cJ5_ensureCapacityInternal_d00df 13 = .ok (.isub, 1) := by decide +kernel
theorem dJ5_ensureCapacityInternal_d00df_14 : decode cJ5_ensureCapacityInternal_d00df 14 = .ok (.ifCond .le 24, 3) := by decide +kernel
theorem dJ5_ensureCapacityInternal_d00df_17 : decode cJ5_ensureCapacityInternal_d00df 17 = .ok (.aload_n 0, 1) := by decide +kernel
theorem dJ5_ensureCapacityInternal_d00df_18 : decode cJ5_ensureCapacityInternal_d00df 18 = .ok (.aload_n 0, 1) := by decide +kernel
theorem dJ5_ensureCapacityInternal_d00df_19 : decode cJ5_ensureCapacityInternal_d00df 19 = .ok (.getfield 15, 3) := by decide +kernel
theorem dJ5_ensureCapacityInternal_d00df_22 : decode cJ5_ensureCapacityInternal_d00df 22 = .ok (.aload_n 0, 1) := by decide +kernel
theorem dJ5_ensureCapacityInternal_d00df_23 : decode cJ5_ensureCapacityInternal_d00df 23 = .ok (.iload_n 1, 1) := by decide +kernel
theorem dJ5_ensureCapacityInternal_d00df_24 : decode cJ5_ensureCapacityInternal_d00df 24 = .ok (.invokevirtual 104, 3) := by decide +kernel
theorem dJ5_ensureCapacityInternal_d00df_27 : decode cJ5_ensureCapacityInternal_d00df 27 = .ok (.aload_n 0, 1) := by decide +kernel
theorem dJ5_ensureCapacityInternal_d00df_28 : decode cJ5_ensureCapacityInternal_d00df 28 = .ok (.getfield 22, 3) := by decide +kernel
theorem dJ5_ensureCapacityInternal_d00df_31 : decode cJ5_ensureCapacityInternal_d00df 31 = .ok (.ishl, 1) := by decide +kernel
theorem dJ5_ensureCapacityInternal_d00df_32 : decode cJ5_ensureCapacityInternal_d00df 32 = .ok (.invokestatic 108, 3) := by decide +kernel
theorem dJ5_ensureCapacityInternal_d00df_35 : decode cJ5_ensureCapacityInternal_d00df 35 = .ok (.putfield 15, 3) := by decide +kernel
theorem dJ5_ensureCapacityInternal_d00df_38 : decode cJ5_ensureCapacityInternal_d00df 38 = .ok (.return_, 1) := by decide +kernel
theorem dJ5_newCapacity_0f7a4_0 : decode cJ5_newCapacity_0f7a4 0 = .ok (.aload_n 0, 1) := by decide +kernel
theorem dJ5_newCapacity_0f7a4_1 : decode cJ5_newCapacity_0f7a4 1 = .ok (.getfield 15, 3) := by decide +kernel
theorem dJ5_newCapacity_0f7a4_4 : decode cJ5_newCapacity_0f7a4 4 = .ok (.arraylength, 1) := by decide +kernel
theorem dJ5_newCapacity_0f7a4_5 : decode cJ5_newCapacity_0f7a4 5 = .ok (.istore_n 2, 1) := by decide +kernel
theorem dJ5_newCapacity_0f7a4_6 : decode cJ5_newCapacity_0f7a4 6 = .ok (.iload_n 1, 1) := by decide +kernel
theorem dJ5_newCapacity_0f7a4_7 : decode cJ5_newCapacity_0f7a4 7 = .ok (.aload_n 0, 1) := by decide +kernel
theorem dJ5_newCapacity_0f7a4_8 : decode cJ5_newCapacity_0f7a4 8 = .ok (.getfield 22, 3) := by decide +kernel
theorem dJ5_newCapacity_0f7a4_11 : decode cJ5_newCapacity_0f7a4 11 = .ok (.ishl, 1) := by decide +kernel
theorem dJ5_newCapacity_0f7a4_12 : decode cJ5_newCapacity_0f7a4 12 = .ok (.istore_n 3, 1) := by decide +kernel
theorem dJ5_newCapacity_0f7a4_13 : decode cJ5_newCapacity_0f7a4 13 = .ok (.iload_n 3, 1) := by decide +kernel
theorem dJ5_newCapacity_0f7a4_14 : decode cJ5_newCapacity_0f7a4 14 = .ok (.iload_n 2, 1) := by decide +kernel
theorem dJ5_newCapacity_0f7a4_15 : decode cJ5_newCapacity_0f7a4 15 = .ok (.isub, 1) := by decide +kernel
theorem dJ5_newCapacity_0f7a4_16 : decode cJ5_newCapacity_0f7a4 16 = .ok (.istore 4, 2) := by decide +kernel
theorem dJ5_newCapacity_0f7a4_18 : decode cJ5_newCapacity_0f7a4 18 = .ok (.iload_n 2, 1) := by decide +kernel
theorem dJ5_newCapacity_0f7a4_19 : decode cJ5_newCapacity_0f7a4 19 = .ok (.iload 4, 2) := by decide +kernel
theorem dJ5_newCapacity_0f7a4_21 : decode cJ5_newCapacity_0f7a4 21 = .ok (.iload_n 2, 1) := by decide +kernel
theorem dJ5_newCapacity_0f7a4_22 : decode cJ5_newCapacity_0f7a4 22 = .ok (.iconst 2, 1) := by decide +kernel
theorem dJ5_newCapacity_0f7a4_23 : decode cJ5_newCapacity_0f7a4 23 = .ok (.aload_n 0, 1) := by decide +kernel
theorem dJ5_newCapacity_0f7a4_24 : decode cJ5_newCapacity_0f7a4 24 = .ok (.getfield 22, 3) := by decide +kernel
theorem dJ5_newCapacity_0f7a4_27 : decode cJ5_newCapacity_0f7a4 27 = .ok (.ishl, 1) := by decide +kernel
theorem dJ5_newCapacity_0f7a4_28 : decode cJ5_newCapacity_0f7a4 28 = .ok (.iadd, 1) := by decide +kernel
theorem dJ5_newCapacity_0f7a4_29 : decode cJ5_newCapacity_0f7a4 29 = .ok (.invokestatic 114, 3) := by decide +kernel
theorem dJ5_newCapacity_0f7a4_32 : decode cJ5_newCapacity_0f7a4 32 = .ok (.istore 5, 2) := by decide +kernel
theorem dJ5_newCapacity_0f7a4_34 : decode cJ5_newCapacity_0f7a4 34 = .ok (.iload 5, 2) := by decide +kernel
theorem dJ5_newCapacity_0f7a4_36 : decode cJ5_newCapacity_0f7a4 36 = .ok (.ldc 39, 2) := by decide +kernel
theorem dJ5_newCapacity_0f7a4_38 : decode cJ5_newCapacity_0f7a4 38 = .ok (.if_icmp .ne 13, 3) := by decide +kernel
theorem dJ5_newCapacity_0f7a4_41 : decode cJ5_newCapacity_0f7a4 41 = .ok (.new 120, 3) := by decide +kernel
theorem dJ5_newCapacity_0f7a4_44 : decode cJ5_newCapacity_0f7a4 44 = .ok (.dup, 1) := by decide +kernel
theorem dJ5_newCapacity_0f7a4_45 : decode cJ5_newCapacity_0f7a4 45 = .ok (.ldc 122, 2) := by decide +kernel
theorem dJ5_newCapacity_0f7a4_47 : decode cJ5_newCapacity_0f7a4 47 = .ok (.invokespecial 124, 3) := by decide +kernel
theorem dJ5_newCapacity_0f7a4_50 : decode cJ5_newCapacity_0f7a4 50 = .ok (.athrow, 1) := by decide +kernel
theorem dJ5_newCapacity_0f7a4_51 : decode cJ5_newCapacity_0f7a4 51 = .ok (.iload 5, 2) := by decide +kernel
theorem dJ5_newCapacity_0f7a4_53 : decode cJ5_newCapacity_0f7a4 53 = .ok (.aload_n 0, 1) := by decide +kernel
theorem dJ5_newCapacity_0f7a4_54 : decode cJ5_newCapacity_0f7a4 54 = .ok (.getfield 22, 3) := by decide +kernel
theorem dJ5_newCapacity_0f7a4_57 : decode cJ5_newCapacity_0f7a4 57 = .ok (.ishr, 1) := by decide +kernel
theorem dJ5_newCapacity_0f7a4_58 : decode cJ5_newCapacity_0f7a4 58 = .ok (.ireturn, 1) := by decide +kernel
theorem dJ5_inflate_da8c8_0 : decode cJ5_inflate_da8c8 0 = .ok (.aload_n 0, 1) := by decide +kernel
theorem dJ5_inflate_da8c8_1 : decode cJ5_inflate_da8c8 1 = .ok (.invokevirtual 83, 3) := by decide +kernel
theorem dJ5_inflate_da8c8_4 : decode cJ5_inflate_da8c8 4 = .ok (.ifCond .ne 4, 3) := by decide +kernel
theorem dJ5_inflate_da8c8_7 : decode cJ5_inflate_da8c8 7 = .ok (.return_, 1) := by decide +kernel
theorem dJ5_inflate_da8c8_8 : decode cJ5_inflate_da8c8 8 = .ok (.aload_n 0, 1) := by decide +kernel
theorem dJ5_inflate_da8c8_9 : decode cJ5_inflate_da8c8 9 = .ok (.getfield 15, 3) := by decide +kernel
theorem dJ5_inflate_da8c8_12 : decode cJ5_inflate_da8c8 12 = .ok (.arraylength, 1) := by decide +kernel
theorem dJ5_inflate_da8c8_13 : decode cJ5_inflate_da8c8 13 = .ok (.invokestatic 26, 3) := by decide +kernel
theorem dJ5_inflate_da8c8_16 : decode cJ5_inflate_da8c8 16 = .ok (.astore_n 1, 1) := by decide +kernel
theorem dJ5_inflate_da8c8_17 : decode cJ5_inflate_da8c8 17 = .ok (.aload_n 0, 1) := by decide +kernel
theorem dJ5_inflate_da8c8_18 : decode cJ5_inflate_da8c8 18 = .ok (.getfield 15, 3) := by decide +kernel
theorem dJ5_inflate_da8c8_21 : decode cJ5_inflate_da8c8 21 = .ok (.iconst 0, 1) := by decide +kernel
theorem dJ5_inflate_da8c8_22 : decode cJ5_inflate_da8c8 22 = .ok (.aload_n 1, 1) := by decide +kernel
theorem dJ5_inflate_da8c8_23 : decode cJ5_inflate_da8c8 23 = .ok (.iconst 0, 1) := by decide +kernel
theorem dJ5_inflate_da8c8_24 : decode cJ5_inflate_da8c8 24 = .ok (.aload_n 0, 1) := by decide +kernel
theorem dJ5_inflate_da8c8_25 : decode cJ5_inflate_da8c8 25 = .ok (.getfield 79, 3) := by decide +kernel
theorem dJ5_inflate_da8c8_28 : decode cJ5_inflate_da8c8 28 = .ok (.invokestatic 125, 3) := by decide +kernel
theorem dJ5_inflate_da8c8_31 : decode cJ5_inflate_da8c8 31 = .ok (.aload_n 0, 1) := by decide +kernel
theorem dJ5_inflate_da8c8_32 : decode cJ5_inflate_da8c8 32 = .ok (.aload_n 1, 1) := by decide +kernel
theorem dJ5_inflate_da8c8_33 : decode cJ5_inflate_da8c8 33 = .ok (.putfield 15, 3) := by decide +kernel
theorem dJ5_inflate_da8c8_36 : decode cJ5_inflate_da8c8 36 = .ok (.aload_n 0, 1) := by decide +kernel
theorem dJ5_inflate_da8c8_37 : decode cJ5_inflate_da8c8 37 = .ok (.iconst 1, 1) := by decide +kernel
theorem dJ5_inflate_da8c8_38 : decode cJ5_inflate_da8c8 38 = .ok (.putfield 22, 3) := by decide +kernel
theorem dJ5_inflate_da8c8_41 : decode cJ5_inflate_da8c8 41 = .ok (.return_, 1) := by decide +kernel
theorem dJ5_append_cf1ce_0 : decode cJ5_append_cf1ce 0 = .ok (.aload_n 1, 1) := by decide +kernel
theorem dJ5_append_cf1ce_1 : decode cJ5_append_cf1ce 1 = .ok (.ifnonnull 8, 3) := by decide +kernel
theorem dJ5_append_cf1ce_4 : decode cJ5_append_cf1ce 4 = .ok (.aload_n 0, 1) := by decide +kernel
theorem dJ5_append_cf1ce_5 : decode cJ5_append_cf1ce 5 = .ok (.invokevirtual 204, 3) := by decide +kernel
theorem dJ5_append_cf1ce_8 : decode cJ5_append_cf1ce 8 = .ok (.areturn, 1) := by decide +kernel
theorem dJ5_append_cf1ce_9 : decode cJ5_append_cf1ce 9 = .ok (.aload_n 1, 1) := by decide +kernel
theorem dJ5_append_cf1ce_10 : decode cJ5_append_cf1ce 10 = .ok (.invokevirtual 32, 3) := by decide +kernel
theorem dJ5_append_cf1ce_13 : decode cJ5_append_cf1ce 13 = .ok (.istore_n 2, 1) := by decide +kernel
theorem dJ5_append_cf1ce_14 : decode cJ5_append_cf1ce 14 = .ok (.aload_n 0, 1) := by decide +kernel
theorem dJ5_append_cf1ce_15 : decode cJ5_append_cf1ce 15 = .ok (.aload_n 0, 1) := by decide +kernel
theorem dJ5_append_cf1ce_16 : decode cJ5_append_cf1ce 16 = .ok (.getfield 79, 3) := by decide +kernel
theorem dJ5_append_cf1ce_19 : decode cJ5_append_cf1ce 19 = .ok (.iload_n 2, 1) := by decide +kernel
theorem dJ5_append_cf1ce_20 : decode cJ5_append_cf1ce 20 = .ok (.iadd, 1) := by decide +kernel
theorem dJ5_append_cf1ce_21 : decode cJ5_append_cf1ce 21 = .ok (.invokevirtual 100, 3) := by decide +kernel
theorem dJ5_append_cf1ce_24 : decode cJ5_append_cf1ce 24 = .ok (.aload_n 0, 1) := by decide +kernel
theorem dJ5_append_cf1ce_25 : decode cJ5_append_cf1ce 25 = .ok (.aload_n 0, 1) := by decide +kernel
theorem dJ5_append_cf1ce_26 : decode cJ5_append_cf1ce 26 = .ok (.getfield 79, 3) := by decide +kernel
theorem dJ5_append_cf1ce_29 : decode cJ5_append_cf1ce 29 = .ok (.aload_n 1, 1) := by decide +kernel
theorem dJ5_append_cf1ce_30 : decode cJ5_append_cf1ce 30 = .ok (.invokevirtual 208, 3) := by decide +kernel
theorem dJ5_append_cf1ce_33 : decode cJ5_append_cf1ce 33 = .ok (.aload_n 0, 1) := by decide +kernel
theorem dJ5_append_cf1ce_34 : decode cJ5_append_cf1ce 34 = .ok (.dup, 1) := by decide +kernel
theorem dJ5_append_cf1ce_35 : decode cJ5_append_cf1ce 35 = .ok (.getfield 79, 3) := by decide +kernel
theorem dJ5_append_cf1ce_38 : decode cJ5_append_cf1ce 38 = .ok (.iload_n 2, 1) := by decide +kernel
theorem dJ5_append_cf1ce_39 : decode cJ5_append_cf1ce 39 = .ok (.iadd, 1) := by decide +kernel
theorem dJ5_append_cf1ce_40 : decode cJ5_append_cf1ce 40 = .ok (.putfield 79, 3) := by decide +kernel
theorem dJ5_append_cf1ce_43 : decode cJ5_append_cf1ce 43 = .ok (.aload_n 0, 1) := by decide +kernel
theorem dJ5_append_cf1ce_44 : decode cJ5_append_cf1ce 44 = .ok (.areturn, 1) := by decide +kernel
theorem dJ5_appendNull_278bc_0 : decode cJ5_appendNull_278bc 0 = .ok (.aload_n 0, 1) := by decide +kernel
theorem dJ5_appendNull_278bc_1 : decode cJ5_appendNull_278bc 1 = .ok (.aload_n 0, 1) := by decide +kernel
theorem dJ5_appendNull_278bc_2 : decode cJ5_appendNull_278bc 2 = .ok (.getfield 79, 3) := by decide +kernel
theorem dJ5_appendNull_278bc_5 : decode cJ5_appendNull_278bc 5 = .ok (.iconst 4, 1) := by decide +kernel
theorem dJ5_appendNull_278bc_6 : decode cJ5_appendNull_278bc 6 = .ok (.iadd, 1) := by decide +kernel
theorem dJ5_appendNull_278bc_7 : decode cJ5_appendNull_278bc 7 = .ok (.invokevirtual 100, 3) := by decide +kernel
theorem dJ5_appendNull_278bc_10 : decode cJ5_appendNull_278bc 10 = .ok (.aload_n 0, 1) := by decide +kernel
theorem dJ5_appendNull_278bc_11 : decode cJ5_appendNull_278bc 11 = .ok (.getfield 79, 3) := by decide +kernel
theorem dJ5_appendNull_278bc_14 : decode cJ5_appendNull_278bc 14 = .ok (.istore_n 1, 1) := by decide +kernel
theorem dJ5_appendNull_278bc_15 : decode cJ5_appendNull_278bc 15 = .ok (.aload_n 0, 1) := by decide +kernel
theorem dJ5_appendNull_278bc_16 : decode cJ5_appendNull_278bc 16 = .ok (.getfield 15, 3) := by decide +kernel
theorem dJ5_appendNull_278bc_19 : decode cJ5_appendNull_278bc 19 = .ok (.astore_n 2, 1) := by decide +kernel
theorem dJ5_appendNull_278bc_20 : decode cJ5_appendNull_278bc 20 = .ok (.aload_n 0, 1) := by decide +kernel
theorem dJ5_appendNull_278bc_21 : decode cJ5_appendNull_278bc 21 = .ok (.invokevirtual 83, 3) := by decide +kernel
theorem dJ5_appendNull_278bc_24 : decode cJ5_appendNull_278bc 24 = .ok (.ifCond .eq 38, 3) := by decide +kernel
theorem dJ5_appendNull_278bc_27 : decode cJ5_appendNull_278bc 27 = .ok (.aload_n 2, 1) := by decide +kernel
theorem dJ5_appendNull_278bc_28 : decode cJ5_appendNull_278bc 28 = .ok (.iload_n 1, 1) := by decide +kernel
theorem dJ5_appendNull_278bc_29 : decode cJ5_appendNull_278bc 29 = .ok (.iinc 1 1, 3) := by decide +kernel
theorem dJ5_appendNull_278bc_32 : decode cJ5_appendNull_278bc 32 = .ok (.bipush 110, 2) := by decide +kernel
theorem dJ5_appendNull_278bc_34 : decode cJ5_appendNull_278bc 34 = .ok (.bastore, 1) := by decide +kernel
theorem dJ5_appendNull_278bc_35 : decode cJ5_appendNull_278bc 35 = .ok (.aload_n 2, 1) := by decide +kernel
theorem dJ5_appendNull_278bc_36 : decode cJ5_appendNull_278bc 36 = .ok (.iload_n 1, 1) := by decide +kernel
theorem dJ5_appendNull_278bc_37 : decode cJ5_appendNull_278bc 37 = .ok (.iinc 1 1, 3) := by decide +kernel
theorem dJ5_appendNull_278bc_40 : decode cJ5_appendNull_278bc 40 = .ok (.bipush 117, 2) := by decide +kernel
theorem dJ5_appendNull_278bc_42 : decode cJ5_appendNull_278bc 42 = .ok (.bastore, 1) := by decide +kernel
theorem dJ5_appendNull_278bc_43 : decode cJ5_appendNull_278bc 43 = .ok (.aload_n 2, 1) := by decide +kernel
theorem dJ5_appendNull_278bc_44 : decode cJ5_appendNull_278bc 44 = .ok (.iload_n 1, 1) := by decide +kernel
theorem dJ5_appendNull_278bc_45 : decode cJ5_appendNull_278bc 45 = .ok (.iinc 1 1, 3) := by decide +kernel
theorem dJ5_appendNull_278bc_48 : decode cJ5_appendNull_278bc 48 = .ok (.bipush 108, 2) := by decide +kernel
theorem dJ5_appendNull_278bc_50 : decode cJ5_appendNull_278bc 50 = .ok (.bastore, 1) := by decide +kernel
theorem dJ5_appendNull_278bc_51 : decode cJ5_appendNull_278bc 51 = .ok (.aload_n 2, 1) := by decide +kernel
theorem dJ5_appendNull_278bc_52 : decode cJ5_appendNull_278bc 52 = .ok (.iload_n 1, 1) := by decide +kernel
theorem dJ5_appendNull_278bc_53 : decode cJ5_appendNull_278bc 53 = .ok (.iinc 1 1, 3) := by decide +kernel
theorem dJ5_appendNull_278bc_56 : decode cJ5_appendNull_278bc 56 = .ok (.bipush 108, 2) := by decide +kernel
theorem dJ5_appendNull_278bc_58 : decode cJ5_appendNull_278bc 58 = .ok (.bastore, 1) := by decide +kernel
theorem dJ5_appendNull_278bc_59 : decode cJ5_appendNull_278bc 59 = .ok (.goto 17, 3) := by decide +kernel
theorem dJ5_appendNull_278bc_62 : decode cJ5_appendNull_278bc 62 = .ok (.aload_n 2, 1) := by decide +kernel
theorem dJ5_appendNull_278bc_63 : decode cJ5_appendNull_278bc 63 = .ok (.iload_n 1, 1) := by decide +kernel
theorem dJ5_appendNull_278bc_64 : decode cJ5_appendNull_278bc 64 = .ok (.bipush 110, 2) := by decide +kernel
theorem dJ5_appendNull_278bc_66 : decode cJ5_appendNull_278bc 66 = .ok (.bipush 117, 2) := by decide +kernel
theorem dJ5_appendNull_278bc_68 : decode cJ5_appendNull_278bc 68 = .ok (.bipush 108, 2) := by decide +kernel
theorem dJ5_appendNull_278bc_70 : decode cJ5_appendNull_278bc 70 = .ok (.bipush 108, 2) := by decide +kernel
theorem dJ5_appendNull_278bc_72 : decode cJ5_appendNull_278bc 72 = .ok (.invokestatic 226, 3) := by decide +kernel
theorem dJ5_appendNull_278bc_75 : decode cJ5_appendNull_278bc 75 = .ok (.istore_n 1, 1) := by decide +kernel
theorem dJ5_appendNull_278bc_76 : decode cJ5_appendNull_278bc 76 = .ok (.aload_n 0, 1) := by decide +kernel
theorem dJ5_appendNull_278bc_77 : decode cJ5_appendNull_278bc 77 = .ok (.iload_n 1, 1) := by decide +kernel
theorem dJ5_appendNull_278bc_78 : decode cJ5_appendNull_278bc 78 = .ok (.putfield 79, 3) := by decide +kernel
theorem dJ5_appendNull_278bc_81 : decode cJ5_appendNull_278bc 81 = .ok (.aload_n 0, 1) := by decide +kernel
theorem dJ5_appendNull_278bc_82 : decode cJ5_appendNull_278bc 82 = .ok (.areturn, 1) := by decide +kernel
theorem dJ5_append_c97b9_0 : decode cJ5_append_c97b9 0 = .ok (.aload_n 0, 1) := by decide +kernel
theorem dJ5_append_c97b9_1 : decode cJ5_append_c97b9 1 = .ok (.getfield 79, 3) := by decide +kernel
theorem dJ5_append_c97b9_4 : decode cJ5_append_c97b9 4 = .ok (.istore_n 2, 1) := by decide +kernel
theorem dJ5_append_c97b9_5 : decode cJ5_append_c97b9 5 = .ok (.iload_n 2, 1) := by decide +kernel
theorem dJ5_append_c97b9_6 : decode cJ5_append_c97b9 6 = .ok (.iload_n 1, 1) := by decide +kernel
theorem dJ5_append_c97b9_7 : decode cJ5_append_c97b9 7 = .ok (.invokestatic 245, 3) := by decide +kernel
theorem dJ5_append_c97b9_10 : decode cJ5_append_c97b9 10 = .ok (.iadd, 1) := by decide +kernel
theorem dJ5_append_c97b9_11 : decode cJ5_append_c97b9 11 = .ok (.istore_n 3, 1) := by decide +kernel
theorem dJ5_append_c97b9_12 : decode cJ5_append_c97b9 12 = .ok (.aload_n 0, 1) := by decide +kernel
theorem dJ5_append_c97b9_13 : decode cJ5_append_c97b9 13 = .ok (.iload_n 3, 1) := by decide +kernel
theorem dJ5_append_c97b9_14 : decode cJ5_append_c97b9 14 = .ok (.invokevirtual 100, 3) := by decide +kernel
theorem dJ5_append_c97b9_17 : decode cJ5_append_c97b9 17 = .ok (.aload_n 0, 1) := by decide +kernel
theorem dJ5_append_c97b9_18 : decode cJ5_append_c97b9 18 = .ok (.invokevirtual 83, 3) := by decide +kernel
theorem dJ5_append_c97b9_21 : decode cJ5_append_c97b9 21 = .ok (.ifCond .eq 16, 3) := by decide +kernel
theorem dJ5_append_c97b9_24 : decode cJ5_append_c97b9 24 = .ok (.iload_n 1, 1) := by decide +kernel
theorem dJ5_append_c97b9_25 : decode cJ5_append_c97b9 25 = .ok (.iload_n 3, 1) := by decide +kernel
theorem dJ5_append_c97b9_26 : decode cJ5_append_c97b9 26 = .ok (.aload_n 0, 1) := by decide +kernel
theorem dJ5_append_c97b9_27 : decode cJ5_append_c97b9 27 = .ok (.getfield 15, 3) := by decide +kernel
theorem dJ5_append_c97b9_30 : decode cJ5_append_c97b9 30 = .ok (.invokestatic 248, 3) := by decide +kernel
theorem dJ5_append_c97b9_33 : decode cJ5_append_c97b9 33 = .ok (.pop, 1) := by decide +kernel
theorem dJ5_append_c97b9_34 : decode cJ5_append_c97b9 34 = .ok (.goto 14, 3) := by decide +kernel
theorem dJ5_append_c97b9_37 : decode cJ5_append_c97b9 37 = .ok (.iload_n 1, 1) := by decide +kernel
theorem dJ5_append_c97b9_38 : decode cJ5_append_c97b9 38 = .ok (.iload_n 2, 1) := by decide +kernel
theorem dJ5_append_c97b9_39 : decode cJ5_append_c97b9 39 = .ok (.iload_n 3, 1) := by decide +kernel
theorem dJ5_append_c97b9_40 : decode cJ5_append_c97b9 40 = .ok (.aload_n 0, 1) := by decide +kernel
theorem dJ5_append_c97b9_41 : decode cJ5_append_c97b9 41 = .ok (.getfield 15, 3) := by decide +kernel
theorem dJ5_append_c97b9_44 : decode cJ5_append_c97b9 44 = .ok (.invokestatic 251, 3) := by decide +kernel
theorem dJ5_append_c97b9_47 : decode cJ5_append_c97b9 47 = .ok (.pop, 1) := by decide +kernel
theorem dJ5_append_c97b9_48 : decode cJ5_append_c97b9 48 = .ok (.aload_n 0, 1) := by decide +kernel
theorem dJ5_append_c97b9_49 : decode cJ5_append_c97b9 49 = .ok (.iload_n 3, 1) := by decide +kernel
theorem dJ5_append_c97b9_50 : decode cJ5_append_c97b9 50 = .ok (.putfield 79, 3) := by decide +kernel
theorem dJ5_append_c97b9_53 : decode cJ5_append_c97b9 53 = .ok (.aload_n 0, 1) := by decide +kernel
theorem dJ5_append_c97b9_54 : decode cJ5_append_c97b9 54 = .ok (.areturn, 1) := by decide +kernel
theorem dJ5_getValue_6d5f1_0 : decode cJ5_getValue_6d5f1 0 = .ok (.aload_n 0, 1) := by decide +kernel
theorem dJ5_getValue_6d5f1_1 : decode cJ5_getValue_6d5f1 1 = .ok (.getfield 15, 3) := by decide +kernel
theorem dJ5_getValue_6d5f1_4 : decode cJ5_getValue_6d5f1 4 = .ok (.areturn, 1) := by decide +kernel
theorem dJ5_isLatin1_aae02_0 : decode cJ5_isLatin1_aae02 0 = .ok (.getstatic 18, 3) := by decide +kernel
theorem dJ5_isLatin1_aae02_3 : decode cJ5_isLatin1_aae02 3 = .ok (.ifCond .eq 14, 3) := by decide +kernel
theorem dJ5_isLatin1_aae02_6 : decode cJ5_isLatin1_aae02 6 = .ok (.aload_n 0, 1) := by decide +kernel
theorem dJ5_isLatin1_aae02_7 : decode cJ5_isLatin1_aae02 7 = .ok (.getfield 22, 3) := by decide +kernel
theorem dJ5_isLatin1_aae02_10 : decode cJ5_isLatin1_aae02 10 = .ok (.ifCond .ne 7, 3) := by decide +kernel
theorem dJ5_isLatin1_aae02_13 : decode cJ5_isLatin1_aae02 13 = .ok (.iconst 1, 1) := by decide +kernel
theorem dJ5_isLatin1_aae02_14 : decode cJ5_isLatin1_aae02 14 = .ok (.goto 4, 3) := by decide +kernel
theorem dJ5_isLatin1_aae02_17 : decode cJ5_isLatin1_aae02 17 = .ok (.iconst 0, 1) := by decide +kernel
theorem dJ5_isLatin1_aae02_18 : decode cJ5_isLatin1_aae02 18 = .ok (.ireturn, 1) := by decide +kernel
theorem dJ5_inflateIfNeededFor_a7421_0 : decode cJ5_inflateIfNeededFor_a7421 0 = .ok (.getstatic 18, 3) := by decide +kernel
theorem dJ5_inflateIfNeededFor_a7421_3 : decode cJ5_inflateIfNeededFor_a7421 3 = .ok (.ifCond .eq 18, 3) := by decide +kernel
theorem dJ5_inflateIfNeededFor_a7421_6 : decode cJ5_inflateIfNeededFor_a7421 6 = .ok (.aload_n 0, 1) := by decide +kernel
theorem dJ5_inflateIfNeededFor_a7421_7 : decode cJ5_inflateIfNeededFor_a7421 7 = .ok (.getfield 22, 3) := by decide +kernel
theorem dJ5_inflateIfNeededFor_a7421_10 : decode cJ5_inflateIfNeededFor_a7421 10 = .ok (.aload_n 1, 1) := by decide +kernel
theorem dJ5_inflateIfNeededFor_a7421_11 : decode cJ5_inflateIfNeededFor_a7421 11 = .ok (.invokevirtual 40, 3) := by decide +kernel
theorem dJ5_inflateIfNeededFor_a7421_14 : decode cJ5_inflateIfNeededFor_a7421 14 = .ok (.if_icmp .eq 7, 3) := by decide +kernel
theorem dJ5_inflateIfNeededFor_a7421_17 : decode cJ5_inflateIfNeededFor_a7421 17 = .ok (.aload_n 0, 1) := by decide +kernel
theorem dJ5_inflateIfNeededFor_a7421_18 : decode cJ5_inflateIfNeededFor_a7421 18 = .ok (.invokevirtual 195, 3) := by decide +kernel
theorem dJ5_inflateIfNeededFor_a7421_21 : decode cJ5_inflateIfNeededFor_a7421 21 = .ok (.return_, 1) := by decide +kernel
theorem dJ5_putStringAt_47b60_0 : decode cJ5_putStringAt_47b60 0 = .ok (.aload_n 0, 1) := by decide +kernel
theorem dJ5_putStringAt_47b60_1 : decode cJ5_putStringAt_47b60 1 = .ok (.aload_n 2, 1) := by decide +kernel
theorem dJ5_putStringAt_47b60_2 : decode cJ5_putStringAt_47b60 2 = .ok (.invokevirtual 397, 3) := by decide +kernel
theorem dJ5_putStringAt_47b60_5 : decode cJ5_putStringAt_47b60 5 = .ok (.aload_n 2, 1) := by decide +kernel
theorem dJ5_putStringAt_47b60_6 : decode cJ5_putStringAt_47b60 6 = .ok (.aload_n 0, 1) := by decide +kernel
theorem dJ5_putStringAt_47b60_7 : decode cJ5_putStringAt_47b60 7 = .ok (.getfield 15, 3) := by decide +kernel
theorem dJ5_putStringAt_47b60_10 : decode cJ5_putStringAt_47b60 10 = .ok (.iload_n 1, 1) := by decide +kernel
theorem dJ5_putStringAt_47b60_11 : decode cJ5_putStringAt_47b60 11 = .ok (.aload_n 0, 1) := by decide +kernel
theorem dJ5_putStringAt_47b60_12 : decode cJ5_putStringAt_47b60 12 = .ok (.getfield 22, 3) := by decide +kernel
theorem dJ5_putStringAt_47b60_15 : decode cJ5_putStringAt_47b60 15 = .ok (.invokevirtual 399, 3) := by decide +kernel
theorem dJ5_putStringAt_47b60_18 : decode cJ5_putStringAt_47b60 18 = .ok (.return_, 1) := by decide +kernel
theorem dJ6_getChars_ba4f3_0 : decode cJ6_getChars_ba4f3 0 = .ok (.iload_n 1, 1) := by decide +kernel
theorem dJ6_getChars_ba4f3_1 : decode cJ6_getChars_ba4f3 1 = .ok (.istore 5, 2) := by decide +kernel
theorem dJ6_getChars_ba4f3_3 : decode cJ6_getChars_ba4f3 3 = .ok (.iload_n 0, 1) := by decide +kernel
theorem dJ6_getChars_ba4f3_4 : decode cJ6_getChars_ba4f3 4 = .ok (.ifCond .ge 7, 3) := by decide +kernel
theorem dJ6_getChars_ba4f3_7 : decode cJ6_getChars_ba4f3 7 = .ok (.iconst 1, 1) := by decide +kernel
theorem dJ6_getChars_ba4f3_8 : decode cJ6_getChars_ba4f3 8 = .ok (.goto 4, 3) := by decide +kernel
theorem dJ6_getChars_ba4f3_11 : decode cJ6_getChars_ba4f3 11 = .ok (.iconst 0, 1) := by decide +kernel
theorem dJ6_getChars_ba4f3_12 : decode cJ6_getChars_ba4f3 12 = .ok (.istore 6, 2) := by decide +kernel
theorem dJ6_getChars_ba4f3_14 : decode cJ6_getChars_ba4f3 14 = .ok (.iload 6, 2) := by decide +kernel
theorem dJ6_getChars_ba4f3_16 : decode cJ6_getChars_ba4f3 16 = .ok (.ifCond .ne 6, 3) := by decide +kernel
theorem dJ6_getChars_ba4f3_19 : decode cJ6_getChars_ba4f3 19 = .ok (.iload_n 0, 1) := by decide +kernel
theorem dJ6_getChars_ba4f3_20 : decode cJ6_getChars_ba4f3 20 = .ok (.ineg, 1) := by decide +kernel
theorem dJ6_getChars_ba4f3_21 : decode cJ6_getChars_ba4f3 21 = .ok (.istore_n 0, 1) := by decide +kernel
theorem dJ6_getChars_ba4f3_22 : decode cJ6_getChars_ba4f3 22 = .ok (.iload_n 0, 1) := by decide +kernel
theorem dJ6_getChars_ba4f3_23 : decode cJ6_getChars_ba4f3 23 = .ok (.bipush (-100), 2) := by decide +kernel
theorem dJ6_getChars_ba4f3_25 : decode cJ6_getChars_ba4f3 25 = .ok (.if_icmp .gt 47, 3) := by decide +kernel
theorem dJ6_getChars_ba4f3_28 : decode cJ6_getChars_ba4f3 28 = .ok (.iload_n 0, 1) := by decide +kernel
theorem dJ6_getChars_ba4f3_29 : decode cJ6_getChars_ba4f3 29 = .ok (.bipush 100, 2) := by decide +kernel
theorem dJ6_getChars_ba4f3_31 : decode cJ6_getChars_ba4f3 31 = .ok (.idiv, 1) := by decide +kernel
theorem dJ6_getChars_ba4f3_32 : decode cJ6_getChars_ba4f3 32 = .ok (.istore_n 3, 1) := by decide +kernel
theorem dJ6_getChars_ba4f3_33 : decode cJ6_getChars_ba4f3 33 = .ok (.iload_n 3, 1) := by decide +kernel
theorem dJ6_getChars_ba4f3_34 : decode cJ6_getChars_ba4f3 34 = .ok (.bipush 100, 2) := by decide +kernel
theorem dJ6_getChars_ba4f3_36 : decode cJ6_getChars_ba4f3 36 = .ok (.imul, 1) := by decide +kernel
theorem dJ6_getChars_ba4f3_37 : decode cJ6_getChars_ba4f3 37 = .ok (.iload_n 0, 1) := by decide +kernel
theorem dJ6_getChars_ba4f3_38 : decode cJ6_getChars_ba4f3 38 = .ok (.isub, 1) := by decide +kernel
theorem dJ6_getChars_ba4f3_39 : decode cJ6_getChars_ba4f3 39 = .ok (.istore 4, 2) := by decide +kernel
theorem dJ6_getChars_ba4f3_41 : decode cJ6_getChars_ba4f3 41 = .ok (.iload_n 3, 1) := by decide +kernel
theorem dJ6_getChars_ba4f3_42 : decode cJ6_getChars_ba4f3 42 = .ok (.istore_n 0, 1) := by decide +kernel
theorem dJ6_getChars_ba4f3_43 : decode cJ6_getChars_ba4f3 43 = .ok (.aload_n 2, 1) := by decide +kernel
theorem dJ6_getChars_ba4f3_44 : decode cJ6_getChars_ba4f3 44 = .ok (.iinc 5 (-1), 3) := by decide +kernel
theorem dJ6_getChars_ba4f3_47 : decode cJ6_getChars_ba4f3 47 = .ok (.iload 5, 2) := by decide +kernel
theorem dJ6_getChars_ba4f3_49 : decode cJ6_getChars_ba4f3 49 = .ok (.getstatic 83, 3) := by decide +kernel
theorem dJ6_getChars_ba4f3_52 : decode cJ6_getChars_ba4f3 52 = .ok (.iload 4, 2) := by decide +kernel
theorem dJ6_getChars_ba4f3_54 : decode cJ6_getChars_ba4f3 54 = .ok (.baload, 1) := by decide +kernel
theorem dJ6_getChars_ba4f3_55 : decode cJ6_getChars_ba4f3 55 = .ok (.bastore, 1) := by decide +kernel
theorem dJ6_getChars_ba4f3_56 : decode cJ6_getChars_ba4f3 56 = .ok (.aload_n 2, 1) := by decide +kernel
theorem dJ6_getChars_ba4f3_57 : decode cJ6_getChars_ba4f3 57 = .ok (.iinc 5 (-1), 3) := by decide +kernel
theorem dJ6_getChars_ba4f3_60 : decode cJ6_getChars_ba4f3 60 = .ok (.iload 5, 2) := by decide +kernel
theorem dJ6_getChars_ba4f3_62 : decode cJ6_getChars_ba4f3 62 = .ok (.getstatic 87, 3) := by decide +kernel
theorem dJ6_getChars_ba4f3_65 : decode cJ6_getChars_ba4f3 65 = .ok (.iload 4, 2) := by decide +kernel
theorem dJ6_getChars_ba4f3_67 : decode cJ6_getChars_ba4f3 67 = .ok (.baload, 1) := by decide +kernel
theorem dJ6_getChars_ba4f3_68 : decode cJ6_getChars_ba4f3 68 = .ok (.bastore, 1) := by decide +kernel
theorem dJ6_getChars_ba4f3_69 : decode cJ6_getChars_ba4f3 69 = .ok (.goto (-47), 3) := by decide +kernel
theorem dJ6_getChars_ba4f3_72 : decode cJ6_getChars_ba4f3 72 = .ok (.aload_n 2, 1) := by decide +kernel
theorem dJ6_getChars_ba4f3_73 : decode cJ6_getChars_ba4f3 73 = .ok (.iinc 5 (-1), 3) := by decide +kernel
theorem dJ6_getChars_ba4f3_76 : decode cJ6_getChars_ba4f3 76 = .ok (.iload 5, 2) := by decide +kernel
theorem dJ6_getChars_ba4f3_78 : decode cJ6_getChars_ba4f3 78 = .ok (.getstatic 83, 3) := by decide +kernel
theorem dJ6_getChars_ba4f3_81 : decode cJ6_getChars_ba4f3 81 = .ok (.iload_n 0, 1) := by decide +kernel
theorem dJ6_getChars_ba4f3_82 : decode cJ6_getChars_ba4f3 82 = .ok (.ineg, 1) := by decide +kernel
theorem dJ6_getChars_ba4f3_83 : decode cJ6_getChars_ba4f3 83 = .ok (.baload, 1) := by decide +kernel
theorem dJ6_getChars_ba4f3_84 : decode cJ6_getChars_ba4f3 84 = .ok (.bastore, 1) := by decide +kernel
theorem dJ6_getChars_ba4f3_85 : decode cJ6_getChars_ba4f3 85 = .ok (.iload_n 0, 1) := by decide +kernel
theorem dJ6_getChars_ba4f3_86 : decode cJ6_getChars_ba4f3 86 = .ok (.bipush (-9), 2) := by decide +kernel
theorem dJ6_getChars_ba4f3_88 : decode cJ6_getChars_ba4f3 88 = .ok (.if_icmp .ge 16, 3) := by decide +kernel
theorem dJ6_getChars_ba4f3_91 : decode cJ6_getChars_ba4f3 91 = .ok (.aload_n 2, 1) := by decide +kernel
theorem dJ6_getChars_ba4f3_92 : decode cJ6_getChars_ba4f3 92 = .ok (.iinc 5 (-1), 3) := by decide +kernel
theorem dJ6_getChars_ba4f3_95 : decode cJ6_getChars_ba4f3 95 = .ok (.iload 5, 2) := by decide +kernel
theorem dJ6_getChars_ba4f3_97 : decode cJ6_getChars_ba4f3 97 = .ok (.getstatic 87, 3) := by decide +kernel
theorem dJ6_getChars_ba4f3_100 : decode cJ6_getChars_ba4f3 100 = .ok (.iload_n 0, 1) := by decide +kernel
theorem dJ6_getChars_ba4f3_101 : decode cJ6_getChars_ba4f3 101 = .ok (.ineg, 1) := by decide +kernel
theorem dJ6_getChars_ba4f3_102 : decode cJ6_getChars_ba4f3 102 = .ok (.baload, 1) := by decide +kernel
theorem dJ6_getChars_ba4f3_103 : decode cJ6_getChars_ba4f3 103 = .ok (.bastore, 1) := by decide +kernel
theorem dJ6_getChars_ba4f3_104 : decode cJ6_getChars_ba4f3 104 = .ok (.iload 6, 2) := by decide +kernel
theorem dJ6_getChars_ba4f3_106 : decode cJ6_getChars_ba4f3 106 = .ok (.ifCond .eq 12, 3) := by decide +kernel
theorem dJ6_getChars_ba4f3_109 : decode cJ6_getChars_ba4f3 109 = .ok (.aload_n 2, 1) := by decide +kernel
theorem dJ6_getChars_ba4f3_110 : decode cJ6_getChars_ba4f3 110 = .ok (.iinc 5 (-1), 3) := by decide +kernel
theorem dJ6_getChars_ba4f3_113 : decode cJ6_getChars_ba4f3 113 = .ok (.iload 5, 2) := by decide +kernel
theorem dJ6_getChars_ba4f3_115 : decode cJ6_getChars_ba4f3 115 = .ok (.bipush 45, 2) := by decide +kernel
theorem dJ6_getChars_ba4f3_117 : decode cJ6_getChars_ba4f3 117 = .ok (.bastore, 1) := by decide +kernel
theorem dJ6_getChars_ba4f3_118 : decode cJ6_getChars_ba4f3 118 = .ok (.iload 5, 2) := by decide +kernel
theorem dJ6_getChars_ba4f3_120 : decode cJ6_getChars_ba4f3 120 = .ok (.ireturn, 1) := by decide +kernel
theorem dJ6_stringSize_0f7a4_0 : decode cJ6_stringSize_0f7a4 0 = .ok (.iconst 1, 1) := by decide +kernel
theorem dJ6_stringSize_0f7a4_1 : decode cJ6_stringSize_0f7a4 1 = .ok (.istore_n 1, 1) := by decide +kernel
theorem dJ6_stringSize_0f7a4_2 : decode cJ6_stringSize_0f7a4 2 = .ok (.iload_n 0, 1) := by decide +kernel
theorem dJ6_stringSize_0f7a4_3 : decode cJ6_stringSize_0f7a4 3 = .ok (.ifCond .lt 8, 3) := by decide +kernel
theorem dJ6_stringSize_0f7a4_6 : decode cJ6_stringSize_0f7a4 6 = .ok (.iconst 0, 1) := by decide +kernel
theorem dJ6_stringSize_0f7a4_7 : decode cJ6_stringSize_0f7a4 7 = .ok (.istore_n 1, 1) := by decide +kernel
theorem dJ6_stringSize_0f7a4_8 : decode cJ6_stringSize_0f7a4 8 = .ok (.iload_n 0, 1) := by decide +kernel
theorem dJ6_stringSize_0f7a4_9 : decode cJ6_stringSize_0f7a4 9 = .ok (.ineg, 1) := by decide +kernel
theorem dJ6_stringSize_0f7a4_10 : decode cJ6_stringSize_0f7a4 10 = .ok (.istore_n 0, 1) := by decide +kernel
theorem dJ6_stringSize_0f7a4_11 : decode cJ6_stringSize_0f7a4 11 = .ok (.bipush (-10), 2) := by decide +kernel
theorem dJ6_stringSize_0f7a4_13 : decode cJ6_stringSize_0f7a4 13 = .ok (.istore_n 2, 1) := by decide +kernel
theorem dJ6_stringSize_0f7a4_14 : decode cJ6_stringSize_0f7a4 14 = .ok (.iconst 1, 1) := by decide +kernel
theorem dJ6_stringSize_0f7a4_15 : decode cJ6_stringSize_0f7a4 15 = .ok (.istore_n 3, 1) := by decide +kernel
theorem dJ6_stringSize_0f7a4_16 : decode cJ6_stringSize_0f7a4 16 = .ok (.iload_n 3, 1) := by decide +kernel
theorem dJ6_stringSize_0f7a4_17 : decode cJ6_stringSize_0f7a4 17 = .ok (.bipush 10, 2) := by decide +kernel
theorem dJ6_stringSize_0f7a4_19 : decode cJ6_stringSize_0f7a4 19 = .ok (.if_icmp .ge 23, 3) := by decide +kernel
theorem dJ6_stringSize_0f7a4_22 : decode cJ6_stringSize_0f7a4 22 = .ok (.iload_n 0, 1) := by decide +kernel
theorem dJ6_stringSize_0f7a4_23 : decode cJ6_stringSize_0f7a4 23 = .ok (.iload_n 2, 1) := by decide +kernel
theorem dJ6_stringSize_0f7a4_24 : decode cJ6_stringSize_0f7a4 24 = .ok (.if_icmp .le 7, 3) := by decide +kernel
theorem dJ6_stringSize_0f7a4_27 : decode cJ6_stringSize_0f7a4 27 = .ok (.iload_n 3, 1) := by decide +kernel
theorem dJ6_stringSize_0f7a4_28 : decode cJ6_stringSize_0f7a4 28 = .ok (.iload_n 1, 1) := by decide +kernel
theorem dJ6_stringSize_0f7a4_29 : decode cJ6_stringSize_0f7a4 29 = .ok (.iadd, 1) := by decide +kernel
theorem dJ6_stringSize_0f7a4_30 : decode cJ6_stringSize_0f7a4 30 = .ok (.ireturn, 1) := by decide +kernel
theorem dJ6_stringSize_0f7a4_31 : decode cJ6_stringSize_0f7a4 31 = .ok (.bipush 10, 2) := by decide +kernel
theorem dJ6_stringSize_0f7a4_33 : decode cJ6_stringSize_0f7a4 33 = .ok (.iload_n 2, 1) := by decide +kernel
theorem dJ6_stringSize_0f7a4_34 : decode cJ6_stringSize_0f7a4 34 = .ok (.imul, 1) := by decide +kernel
theorem dJ6_stringSize_0f7a4_35 : decode cJ6_stringSize_0f7a4 35 = .ok (.istore_n 2, 1) := by decide +kernel
theorem dJ6_stringSize_0f7a4_36 : decode cJ6_stringSize_0f7a4 36 = .ok (.iinc 3 1, 3) := by decide +kernel
theorem dJ6_stringSize_0f7a4_39 : decode cJ6_stringSize_0f7a4 39 = .ok (.goto (-23), 3) := by decide +kernel
theorem dJ6_stringSize_0f7a4_42 : decode cJ6_stringSize_0f7a4 42 = .ok (.bipush 10, 2) := by decide +kernel
theorem dJ6_stringSize_0f7a4_44 : decode cJ6_stringSize_0f7a4 44 = .ok (.iload_n 1, 1) := by decide +kernel
theorem dJ6_stringSize_0f7a4_45 : decode cJ6_stringSize_0f7a4 45 = .ok (.iadd, 1) := by decide +kernel
theorem dJ6_stringSize_0f7a4_46 : decode cJ6_stringSize_0f7a4 46 = .ok (.ireturn, 1) := by decide +kernel
theorem dJ6_bitCount_0f7a4_0 : decode cJ6_bitCount_0f7a4 0 = .ok (.iload_n 0, 1) := by decide +kernel
theorem dJ6_bitCount_0f7a4_1 : decode cJ6_bitCount_0f7a4 1 = .ok (.iload_n 0, 1) := by decide +kernel
theorem dJ6_bitCount_0f7a4_2 : decode cJ6_bitCount_0f7a4 2 = .ok (.iconst 1, 1) := by decide +kernel
theorem dJ6_bitCount_0f7a4_3 : decode cJ6_bitCount_0f7a4 3 = .ok (.iushr, 1) := by decide +kernel
theorem dJ6_bitCount_0f7a4_4 : decode cJ6_bitCount_0f7a4 4 = .ok (.ldc_w 265, 3) := by decide +kernel
theorem dJ6_bitCount_0f7a4_7 : decode cJ6_bitCount_0f7a4 7 = .ok (.iand, 1) := by decide +kernel
theorem dJ6_bitCount_0f7a4_8 : decode cJ6_bitCount_0f7a4 8 = .ok (.isub, 1) := by decide +kernel
theorem dJ6_bitCount_0f7a4_9 : decode cJ6_bitCount_0f7a4 9 = .ok (.istore_n 0, 1) := by decide +kernel
theorem dJ6_bitCount_0f7a4_10 : decode cJ6_bitCount_0f7a4 10 = .ok (.iload_n 0, 1) := by decide +kernel
theorem dJ6_bitCount_0f7a4_11 : decode cJ6_bitCount_0f7a4 11 = .ok (.ldc_w 266, 3) := by decide +kernel
theorem dJ6_bitCount_0f7a4_14 : decode cJ6_bitCount_0f7a4 14 = .ok (.iand, 1) := by decide +kernel
theorem dJ6_bitCount_0f7a4_15 : decode cJ6_bitCount_0f7a4 15 = .ok (.iload_n 0, 1) := by decide +kernel
theorem dJ6_bitCount_0f7a4_16 : decode cJ6_bitCount_0f7a4 16 = .ok (.iconst 2, 1) := by decide +kernel
theorem dJ6_bitCount_0f7a4_17 : decode cJ6_bitCount_0f7a4 17 = .ok (.iushr, 1) := by decide +kernel
theorem dJ6_bitCount_0f7a4_18 : decode cJ6_bitCount_0f7a4 18 = .ok (.ldc_w 266, 3) := by decide +kernel
theorem dJ6_bitCount_0f7a4_21 : decode cJ6_bitCount_0f7a4 21 = .ok (.iand, 1) := by decide +kernel
theorem dJ6_bitCount_0f7a4_22 : decode cJ6_bitCount_0f7a4 22 = .ok (.iadd, 1) := by decide +kernel
theorem dJ6_bitCount_0f7a4_23 : decode cJ6_bitCount_0f7a4 23 = .ok (.istore_n 0, 1) := by decide +kernel
theorem dJ6_bitCount_0f7a4_24 : decode cJ6_bitCount_0f7a4 24 = .ok (.iload_n 0, 1) := by decide +kernel
theorem dJ6_bitCount_0f7a4_25 : decode cJ6_bitCount_0f7a4 25 = .ok (.iload_n 0, 1) := by decide +kernel
theorem dJ6_bitCount_0f7a4_26 : decode cJ6_bitCount_0f7a4 26 = .ok (.iconst 4, 1) := by decide +kernel
theorem dJ6_bitCount_0f7a4_27 : decode cJ6_bitCount_0f7a4 27 = .ok (.iushr, 1) := by decide +kernel
theorem dJ6_bitCount_0f7a4_28 : decode cJ6_bitCount_0f7a4 28 = .ok (.iadd, 1) := by decide +kernel
theorem dJ6_bitCount_0f7a4_29 : decode cJ6_bitCount_0f7a4 29 = .ok (.ldc_w 267, 3) := by decide +kernel
theorem dJ6_bitCount_0f7a4_32 : decode cJ6_bitCount_0f7a4 32 = .ok (.iand, 1) := by decide +kernel
theorem dJ6_bitCount_0f7a4_33 : decode cJ6_bitCount_0f7a4 33 = .ok (.istore_n 0, 1) := by decide +kernel
theorem dJ6_bitCount_0f7a4_34 : decode cJ6_bitCount_0f7a4 34 = .ok (.iload_n 0, 1) := by decide +kernel
theorem dJ6_bitCount_0f7a4_35 : decode cJ6_bitCount_0f7a4 35 = .ok (.iload_n 0, 1) := by decide +kernel
theorem dJ6_bitCount_0f7a4_36 : decode cJ6_bitCount_0f7a4 36 = .ok (.bipush 8, 2) := by decide +kernel
theorem dJ6_bitCount_0f7a4_38 : decode cJ6_bitCount_0f7a4 38 = .ok (.iushr, 1) := by decide +kernel
theorem dJ6_bitCount_0f7a4_39 : decode cJ6_bitCount_0f7a4 39 = .ok (.iadd, 1) := by decide +kernel
theorem dJ6_bitCount_0f7a4_40 : decode cJ6_bitCount_0f7a4 40 = .ok (.istore_n 0, 1) := by decide +kernel
theorem dJ6_bitCount_0f7a4_41 : decode cJ6_bitCount_0f7a4 41 = .ok (.iload_n 0, 1) := by decide +kernel
theorem dJ6_bitCount_0f7a4_42 : decode cJ6_bitCount_0f7a4 42 = .ok (.iload_n 0, 1) := by decide +kernel
theorem dJ6_bitCount_0f7a4_43 : decode cJ6_bitCount_0f7a4 43 = .ok (.bipush 16, 2) := by decide +kernel
theorem dJ6_bitCount_0f7a4_45 : decode cJ6_bitCount_0f7a4 45 = .ok (.iushr, 1) := by decide +kernel
theorem dJ6_bitCount_0f7a4_46 : decode cJ6_bitCount_0f7a4 46 = .ok (.iadd, 1) := by decide +kernel
theorem dJ6_bitCount_0f7a4_47 : decode cJ6_bitCount_0f7a4 47 = .ok (.istore_n 0, 1) := by decide +kernel
theorem dJ6_bitCount_0f7a4_48 : decode cJ6_bitCount_0f7a4 48 = .ok (.iload_n 0, 1) := by decide +kernel
theorem dJ6_bitCount_0f7a4_49 : decode cJ6_bitCount_0f7a4 49 = .ok (.bipush 63, 2) := by decide +kernel
theorem dJ6_bitCount_0f7a4_51 : decode cJ6_bitCount_0f7a4 51 = .ok (.iand, 1) := by decide +kernel
theorem dJ6_bitCount_0f7a4_52 : decode cJ6_bitCount_0f7a4 52 = .ok (.ireturn, 1) := by decide +kernel
theorem dJ9_max_7cf53_0 : decode cJ9_max_7cf53 0 = .ok (.iload_n 0, 1) := by decide +kernel
theorem dJ9_max_7cf53_1 : decode cJ9_max_7cf53 1 = .ok (.iload_n 1, 1) := by decide +kernel
theorem dJ9_max_7cf53_2 : decode cJ9_max_7cf53 2 = .ok (.if_icmp .lt 7, 3) := by decide +kernel
theorem dJ9_max_7cf53_5 : decode cJ9_max_7cf53 5 = .ok (.iload_n 0, 1) := by decide +kernel
theorem dJ9_max_7cf53_6 : decode cJ9_max_7cf53 6 = .ok (.goto 4, 3) := by decide +kernel
theorem dJ9_max_7cf53_9 : decode cJ9_max_7cf53 9 = .ok (.iload_n 1, 1) := by decide +kernel
theorem dJ9_max_7cf53_10 : decode cJ9_max_7cf53 10 = .ok (.ireturn, 1) := by decide +kernel
theorem dJ9_min_7cf53_0 : decode cJ9_min_7cf53 0 = .ok (.iload_n 0, 1) := by decide +kernel
theorem dJ9_min_7cf53_1 : decode cJ9_min_7cf53 1 = .ok (.iload_n 1, 1) := by decide +kernel
theorem dJ9_min_7cf53_2 : decode cJ9_min_7cf53 2 = .ok (.if_icmp .gt 7, 3) := by decide +kernel
theorem dJ9_min_7cf53_5 : decode cJ9_min_7cf53 5 = .ok (.iload_n 0, 1) := by decide +kernel
theorem dJ9_min_7cf53_6 : decode cJ9_min_7cf53 6 = .ok (.goto 4, 3) := by decide +kernel
theorem dJ9_min_7cf53_9 : decode cJ9_min_7cf53 9 = .ok (.iload_n 1, 1) := by decide +kernel
theorem dJ9_min_7cf53_10 : decode cJ9_min_7cf53 10 = .ok (.ireturn, 1) := by decide +kernel
theorem dJ0_init_81219_0 : decode cJ0_init_81219 0 = .ok (.aload_n 0, 1) := by decide +kernel
theorem dJ0_init_81219_1 : decode cJ0_init_81219 1 = .ok (.aload_n 1, 1) := by decide +kernel
theorem dJ0_init_81219_2 : decode cJ0_init_81219 2 = .ok (.aconst_null, 1) := by decide +kernel
theorem dJ0_init_81219_3 : decode cJ0_init_81219 3 = .ok (.invokespecial 489, 3) := by decide +kernel
theorem dJ0_init_81219_6 : decode cJ0_init_81219 6 = .ok (.return_, 1) := by decide +kernel
theorem dJ0_length_8abf5_0 : decode cJ0_length_8abf5 0 = .ok (.aload_n 0, 1) := by decide +kernel
theorem dJ0_length_8abf5_1 : decode cJ0_length_8abf5 1 = .ok (.getfield 9, 3) := by decide +kernel
theorem dJ0_length_8abf5_4 : decode cJ0_length_8abf5 4 = .ok (.arraylength, 1) := by decide +kernel
theorem dJ0_length_8abf5_5 : decode cJ0_length_8abf5 5 = .ok (.aload_n 0, 1) := by decide +kernel
theorem dJ0_length_8abf5_6 : decode cJ0_length_8abf5 6 = .ok (.invokevirtual 335, 3) := by decide +kernel
theorem dJ0_length_8abf5_9 : decode cJ0_length_8abf5 9 = .ok (.ishr, 1) := by decide +kernel
theorem dJ0_length_8abf5_10 : decode cJ0_length_8abf5 10 = .ok (.ireturn, 1) := by decide +kernel
theorem dJ0_charAt_5068e_0 : decode cJ0_charAt_5068e 0 = .ok (.aload_n 0, 1) := by decide +kernel
theorem dJ0_charAt_5068e_1 : decode cJ0_charAt_5068e 1 = .ok (.invokevirtual 492, 3) := by decide +kernel
theorem dJ0_charAt_5068e_4 : decode cJ0_charAt_5068e 4 = .ok (.ifCond .eq 12, 3) := by decide +kernel
theorem dJ0_charAt_5068e_7 : decode cJ0_charAt_5068e 7 = .ok (.aload_n 0, 1) := by decide +kernel
theorem dJ0_charAt_5068e_8 : decode cJ0_charAt_5068e 8 = .ok (.getfield 9, 3) := by decide +kernel
theorem dJ0_charAt_5068e_11 : decode cJ0_charAt_5068e 11 = .ok (.iload_n 1, 1) := by decide +kernel
theorem dJ0_charAt_5068e_12 : decode cJ0_charAt_5068e 12 = .ok (.invokestatic 495, 3) := by decide +kernel
theorem dJ0_charAt_5068e_15 : decode cJ0_charAt_5068e 15 = .ok (.ireturn, 1) := by decide +kernel
theorem dJ0_charAt_5068e_16 : decode cJ0_charAt_5068e 16 = .ok (.aload_n 0, 1) := by decide +kernel
theorem dJ0_charAt_5068e_17 : decode cJ0_charAt_5068e 17 = .ok (.getfield 9, 3) := by decide +kernel
theorem dJ0_charAt_5068e_20 : decode cJ0_charAt_5068e 20 = .ok (.iload_n 1, 1) := by decide +kernel
theorem dJ0_charAt_5068e_21 : decode cJ0_charAt_5068e 21 = .ok (.invokestatic 498, 3) := by decide +kernel
theorem dJ0_charAt_5068e_24 : decode cJ0_charAt_5068e 24 = .ok (.ireturn, 1) := by decide +kernel
theorem dJ0_substring_37a41_0 : decode cJ0_substring_37a41 0 = .ok (.aload_n 0, 1) := by decide +kernel
theorem dJ0_substring_37a41_1 : decode cJ0_substring_37a41 1 = .ok (.invokevirtual 505, 3) := by decide +kernel
theorem dJ0_substring_37a41_4 : decode cJ0_substring_37a41 4 = .ok (.istore_n 3, 1) := by decide +kernel
theorem dJ0_substring_37a41_5 : decode cJ0_substring_37a41 5 = .ok (.iload_n 1, 1) := by decide +kernel
theorem dJ0_substring_37a41_6 : decode cJ0_substring_37a41 6 = .ok (.iload_n 2, 1) := by decide +kernel
theorem dJ0_substring_37a41_7 : decode cJ0_substring_37a41 7 = .ok (.iload_n 3, 1) := by decide +kernel
theorem dJ0_substring_37a41_8 : decode cJ0_substring_37a41 8 = .ok (.invokestatic 521, 3) := by decide +kernel
theorem dJ0_substring_37a41_11 : decode cJ0_substring_37a41 11 = .ok (.iload_n 1, 1) := by decide +kernel
theorem dJ0_substring_37a41_12 : decode cJ0_substring_37a41 12 = .ok (.ifCond .ne 10, 3) := by decide +kernel
theorem dJ0_substring_37a41_15 : decode cJ0_substring_37a41 15 = .ok (.iload_n 2, 1) := by decide +kernel
theorem dJ0_substring_37a41_16 : decode cJ0_substring_37a41 16 = .ok (.iload_n 3, 1) := by decide +kernel
theorem dJ0_substring_37a41_17 : decode cJ0_substring_37a41 17 = .ok (.if_icmp .ne 5, 3) := by decide +kernel
theorem dJ0_substring_37a41_20 : decode cJ0_substring_37a41 20 = .ok (.aload_n 0, 1) := by decide +kernel
theorem dJ0_substring_37a41_21 : decode cJ0_substring_37a41 21 = .ok (.areturn, 1) := by decide +kernel
theorem dJ0_substring_37a41_22 : decode cJ0_substring_37a41 22 = .ok (.iload_n 2, 1) := by decide +kernel
theorem dJ0_substring_37a41_23 : decode cJ0_substring_37a41 23 = .ok (.iload_n 1, 1) := by decide +kernel
theorem dJ0_substring_37a41_24 : decode cJ0_substring_37a41 24 = .ok (.isub, 1) := by decide +kernel
theorem dJ0_substring_37a41_25 : decode cJ0_substring_37a41 25 = .ok (.istore 4, 2) := by decide +kernel
theorem dJ0_substring_37a41_27 : decode cJ0_substring_37a41 27 = .ok (.aload_n 0, 1) := by decide +kernel
theorem dJ0_substring_37a41_28 : decode cJ0_substring_37a41 28 = .ok (.invokevirtual 492, 3) := by decide +kernel
theorem dJ0_substring_37a41_31 : decode cJ0_substring_37a41 31 = .ok (.ifCond .eq 16, 3) := by decide +kernel
theorem dJ0_substring_37a41_34 : decode cJ0_substring_37a41 34 = .ok (.aload_n 0, 1) := by decide +kernel
theorem dJ0_substring_37a41_35 : decode cJ0_substring_37a41 35 = .ok (.getfield 9, 3) := by decide +kernel
theorem dJ0_substring_37a41_38 : decode cJ0_substring_37a41 38 = .ok (.iload_n 1, 1) := by decide +kernel
theorem dJ0_substring_37a41_39 : decode cJ0_substring_37a41 39 = .ok (.iload 4, 2) := by decide +kernel
theorem dJ0_substring_37a41_41 : decode cJ0_substring_37a41 41 = .ok (.invokestatic 685, 3) := by decide +kernel
theorem dJ0_substring_37a41_44 : decode cJ0_substring_37a41 44 = .ok (.goto 13, 3) := by decide +kernel
theorem dJ0_substring_37a41_47 : decode cJ0_substring_37a41 47 = .ok (.aload_n 0, 1) := by decide +kernel
theorem dJ0_substring_37a41_48 : decode cJ0_substring_37a41 48 = .ok (.getfield 9, 3) := by decide +kernel
theorem dJ0_substring_37a41_51 : decode cJ0_substring_37a41 51 = .ok (.iload_n 1, 1) := by decide +kernel
theorem dJ0_substring_37a41_52 : decode cJ0_substring_37a41 52 = .ok (.iload 4, 2) := by decide +kernel
theorem dJ0_substring_37a41_54 : decode cJ0_substring_37a41 54 = .ok (.invokestatic 689, 3) := by decide +kernel
theorem dJ0_substring_37a41_57 : decode cJ0_substring_37a41 57 = .ok (.areturn, 1) := by decide +kernel
theorem dJ0_getBytes_840e7_0 : decode cJ0_getBytes_840e7 0 = .ok (.aload_n 0, 1) := by decide +kernel
theorem dJ0_getBytes_840e7_1 : decode cJ0_getBytes_840e7 1 = .ok (.invokevirtual 335, 3) := by decide +kernel
theorem dJ0_getBytes_840e7_4 : decode cJ0_getBytes_840e7 4 = .ok (.iload_n 3, 1) := by decide +kernel
theorem dJ0_getBytes_840e7_5 : decode cJ0_getBytes_840e7 5 = .ok (.if_icmp .ne 23, 3) := by decide +kernel
theorem dJ0_getBytes_840e7_8 : decode cJ0_getBytes_840e7 8 = .ok (.aload_n 0, 1) := by decide +kernel
theorem dJ0_getBytes_840e7_9 : decode cJ0_getBytes_840e7 9 = .ok (.getfield 9, 3) := by decide +kernel
theorem dJ0_getBytes_840e7_12 : decode cJ0_getBytes_840e7 12 = .ok (.iconst 0, 1) := by decide +kernel
theorem dJ0_getBytes_840e7_13 : decode cJ0_getBytes_840e7 13 = .ok (.aload_n 1, 1) := by decide +kernel
theorem dJ0_getBytes_840e7_14 : decode cJ0_getBytes_840e7 14 = .ok (.iload_n 2, 1) := by decide +kernel
theorem dJ0_getBytes_840e7_15 : decode cJ0_getBytes_840e7 15 = .ok (.iload_n 3, 1) := by decide +kernel
theorem dJ0_getBytes_840e7_16 : decode cJ0_getBytes_840e7 16 = .ok (.ishl, 1) := by decide +kernel
theorem dJ0_getBytes_840e7_17 : decode cJ0_getBytes_840e7 17 = .ok (.aload_n 0, 1) := by decide +kernel
theorem dJ0_getBytes_840e7_18 : decode cJ0_getBytes_840e7 18 = .ok (.getfield 9, 3) := by decide +kernel
theorem dJ0_getBytes_840e7_21 : decode cJ0_getBytes_840e7 21 = .ok (.arraylength, 1) := by decide +kernel
theorem dJ0_getBytes_840e7_22 : decode cJ0_getBytes_840e7 22 = .ok (.invokestatic 212, 3) := by decide +kernel
theorem dJ0_getBytes_840e7_25 : decode cJ0_getBytes_840e7 25 = .ok (.goto 18, 3) := by decide +kernel
theorem dJ0_getBytes_840e7_28 : decode cJ0_getBytes_840e7 28 = .ok (.aload_n 0, 1) := by decide +kernel
theorem dJ0_getBytes_840e7_29 : decode cJ0_getBytes_840e7 29 = .ok (.getfield 9, 3) := by decide +kernel
theorem dJ0_getBytes_840e7_32 : decode cJ0_getBytes_840e7 32 = .ok (.iconst 0, 1) := by decide +kernel
theorem dJ0_getBytes_840e7_33 : decode cJ0_getBytes_840e7 33 = .ok (.aload_n 1, 1) := by decide +kernel
theorem dJ0_getBytes_840e7_34 : decode cJ0_getBytes_840e7 34 = .ok (.iload_n 2, 1) := by decide +kernel
theorem dJ0_getBytes_840e7_35 : decode cJ0_getBytes_840e7 35 = .ok (.aload_n 0, 1) := by decide +kernel
theorem dJ0_getBytes_840e7_36 : decode cJ0_getBytes_840e7 36 = .ok (.getfield 9, 3) := by decide +kernel
theorem dJ0_getBytes_840e7_39 : decode cJ0_getBytes_840e7 39 = .ok (.arraylength, 1) := by decide +kernel
theorem dJ0_getBytes_840e7_40 : decode cJ0_getBytes_840e7 40 = .ok (.invokestatic 106, 3) := by decide +kernel
theorem dJ0_getBytes_840e7_43 : decode cJ0_getBytes_840e7 43 = .ok (.return_, 1) := by decide +kernel
theorem dJ0_init_db425_0 : decode cJ0_init_db425 0 = .ok (.aload_n 0, 1) := by decide +kernel
theorem dJ0_init_db425_1 : decode cJ0_init_db425 1 = .ok (.invokespecial 1, 3) := by decide +kernel
theorem dJ0_init_db425_4 : decode cJ0_init_db425 4 = .ok (.aload_n 1, 1) := by decide +kernel
theorem dJ0_init_db425_5 : decode cJ0_init_db425 5 = .ok (.invokevirtual 552, 3) := by decide +kernel
theorem dJ0_init_db425_8 : decode cJ0_init_db425 8 = .ok (.astore_n 3, 1) := by decide +kernel
theorem dJ0_init_db425_9 : decode cJ0_init_db425 9 = .ok (.aload_n 1, 1) := by decide +kernel
theorem dJ0_init_db425_10 : decode cJ0_init_db425 10 = .ok (.invokevirtual 549, 3) := by decide +kernel
theorem dJ0_init_db425_13 : decode cJ0_init_db425 13 = .ok (.istore 4, 2) := by decide +kernel
theorem dJ0_init_db425_15 : decode cJ0_init_db425 15 = .ok (.aload_n 1, 1) := by decide +kernel
theorem dJ0_init_db425_16 : decode cJ0_init_db425 16 = .ok (.invokevirtual 1047, 3) := by decide +kernel
theorem dJ0_init_db425_19 : decode cJ0_init_db425 19 = .ok (.ifCond .eq 22, 3) := by decide +kernel
theorem dJ0_init_db425_22 : decode cJ0_init_db425 22 = .ok (.aload_n 0, 1) := by decide +kernel
theorem dJ0_init_db425_23 : decode cJ0_init_db425 23 = .ok (.iconst 0, 1) := by decide +kernel
theorem dJ0_init_db425_24 : decode cJ0_init_db425 24 = .ok (.putfield 15, 3) := by decide +kernel
theorem dJ0_init_db425_27 : decode cJ0_init_db425 27 = .ok (.aload_n 0, 1) := by decide +kernel
theorem dJ0_init_db425_28 : decode cJ0_init_db425 28 = .ok (.aload_n 3, 1) := by decide +kernel
theorem dJ0_init_db425_29 : decode cJ0_init_db425 29 = .ok (.iconst 0, 1) := by decide +kernel
theorem dJ0_init_db425_30 : decode cJ0_init_db425 30 = .ok (.iload 4, 2) := by decide +kernel
theorem dJ0_init_db425_32 : decode cJ0_init_db425 32 = .ok (.invokestatic 54, 3) := by decide +kernel
theorem dJ0_init_db425_35 : decode cJ0_init_db425 35 = .ok (.putfield 9, 3) := by decide +kernel
theorem dJ0_init_db425_38 : decode cJ0_init_db425 38 = .ok (.goto 59, 3) := by decide +kernel
theorem dJ0_init_db425_41 : decode cJ0_init_db425 41 = .ok (.getstatic 38, 3) := by decide +kernel
theorem dJ0_init_db425_44 : decode cJ0_init_db425 44 = .ok (.ifCond .eq 35, 3) := by decide +kernel
theorem dJ0_init_db425_47 : decode cJ0_init_db425 47 = .ok (.aload_n 1, 1) := by decide +kernel
theorem dJ0_init_db425_48 : decode cJ0_init_db425 48 = .ok (.getfield 1048, 3) := by decide +kernel
theorem dJ0_init_db425_51 : decode cJ0_init_db425 51 = .ok (.ifCond .eq 28, 3) := by decide +kernel
theorem dJ0_init_db425_54 : decode cJ0_init_db425 54 = .ok (.aload_n 0, 1) := by decide +kernel
theorem dJ0_init_db425_55 : decode cJ0_init_db425 55 = .ok (.aload_n 3, 1) := by decide +kernel
theorem dJ0_init_db425_56 : decode cJ0_init_db425 56 = .ok (.iconst 0, 1) := by decide +kernel
theorem dJ0_init_db425_57 : decode cJ0_init_db425 57 = .ok (.iload 4, 2) := by decide +kernel
theorem dJ0_init_db425_59 : decode cJ0_init_db425 59 = .ok (.invokestatic 1051, 3) := by decide +kernel
theorem dJ0_init_db425_62 : decode cJ0_init_db425 62 = .ok (.putfield 9, 3) := by decide +kernel
theorem dJ0_init_db425_65 : decode cJ0_init_db425 65 = .ok (.aload_n 0, 1) := by decide +kernel
theorem dJ0_init_db425_66 : decode cJ0_init_db425 66 = .ok (.aload_n 0, 1) := by decide +kernel
theorem dJ0_init_db425_67 : decode cJ0_init_db425 67 = .ok (.getfield 9, 3) := by decide +kernel
theorem dJ0_init_db425_70 : decode cJ0_init_db425 70 = .ok (.iload 4, 2) := by decide +kernel
theorem dJ0_init_db425_72 : decode cJ0_init_db425 72 = .ok (.invokestatic 47, 3) := by decide +kernel
theorem dJ0_init_db425_75 : decode cJ0_init_db425 75 = .ok (.putfield 15, 3) := by decide +kernel
theorem dJ0_init_db425_78 : decode cJ0_init_db425 78 = .ok (.return_, 1) := by decide +kernel
theorem dJ0_init_db425_79 : decode cJ0_init_db425 79 = .ok (.aload_n 0, 1) := by decide +kernel
theorem dJ0_init_db425_80 : decode cJ0_init_db425 80 = .ok (.iconst 1, 1) := by decide +kernel
theorem dJ0_init_db425_81 : decode cJ0_init_db425 81 = .ok (.putfield 15, 3) := by decide +kernel
theorem dJ0_init_db425_84 : decode cJ0_init_db425 84 = .ok (.aload_n 0, 1) := by decide +kernel
theorem dJ0_init_db425_85 : decode cJ0_init_db425 85 = .ok (.aload_n 3, 1) := by decide +kernel
theorem dJ0_init_db425_86 : decode cJ0_init_db425 86 = .ok (.iconst 0, 1) := by decide +kernel
theorem dJ0_init_db425_87 : decode cJ0_init_db425 87 = .ok (.iload 4, 2) := by decide +kernel
theorem dJ0_init_db425_89 : decode cJ0_init_db425 89 = .ok (.iconst 1, 1) := by decide +kernel
theorem dJ0_init_db425_90 : decode cJ0_init_db425 90 = .ok (.ishl, 1) := by decide +kernel
theorem dJ0_init_db425_91 : decode cJ0_init_db425 91 = .ok (.invokestatic 54, 3) := by decide +kernel
theorem dJ0_init_db425_94 : decode cJ0_init_db425 94 = .ok (.putfield 9, 3) := by decide +kernel
theorem dJ0_init_db425_97 : decode cJ0_init_db425 97 = .ok (.return_, 1) := by decide +kernel
theorem dJ0_init_031fb_0 : decode cJ0_init_031fb 0 = .ok (.aload_n 0, 1) := by decide +kernel
theorem dJ0_init_031fb_1 : decode cJ0_init_031fb 1 = .ok (.invokespecial 1, 3) := by decide +kernel
theorem dJ0_init_031fb_4 : decode cJ0_init_031fb 4 = .ok (.aload_n 0, 1) := by decide +kernel
theorem dJ0_init_031fb_5 : decode cJ0_init_031fb 5 = .ok (.aload_n 1, 1) := by decide +kernel
theorem dJ0_init_031fb_6 : decode cJ0_init_031fb 6 = .ok (.putfield 9, 3) := by decide +kernel
theorem dJ0_init_031fb_9 : decode cJ0_init_031fb 9 = .ok (.aload_n 0, 1) := by decide +kernel
theorem dJ0_init_031fb_10 : decode cJ0_init_031fb 10 = .ok (.iload_n 2, 1) := by decide +kernel
theorem dJ0_init_031fb_11 : decode cJ0_init_031fb 11 = .ok (.putfield 15, 3) := by decide +kernel
theorem dJ0_init_031fb_14 : decode cJ0_init_031fb 14 = .ok (.return_, 1) := by decide +kernel
theorem dJ0_coder_7d493_0 : decode cJ0_coder_7d493 0 = .ok (.getstatic 38, 3) := by decide +kernel
theorem dJ0_coder_7d493_3 : decode cJ0_coder_7d493 3 = .ok (.ifCond .eq 10, 3) := by decide +kernel
theorem dJ0_coder_7d493_6 : decode cJ0_coder_7d493 6 = .ok (.aload_n 0, 1) := by decide +kernel
theorem dJ0_coder_7d493_7 : decode cJ0_coder_7d493 7 = .ok (.getfield 15, 3) := by decide +kernel
theorem dJ0_coder_7d493_10 : decode cJ0_coder_7d493 10 = .ok (.goto 4, 3) := by decide +kernel
theorem dJ0_coder_7d493_13 : decode cJ0_coder_7d493 13 = .ok (.iconst 1, 1) := by decide +kernel
theorem dJ0_coder_7d493_14 : decode cJ0_coder_7d493 14 = .ok (.ireturn, 1) := by decide +kernel
theorem dJ0_isLatin1_aae02_0 : decode cJ0_isLatin1_aae02 0 = .ok (.getstatic 38, 3) := by decide +kernel
theorem dJ0_isLatin1_aae02_3 : decode cJ0_isLatin1_aae02 3 = .ok (.ifCond .eq 14, 3) := by decide +kernel
theorem dJ0_isLatin1_aae02_6 : decode cJ0_isLatin1_aae02 6 = .ok (.aload_n 0, 1) := by decide +kernel
theorem dJ0_isLatin1_aae02_7 : decode cJ0_isLatin1_aae02 7 = .ok (.getfield 15, 3) := by decide +kernel
theorem dJ0_isLatin1_aae02_10 : decode cJ0_isLatin1_aae02 10 = .ok (.ifCond .ne 7, 3) := by decide +kernel
theorem dJ0_isLatin1_aae02_13 : decode cJ0_isLatin1_aae02 13 = .ok (.iconst 1, 1) := by decide +kernel
theorem dJ0_isLatin1_aae02_14 : decode cJ0_isLatin1_aae02 14 = .ok (.goto 4, 3) := by decide +kernel
theorem dJ0_isLatin1_aae02_17 : decode cJ0_isLatin1_aae02 17 = .ok (.iconst 0, 1) := by decide +kernel
theorem dJ0_isLatin1_aae02_18 : decode cJ0_isLatin1_aae02 18 = .ok (.ireturn, 1) := by decide +kernel
theorem dJ0_checkIndex_df160_0 : decode cJ0_checkIndex_df160 0 = .ok (.iload_n 0, 1) := by decide +kernel
theorem dJ0_checkIndex_df160_1 : decode cJ0_checkIndex_df160 1 = .ok (.iload_n 1, 1) := by decide +kernel
theorem dJ0_checkIndex_df160_2 : decode cJ0_checkIndex_df160 2 = .ok (.getstatic 1053, 3) := by decide +kernel
theorem dJ0_checkIndex_df160_5 : decode cJ0_checkIndex_df160 5 = .ok (.invokestatic 1059, 3) := by decide +kernel
theorem dJ0_checkIndex_df160_8 : decode cJ0_checkIndex_df160 8 = .ok (.pop, 1) := by decide +kernel
theorem dJ0_checkIndex_df160_9 : decode cJ0_checkIndex_df160 9 = .ok (.return_, 1) := by decide +kernel
theorem dJ0_checkBoundsOffCount_cabcc_0 : decode cJ0_checkBoundsOffCount_cabcc 0 = .ok (.iload_n 0, 1) := by decide +kernel
theorem dJ0_checkBoundsOffCount_cabcc_1 : decode cJ0_checkBoundsOffCount_cabcc 1 = .ok (.iload_n 1, 1) := by decide +kernel
theorem dJ0_checkBoundsOffCount_cabcc_2 : decode cJ0_checkBoundsOffCount_cabcc 2 = .ok (.iload_n 2, 1) := by decide +kernel
theorem dJ0_checkBoundsOffCount_cabcc_3 : decode cJ0_checkBoundsOffCount_cabcc 3 = .ok (.getstatic 1053, 3) := by decide +kernel
theorem dJ0_checkBoundsOffCount_cabcc_6 : decode cJ0_checkBoundsOffCount_cabcc 6 = .ok (.invokestatic 1065, 3) := by decide +kernel
theorem dJ0_checkBoundsOffCount_cabcc_9 : decode cJ0_checkBoundsOffCount_cabcc 9 = .ok (.ireturn, 1) := by decide +kernel
theorem dJ0_checkBoundsBeginEnd_23922_0 : decode cJ0_checkBoundsBeginEnd_23922 0 = .ok (.iload_n 0, 1) := by decide +kernel
theorem dJ0_checkBoundsBeginEnd_23922_1 : decode cJ0_checkBoundsBeginEnd_23922 1 = .ok (.iload_n 1, 1) := by decide +kernel
theorem dJ0_checkBoundsBeginEnd_23922_2 : decode cJ0_checkBoundsBeginEnd_23922 2 = .ok (.iload_n 2, 1) := by decide +kernel
theorem dJ0_checkBoundsBeginEnd_23922_3 : decode cJ0_checkBoundsBeginEnd_23922 3 = .ok (.getstatic 1053, 3) := by decide +kernel
theorem dJ0_checkBoundsBeginEnd_23922_6 : decode cJ0_checkBoundsBeginEnd_23922 6 = .ok (.invokestatic 1062, 3) := by decide +kernel
theorem dJ0_checkBoundsBeginEnd_23922_9 : decode cJ0_checkBoundsBeginEnd_23922 9 = .ok (.pop, 1) := by decide +kernel
theorem dJ0_checkBoundsBeginEnd_23922_10 : decode cJ0_checkBoundsBeginEnd_23922 10 = .ok (.return_, 1) := by decide +kernel
theorem dJ4_init_da8c8_0 : decode cJ4_init_da8c8 0 = .ok (.aload_n 0, 1) := by decide +kernel
theorem dJ4_init_da8c8_1 : decode cJ4_init_da8c8 1 = .ok (.bipush 16, 2) := by decide +kernel
theorem dJ4_init_da8c8_3 : decode cJ4_init_da8c8 3 = .ok (.invokespecial 1, 3) := by decide +kernel
theorem dJ4_init_da8c8_6 : decode cJ4_init_da8c8 6 = .ok (.return_, 1) := by decide +kernel
theorem dJ4_append_15ec4_0 : decode cJ4_append_15ec4 0 = .ok (.aload_n 0, 1) := by decide +kernel
theorem dJ4_append_15ec4_1 : decode cJ4_append_15ec4 1 = .ok (.aload_n 1, 1) := by decide +kernel
theorem dJ4_append_15ec4_2 : decode cJ4_append_15ec4 2 = .ok (.invokespecial 29, 3) := by decide +kernel
theorem dJ4_append_15ec4_5 : decode cJ4_append_15ec4 5 = .ok (.pop, 1) := by decide +kernel
theorem dJ4_append_15ec4_6 : decode cJ4_append_15ec4 6 = .ok (.aload_n 0, 1) := by decide +kernel
theorem dJ4_append_15ec4_7 : decode cJ4_append_15ec4 7 = .ok (.areturn, 1) := by decide +kernel
theorem dJ4_append_bf812_0 : decode cJ4_append_bf812 0 = .ok (.aload_n 0, 1) := by decide +kernel
theorem dJ4_append_bf812_1 : decode cJ4_append_bf812 1 = .ok (.iload_n 1, 1) := by decide +kernel
theorem dJ4_append_bf812_2 : decode cJ4_append_bf812 2 = .ok (.invokespecial 53, 3) := by decide +kernel
theorem dJ4_append_bf812_5 : decode cJ4_append_bf812 5 = .ok (.pop, 1) := by decide +kernel
theorem dJ4_append_bf812_6 : decode cJ4_append_bf812 6 = .ok (.aload_n 0, 1) := by decide +kernel
theorem dJ4_append_bf812_7 : decode cJ4_append_bf812 7 = .ok (.areturn, 1) := by decide +kernel
theorem dJ4_toString_0e30d_0 : decode cJ4_toString_0e30d 0 = .ok (.new 18, 3) := by decide +kernel
theorem dJ4_toString_0e30d_3 : decode cJ4_toString_0e30d 3 = .ok (.dup, 1) := by decide +kernel
theorem dJ4_toString_0e30d_4 : decode cJ4_toString_0e30d 4 = .ok (.aload_n 0, 1) := by decide +kernel
theorem dJ4_toString_0e30d_5 : decode cJ4_toString_0e30d 5 = .ok (.invokespecial 137, 3) := by decide +kernel
theorem dJ4_toString_0e30d_8 : decode cJ4_toString_0e30d 8 = .ok (.areturn, 1) := by decide +kernel
theorem dJ4_length_8abf5_0 : decode cJ4_length_8abf5 0 = .ok (.aload_n 0, 1) := by decide +kernel
theorem dJ4_length_8abf5_1 : decode cJ4_length_8abf5 1 = .ok (.invokespecial 343, 3) := by decide +kernel
theorem dJ4_length_8abf5_4 : decode cJ4_length_8abf5 4 = .ok (.ireturn, 1) := by decide +kernel
theorem dJ1_charAt_3b067_0 : decode cJ1_charAt_3b067 0 = .ok (.iload_n 1, 1) := by decide +kernel
theorem dJ1_charAt_3b067_1 : decode cJ1_charAt_3b067 1 = .ok (.aload_n 0, 1) := by decide +kernel
theorem dJ1_charAt_3b067_2 : decode cJ1_charAt_3b067 2 = .ok (.arraylength, 1) := by decide +kernel
theorem dJ1_charAt_3b067_3 : decode cJ1_charAt_3b067 3 = .ok (.invokestatic 9, 3) := by decide +kernel
theorem dJ1_charAt_3b067_6 : decode cJ1_charAt_3b067 6 = .ok (.aload_n 0, 1) := by decide +kernel
theorem dJ1_charAt_3b067_7 : decode cJ1_charAt_3b067 7 = .ok (.iload_n 1, 1) := by decide +kernel
theorem dJ1_charAt_3b067_8 : decode cJ1_charAt_3b067 8 = .ok (.baload, 1) := by decide +kernel
theorem dJ1_charAt_3b067_9 : decode cJ1_charAt_3b067 9 = .ok (.sipush 255, 3) := by decide +kernel
theorem dJ1_charAt_3b067_12 : decode cJ1_charAt_3b067 12 = .ok (.iand, 1) := by decide +kernel
theorem dJ1_charAt_3b067_13 : decode cJ1_charAt_3b067 13 = .ok (.i2c, 1) := by decide +kernel
theorem dJ1_charAt_3b067_14 : decode cJ1_charAt_3b067 14 = .ok (.ireturn, 1) := by decide +kernel
theorem dJ1_newString_b4f7a_0 : decode cJ1_newString_b4f7a 0 = .ok (.iload_n 2, 1) := by decide +kernel
theorem dJ1_newString_b4f7a_1 : decode cJ1_newString_b4f7a 1 = .ok (.ifCond .ne 6, 3) := by decide +kernel
theorem dJ1_newString_b4f7a_4 : decode cJ1_newString_b4f7a 4 = .ok (.ldc 151, 2) := by decide +kernel
theorem dJ1_newString_b4f7a_6 : decode cJ1_newString_b4f7a 6 = .ok (.areturn, 1) := by decide +kernel
theorem dJ1_newString_b4f7a_7 : decode cJ1_newString_b4f7a 7 = .ok (.new 1, 3) := by decide +kernel
theorem dJ1_newString_b4f7a_10 : decode cJ1_newString_b4f7a 10 = .ok (.dup, 1) := by decide +kernel
theorem dJ1_newString_b4f7a_11 : decode cJ1_newString_b4f7a 11 = .ok (.aload_n 0, 1) := by decide +kernel
theorem dJ1_newString_b4f7a_12 : decode cJ1_newString_b4f7a 12 = .ok (.iload_n 1, 1) := by decide +kernel
theorem dJ1_newString_b4f7a_13 : decode cJ1_newString_b4f7a 13 = .ok (.iload_n 1, 1) := by decide +kernel
theorem dJ1_newString_b4f7a_14 : decode cJ1_newString_b4f7a 14 = .ok (.iload_n 2, 1) := by decide +kernel
theorem dJ1_newString_b4f7a_15 : decode cJ1_newString_b4f7a 15 = .ok (.iadd, 1) := by decide +kernel
theorem dJ1_newString_b4f7a_16 : decode cJ1_newString_b4f7a 16 = .ok (.invokestatic 232, 3) := by decide +kernel
theorem dJ1_newString_b4f7a_19 : decode cJ1_newString_b4f7a 19 = .ok (.iconst 0, 1) := by decide +kernel
theorem dJ1_newString_b4f7a_20 : decode cJ1_newString_b4f7a 20 = .ok (.invokespecial 112, 3) := by decide +kernel
theorem dJ1_newString_b4f7a_23 : decode cJ1_newString_b4f7a 23 = .ok (.areturn, 1) := by decide +kernel
theorem dJ1_inflate_0e8fd_0 : decode cJ1_inflate_0e8fd 0 = .ok (.aload_n 0, 1) := by decide +kernel
theorem dJ1_inflate_0e8fd_1 : decode cJ1_inflate_0e8fd 1 = .ok (.iload_n 1, 1) := by decide +kernel
theorem dJ1_inflate_0e8fd_2 : decode cJ1_inflate_0e8fd 2 = .ok (.aload_n 2, 1) := by decide +kernel
theorem dJ1_inflate_0e8fd_3 : decode cJ1_inflate_0e8fd 3 = .ok (.iload_n 3, 1) := by decide +kernel
theorem dJ1_inflate_0e8fd_4 : decode cJ1_inflate_0e8fd 4 = .ok (.iload 4, 2) := by decide +kernel
theorem dJ1_inflate_0e8fd_6 : decode cJ1_inflate_0e8fd 6 = .ok (.invokestatic 240, 3) := by decide +kernel
theorem dJ1_inflate_0e8fd_9 : decode cJ1_inflate_0e8fd 9 = .ok (.return_, 1) := by decide +kernel
theorem dJ2_newBytesFor_77867_0 : decode cJ2_newBytesFor_77867 0 = .ok (.iload_n 0, 1) := by decide +kernel
theorem dJ2_newBytesFor_77867_1 : decode cJ2_newBytesFor_77867 1 = .ok (.invokestatic 11, 3) := by decide +kernel
theorem dJ2_newBytesFor_77867_4 : decode cJ2_newBytesFor_77867 4 = .ok (.newarray .byte, 2) := by decide +kernel
theorem dJ2_newBytesFor_77867_6 : decode cJ2_newBytesFor_77867 6 = .ok (.areturn, 1) := by decide +kernel
theorem dJ2_newBytesLength_0f7a4_0 : decode cJ2_newBytesLength_0f7a4 0 = .ok (.iload_n 0, 1) := by decide +kernel
theorem dJ2_newBytesLength_0f7a4_1 : decode cJ2_newBytesLength_0f7a4 1 = .ok (.ifCond .ge 11, 3) := by decide +kernel
theorem dJ2_newBytesLength_0f7a4_4 : decode cJ2_newBytesLength_0f7a4 4 = .ok (.new 17, 3) := by decide +kernel
theorem dJ2_newBytesLength_0f7a4_7 : decode cJ2_newBytesLength_0f7a4 7 = .ok (.dup, 1) := by decide +kernel
theorem dJ2_newBytesLength_0f7a4_8 : decode cJ2_newBytesLength_0f7a4 8 = .ok (.invokespecial 19, 3) := by decide +kernel
theorem dJ2_newBytesLength_0f7a4_11 : decode cJ2_newBytesLength_0f7a4 11 = .ok (.athrow, 1) := by decide +kernel
theorem dJ2_newBytesLength_0f7a4_12 : decode cJ2_newBytesLength_0f7a4 12 = .ok (.iload_n 0, 1) := by decide +kernel
theorem dJ2_newBytesLength_0f7a4_13 : decode cJ2_newBytesLength_0f7a4 13 = .ok (.ldc 20, 2) := by decide +kernel
theorem dJ2_newBytesLength_0f7a4_15 : decode cJ2_newBytesLength_0f7a4 15 = .ok (.if_icmp .lt 40, 3) := by decide +kernel
theorem dJ2_newBytesLength_0f7a4_18 : decode cJ2_newBytesLength_0f7a4 18 = .ok (.new 21, 3) := by decide +kernel
theorem dJ2_newBytesLength_0f7a4_21 : decode cJ2_newBytesLength_0f7a4 21 = .ok (.dup, 1) := by decide +kernel
theorem dJ2_newBytesLength_0f7a4_22 : decode cJ2_newBytesLength_0f7a4 22 = .ok (.new 23, 3) := by decide +kernel
theorem dJ2_newBytesLength_0f7a4_25 : decode cJ2_newBytesLength_0f7a4 25 = .ok (.dup, 1) := by decide +kernel
theorem dJ2_newBytesLength_0f7a4_26 : decode cJ2_newBytesLength_0f7a4 26 = .ok (.invokespecial 25, 3) := by decide +kernel
theorem dJ2_newBytesLength_0f7a4_29 : decode cJ2_newBytesLength_0f7a4 29 = .ok (.ldc 26, 2) := by decide +kernel
theorem dJ2_newBytesLength_0f7a4_31 : decode cJ2_newBytesLength_0f7a4 31 = .ok (.invokevirtual 28, 3) := by decide +kernel
theorem dJ2_newBytesLength_0f7a4_34 : decode cJ2_newBytesLength_0f7a4 34 = .ok (.iload_n 0, 1) := by decide +kernel
theorem dJ2_newBytesLength_0f7a4_35 : decode cJ2_newBytesLength_0f7a4 35 = .ok (.invokevirtual 32, 3) := by decide +kernel
theorem dJ2_newBytesLength_0f7a4_38 : decode cJ2_newBytesLength_0f7a4 38 = .ok (.ldc 35, 2) := by decide +kernel
theorem dJ2_newBytesLength_0f7a4_40 : decode cJ2_newBytesLength_0f7a4 40 = .ok (.invokevirtual 28, 3) := by decide +kernel
theorem dJ2_newBytesLength_0f7a4_43 : decode cJ2_newBytesLength_0f7a4 43 = .ok (.ldc 20, 2) := by decide +kernel
theorem dJ2_newBytesLength_0f7a4_45 : decode cJ2_newBytesLength_0f7a4 45 = .ok (.invokevirtual 32, 3) := by decide +kernel
theorem dJ2_newBytesLength_0f7a4_48 : decode cJ2_newBytesLength_0f7a4 48 = .ok (.invokevirtual 37, 3) := by decide +kernel
theorem dJ2_newBytesLength_0f7a4_51 : decode cJ2_newBytesLength_0f7a4 51 = .ok (.invokespecial 41, 3) := by decide +kernel
theorem dJ2_newBytesLength_0f7a4_54 : decode cJ2_newBytesLength_0f7a4 54 = .ok (.athrow, 1) := by decide +kernel
theorem dJ2_newBytesLength_0f7a4_55 : decode cJ2_newBytesLength_0f7a4 55 = .ok (.iload_n 0, 1) := by decide +kernel
theorem dJ2_newBytesLength_0f7a4_56 : decode cJ2_newBytesLength_0f7a4 56 = .ok (.iconst 1, 1) := by decide +kernel
theorem dJ2_newBytesLength_0f7a4_57 : decode cJ2_newBytesLength_0f7a4 57 = .ok (.ishl, 1) := by decide +kernel
theorem dJ2_newBytesLength_0f7a4_58 : decode cJ2_newBytesLength_0f7a4 58 = .ok (.ireturn, 1) := by decide +kernel
theorem dJ2_putChar_b72d1_0 : decode cJ2_putChar_b72d1 0 = .ok (.getstatic 44, 3) := by decide +kernel
theorem dJ2_putChar_b72d1_3 : decode cJ2_putChar_b72d1 3 = .ok (.ifCond .ne 25, 3) := by decide +kernel
theorem dJ2_putChar_b72d1_6 : decode cJ2_putChar_b72d1 6 = .ok (.iload_n 1, 1) := by decide +kernel
theorem dJ2_putChar_b72d1_7 : decode cJ2_putChar_b72d1 7 = .ok (.ifCond .lt 11, 3) := by decide +kernel
theorem dJ2_putChar_b72d1_10 : decode cJ2_putChar_b72d1 10 = .ok (.iload_n 1, 1) := by decide +kernel
theorem dJ2_putChar_b72d1_11 : decode cJ2_putChar_b72d1 11 = .ok (.aload_n 0, 1) := by decide +kernel
theorem dJ2_putChar_b72d1_12 : decode cJ2_putChar_b72d1 12 = .ok (.invokestatic 48, 3) := by decide +kernel
theorem dJ2_putChar_b72d1_15 : decode cJ2_putChar_b72d1 15 = .ok (.if_icmp .lt 13, 3) := by decide +kernel
theorem dJ2_putChar_b72d1_18 : decode cJ2_putChar_b72d1 18 = .ok (.new 52, 3) := by decide +kernel
theorem dJ2_putChar_b72d1_21 : decode cJ2_putChar_b72d1 21 = .ok (.dup, 1) := by decide +kernel
theorem dJ2_putChar_b72d1_22 : decode cJ2_putChar_b72d1 22 = .ok (.ldc 54, 2) := by decide +kernel
theorem dJ2_putChar_b72d1_24 : decode cJ2_putChar_b72d1 24 = .ok (.invokespecial 56, 3) := by decide +kernel
theorem dJ2_putChar_b72d1_27 : decode cJ2_putChar_b72d1 27 = .ok (.athrow, 1) := by decide +kernel
theorem dJ2_putChar_b72d1_28 : decode cJ2_putChar_b72d1 28 = .ok (.iload_n 1, 1) := by decide +kernel
theorem dJ2_putChar_b72d1_29 : decode cJ2_putChar_b72d1 29 = .ok (.iconst 1, 1) := by decide +kernel
theorem dJ2_putChar_b72d1_30 : decode cJ2_putChar_b72d1 30 = .ok (.ishl, 1) := by decide +kernel
theorem dJ2_putChar_b72d1_31 : decode cJ2_putChar_b72d1 31 = .ok (.istore_n 1, 1) := by decide +kernel
theorem dJ2_putChar_b72d1_32 : decode cJ2_putChar_b72d1 32 = .ok (.aload_n 0, 1) := by decide +kernel
theorem dJ2_putChar_b72d1_33 : decode cJ2_putChar_b72d1 33 = .ok (.iload_n 1, 1) := by decide +kernel
theorem dJ2_putChar_b72d1_34 : decode cJ2_putChar_b72d1 34 = .ok (.iinc 1 1, 3) := by decide +kernel
theorem dJ2_putChar_b72d1_37 : decode cJ2_putChar_b72d1 37 = .ok (.iload_n 2, 1) := by decide +kernel
theorem dJ2_putChar_b72d1_38 : decode cJ2_putChar_b72d1 38 = .ok (.getstatic 59, 3) := by decide +kernel
theorem dJ2_putChar_b72d1_41 : decode cJ2_putChar_b72d1 41 = .ok (.ishr, 1) := by decide +kernel
theorem dJ2_putChar_b72d1_42 : decode cJ2_putChar_b72d1 42 = .ok (.i2b, 1) := by decide +kernel
theorem dJ2_putChar_b72d1_43 : decode cJ2_putChar_b72d1 43 = .ok (.bastore, 1) := by decide +kernel
theorem dJ2_putChar_b72d1_44 : decode cJ2_putChar_b72d1 44 = .ok (.aload_n 0, 1) := by decide +kernel
theorem dJ2_putChar_b72d1_45 : decode cJ2_putChar_b72d1 45 = .ok (.iload_n 1, 1) := by decide +kernel
theorem dJ2_putChar_b72d1_46 : decode cJ2_putChar_b72d1 46 = .ok (.iload_n 2, 1) := by decide +kernel
theorem dJ2_putChar_b72d1_47 : decode cJ2_putChar_b72d1 47 = .ok (.getstatic 63, 3) := by decide +kernel
theorem dJ2_putChar_b72d1_50 : decode cJ2_putChar_b72d1 50 = .ok (.ishr, 1) := by decide +kernel
theorem dJ2_putChar_b72d1_51 : decode cJ2_putChar_b72d1 51 = .ok (.i2b, 1) := by decide +kernel
theorem dJ2_putChar_b72d1_52 : decode cJ2_putChar_b72d1 52 = .ok (.bastore, 1) := by decide +kernel
theorem dJ2_putChar_b72d1_53 : decode cJ2_putChar_b72d1 53 = .ok (.return_, 1) := by decide +kernel
theorem dJ2_getChar_3b067_0 : decode cJ2_getChar_3b067 0 = .ok (.getstatic 44, 3) := by decide +kernel
theorem dJ2_getChar_3b067_3 : decode cJ2_getChar_3b067 3 = .ok (.ifCond .ne 25, 3) := by decide +kernel
theorem dJ2_getChar_3b067_6 : decode cJ2_getChar_3b067 6 = .ok (.iload_n 1, 1) := by decide +kernel
theorem dJ2_getChar_3b067_7 : decode cJ2_getChar_3b067 7 = .ok (.ifCond .lt 11, 3) := by decide +kernel
theorem dJ2_getChar_3b067_10 : decode cJ2_getChar_3b067 10 = .ok (.iload_n 1, 1) := by decide +kernel
theorem dJ2_getChar_3b067_11 : decode cJ2_getChar_3b067 11 = .ok (.aload_n 0, 1) := by decide +kernel
theorem dJ2_getChar_3b067_12 : decode cJ2_getChar_3b067 12 = .ok (.invokestatic 48, 3) := by decide +kernel
theorem dJ2_getChar_3b067_15 : decode cJ2_getChar_3b067 15 = .ok (.if_icmp .lt 13, 3) := by decide +kernel
theorem dJ2_getChar_3b067_18 : decode cJ2_getChar_3b067 18 = .ok (.new 52, 3) := by decide +kernel
theorem dJ2_getChar_3b067_21 : decode cJ2_getChar_3b067 21 = .ok (.dup, 1) := by decide +kernel
theorem dJ2_getChar_3b067_22 : decode cJ2_getChar_3b067 22 = .ok (.ldc 54, 2) := by decide +kernel
theorem dJ2_getChar_3b067_24 : decode cJ2_getChar_3b067 24 = .ok (.invokespecial 56, 3) := by decide +kernel
theorem dJ2_getChar_3b067_27 : decode cJ2_getChar_3b067 27 = .ok (.athrow, 1) := by decide +kernel
theorem dJ2_getChar_3b067_28 : decode cJ2_getChar_3b067 28 = .ok (.iload_n 1, 1) := by decide +kernel
theorem dJ2_getChar_3b067_29 : decode cJ2_getChar_3b067 29 = .ok (.iconst 1, 1) := by decide +kernel
theorem dJ2_getChar_3b067_30 : decode cJ2_getChar_3b067 30 = .ok (.ishl, 1) := by decide +kernel
theorem dJ2_getChar_3b067_31 : decode cJ2_getChar_3b067 31 = .ok (.istore_n 1, 1) := by decide +kernel
theorem dJ2_getChar_3b067_32 : decode cJ2_getChar_3b067 32 = .ok (.aload_n 0, 1) := by decide +kernel
theorem dJ2_getChar_3b067_33 : decode cJ2_getChar_3b067 33 = .ok (.iload_n 1, 1) := by decide +kernel
theorem dJ2_getChar_3b067_34 : decode cJ2_getChar_3b067 34 = .ok (.iinc 1 1, 3) := by decide +kernel
theorem dJ2_getChar_3b067_37 : decode cJ2_getChar_3b067 37 = .ok (.baload, 1) := by decide +kernel
theorem dJ2_getChar_3b067_38 : decode cJ2_getChar_3b067 38 = .ok (.sipush 255, 3) := by decide +kernel
theorem dJ2_getChar_3b067_41 : decode cJ2_getChar_3b067 41 = .ok (.iand, 1) := by decide +kernel
theorem dJ2_getChar_3b067_42 : decode cJ2_getChar_3b067 42 = .ok (.getstatic 59, 3) := by decide +kernel
theorem dJ2_getChar_3b067_45 : decode cJ2_getChar_3b067 45 = .ok (.ishl, 1) := by decide +kernel
theorem dJ2_getChar_3b067_46 : decode cJ2_getChar_3b067 46 = .ok (.aload_n 0, 1) := by decide +kernel
theorem dJ2_getChar_3b067_47 : decode cJ2_getChar_3b067 47 = .ok (.iload_n 1, 1) := by decide +kernel
theorem dJ2_getChar_3b067_48 : decode cJ2_getChar_3b067 48 = .ok (.baload, 1) := by decide +kernel
theorem dJ2_getChar_3b067_49 : decode cJ2_getChar_3b067 49 = .ok (.sipush 255, 3) := by decide +kernel
theorem dJ2_getChar_3b067_52 : decode cJ2_getChar_3b067 52 = .ok (.iand, 1) := by decide +kernel
theorem dJ2_getChar_3b067_53 : decode cJ2_getChar_3b067 53 = .ok (.getstatic 63, 3) := by decide +kernel
theorem dJ2_getChar_3b067_56 : decode cJ2_getChar_3b067 56 = .ok (.ishl, 1) := by decide +kernel
theorem dJ2_getChar_3b067_57 : decode cJ2_getChar_3b067 57 = .ok (.ior, 1) := by decide +kernel
theorem dJ2_getChar_3b067_58 : decode cJ2_getChar_3b067 58 = .ok (.i2c, 1) := by decide +kernel
theorem dJ2_getChar_3b067_59 : decode cJ2_getChar_3b067 59 = .ok (.ireturn, 1) := by decide +kernel
theorem dJ2_length_9d52b_0 : decode cJ2_length_9d52b 0 = .ok (.aload_n 0, 1) := by decide +kernel
theorem dJ2_length_9d52b_1 : decode cJ2_length_9d52b 1 = .ok (.arraylength, 1) := by decide +kernel
theorem dJ2_length_9d52b_2 : decode cJ2_length_9d52b 2 = .ok (.iconst 1, 1) := by decide +kernel
theorem dJ2_length_9d52b_3 : decode cJ2_length_9d52b 3 = .ok (.ishr, 1) := by decide +kernel
theorem dJ2_length_9d52b_4 : decode cJ2_length_9d52b 4 = .ok (.ireturn, 1) := by decide +kernel
theorem dJ2_coderFromArrayLen_85cad_0 : decode cJ2_coderFromArrayLen_85cad 0 = .ok (.iload_n 1, 1) := by decide +kernel
theorem dJ2_coderFromArrayLen_85cad_1 : decode cJ2_coderFromArrayLen_85cad 1 = .ok (.aload_n 0, 1) := by decide +kernel
theorem dJ2_coderFromArrayLen_85cad_2 : decode cJ2_coderFromArrayLen_85cad 2 = .ok (.arraylength, 1) := by decide +kernel
theorem dJ2_coderFromArrayLen_85cad_3 : decode cJ2_coderFromArrayLen_85cad 3 = .ok (.isub, 1) := by decide +kernel
theorem dJ2_coderFromArrayLen_85cad_4 : decode cJ2_coderFromArrayLen_85cad 4 = .ok (.bipush 31, 2) := by decide +kernel
theorem dJ2_coderFromArrayLen_85cad_6 : decode cJ2_coderFromArrayLen_85cad 6 = .ok (.iushr, 1) := by decide +kernel
theorem dJ2_coderFromArrayLen_85cad_7 : decode cJ2_coderFromArrayLen_85cad 7 = .ok (.i2b, 1) := by decide +kernel
theorem dJ2_coderFromArrayLen_85cad_8 : decode cJ2_coderFromArrayLen_85cad 8 = .ok (.ireturn, 1) := by decide +kernel
theorem dJ2_compress_39247_0 : decode cJ2_compress_39247 0 = .ok (.iload_n 2, 1) := by decide +kernel
theorem dJ2_compress_39247_1 : decode cJ2_compress_39247 1 = .ok (.newarray .byte, 2) := by decide +kernel
theorem dJ2_compress_39247_3 : decode cJ2_compress_39247 3 = .ok (.astore_n 3, 1) := by decide +kernel
theorem dJ2_compress_39247_4 : decode cJ2_compress_39247 4 = .ok (.aload_n 0, 1) := by decide +kernel
theorem dJ2_compress_39247_5 : decode cJ2_compress_39247 5 = .ok (.iload_n 1, 1) := by decide +kernel
theorem dJ2_compress_39247_6 : decode cJ2_compress_39247 6 = .ok (.aload_n 3, 1) := by decide +kernel
theorem dJ2_compress_39247_7 : decode cJ2_compress_39247 7 = .ok (.iconst 0, 1) := by decide +kernel
theorem dJ2_compress_39247_8 : decode cJ2_compress_39247 8 = .ok (.iload_n 2, 1) := by decide +kernel
theorem dJ2_compress_39247_9 : decode cJ2_compress_39247 9 = .ok (.invokestatic 123, 3) := by decide +kernel
theorem dJ2_compress_39247_12 : decode cJ2_compress_39247 12 = .ok (.istore 4, 2) := by decide +kernel
theorem dJ2_compress_39247_14 : decode cJ2_compress_39247 14 = .ok (.iload 4, 2) := by decide +kernel
theorem dJ2_compress_39247_16 : decode cJ2_compress_39247 16 = .ok (.iload_n 2, 1) := by decide +kernel
theorem dJ2_compress_39247_17 : decode cJ2_compress_39247 17 = .ok (.if_icmp .eq 47, 3) := by decide +kernel
theorem dJ2_compress_39247_20 : decode cJ2_compress_39247 20 = .ok (.aload_n 0, 1) := by decide +kernel
theorem dJ2_compress_39247_21 : decode cJ2_compress_39247 21 = .ok (.iload_n 1, 1) := by decide +kernel
theorem dJ2_compress_39247_22 : decode cJ2_compress_39247 22 = .ok (.iconst 1, 1) := by decide +kernel
theorem dJ2_compress_39247_23 : decode cJ2_compress_39247 23 = .ok (.ishl, 1) := by decide +kernel
theorem dJ2_compress_39247_24 : decode cJ2_compress_39247 24 = .ok (.iload_n 1, 1) := by decide +kernel
theorem dJ2_compress_39247_25 : decode cJ2_compress_39247 25 = .ok (.iload_n 2, 1) := by decide +kernel
theorem dJ2_compress_39247_26 : decode cJ2_compress_39247 26 = .ok (.iadd, 1) := by decide +kernel
theorem dJ2_compress_39247_27 : decode cJ2_compress_39247 27 = .ok (.invokestatic 11, 3) := by decide +kernel
theorem dJ2_compress_39247_30 : decode cJ2_compress_39247 30 = .ok (.invokestatic 126, 3) := by decide +kernel
theorem dJ2_compress_39247_33 : decode cJ2_compress_39247 33 = .ok (.astore 5, 2) := by decide +kernel
theorem dJ2_compress_39247_35 : decode cJ2_compress_39247 35 = .ok (.aload 5, 2) := by decide +kernel
theorem dJ2_compress_39247_37 : decode cJ2_compress_39247 37 = .ok (.iload 4, 2) := by decide +kernel
theorem dJ2_compress_39247_39 : decode cJ2_compress_39247 39 = .ok (.invokestatic 71, 3) := by decide +kernel
theorem dJ2_compress_39247_42 : decode cJ2_compress_39247 42 = .ok (.sipush 255, 3) := by decide +kernel
theorem dJ2_compress_39247_45 : decode cJ2_compress_39247 45 = .ok (.if_icmp .gt 16, 3) := by decide +kernel
theorem dJ2_compress_39247_48 : decode cJ2_compress_39247 48 = .ok (.aload 5, 2) := by decide +kernel
theorem dJ2_compress_39247_50 : decode cJ2_compress_39247 50 = .ok (.iconst 0, 1) := by decide +kernel
theorem dJ2_compress_39247_51 : decode cJ2_compress_39247 51 = .ok (.aload_n 3, 1) := by decide +kernel
theorem dJ2_compress_39247_52 : decode cJ2_compress_39247 52 = .ok (.iconst 0, 1) := by decide +kernel
theorem dJ2_compress_39247_53 : decode cJ2_compress_39247 53 = .ok (.iload_n 2, 1) := by decide +kernel
theorem dJ2_compress_39247_54 : decode cJ2_compress_39247 54 = .ok (.invokestatic 123, 3) := by decide +kernel
theorem dJ2_compress_39247_57 : decode cJ2_compress_39247 57 = .ok (.iload_n 2, 1) := by decide +kernel
theorem dJ2_compress_39247_58 : decode cJ2_compress_39247 58 = .ok (.if_icmp .eq 6, 3) := by decide +kernel
theorem dJ2_compress_39247_61 : decode cJ2_compress_39247 61 = .ok (.aload 5, 2) := by decide +kernel
theorem dJ2_compress_39247_63 : decode cJ2_compress_39247 63 = .ok (.areturn, 1) := by decide +kernel
theorem dJ2_compress_39247_64 : decode cJ2_compress_39247 64 = .ok (.aload_n 3, 1) := by decide +kernel
theorem dJ2_compress_39247_65 : decode cJ2_compress_39247 65 = .ok (.areturn, 1) := by decide +kernel
theorem dJ2_compress_5af95_0 : decode cJ2_compress_5af95 0 = .ok (.iload_n 1, 1) := by decide +kernel
theorem dJ2_compress_5af95_1 : decode cJ2_compress_5af95 1 = .ok (.iload 4, 2) := by decide +kernel
theorem dJ2_compress_5af95_3 : decode cJ2_compress_5af95 3 = .ok (.aload_n 0, 1) := by decide +kernel
theorem dJ2_compress_5af95_4 : decode cJ2_compress_5af95 4 = .ok (.invokestatic 173, 3) := by decide +kernel
theorem dJ2_compress_5af95_7 : decode cJ2_compress_5af95 7 = .ok (.iconst 0, 1) := by decide +kernel
theorem dJ2_compress_5af95_8 : decode cJ2_compress_5af95 8 = .ok (.istore 5, 2) := by decide +kernel
theorem dJ2_compress_5af95_10 : decode cJ2_compress_5af95 10 = .ok (.iload 5, 2) := by decide +kernel
theorem dJ2_compress_5af95_12 : decode cJ2_compress_5af95 12 = .ok (.iload 4, 2) := by decide +kernel
theorem dJ2_compress_5af95_14 : decode cJ2_compress_5af95 14 = .ok (.if_icmp .ge 39, 3) := by decide +kernel
theorem dJ2_compress_5af95_17 : decode cJ2_compress_5af95 17 = .ok (.aload_n 0, 1) := by decide +kernel
theorem dJ2_compress_5af95_18 : decode cJ2_compress_5af95 18 = .ok (.iload_n 1, 1) := by decide +kernel
theorem dJ2_compress_5af95_19 : decode cJ2_compress_5af95 19 = .ok (.invokestatic 71, 3) := by decide +kernel
theorem dJ2_compress_5af95_22 : decode cJ2_compress_5af95 22 = .ok (.istore 6, 2) := by decide +kernel
theorem dJ2_compress_5af95_24 : decode cJ2_compress_5af95 24 = .ok (.iload 6, 2) := by decide +kernel
theorem dJ2_compress_5af95_26 : decode cJ2_compress_5af95 26 = .ok (.sipush 255, 3) := by decide +kernel
theorem dJ2_compress_5af95_29 : decode cJ2_compress_5af95 29 = .ok (.if_icmp .le 6, 3) := by decide +kernel
theorem dJ2_compress_5af95_32 : decode cJ2_compress_5af95 32 = .ok (.iload 5, 2) := by decide +kernel
theorem dJ2_compress_5af95_34 : decode cJ2_compress_5af95 34 = .ok (.ireturn, 1) := by decide +kernel
theorem dJ2_compress_5af95_35 : decode cJ2_compress_5af95 35 = .ok (.aload_n 2, 1) := by decide +kernel
theorem dJ2_compress_5af95_36 : decode cJ2_compress_5af95 36 = .ok (.iload_n 3, 1) := by decide +kernel
theorem dJ2_compress_5af95_37 : decode cJ2_compress_5af95 37 = .ok (.iload 6, 2) := by decide +kernel
theorem dJ2_compress_5af95_39 : decode cJ2_compress_5af95 39 = .ok (.i2b, 1) := by decide +kernel
theorem dJ2_compress_5af95_40 : decode cJ2_compress_5af95 40 = .ok (.bastore, 1) := by decide +kernel
theorem dJ2_compress_5af95_41 : decode cJ2_compress_5af95 41 = .ok (.iinc 1 1, 3) := by decide +kernel
theorem dJ2_compress_5af95_44 : decode cJ2_compress_5af95 44 = .ok (.iinc 3 1, 3) := by decide +kernel
theorem dJ2_compress_5af95_47 : decode cJ2_compress_5af95 47 = .ok (.iinc 5 1, 3) := by decide +kernel
theorem dJ2_compress_5af95_50 : decode cJ2_compress_5af95 50 = .ok (.goto (-40), 3) := by decide +kernel
theorem dJ2_compress_5af95_53 : decode cJ2_compress_5af95 53 = .ok (.iload 4, 2) := by decide +kernel
theorem dJ2_compress_5af95_55 : decode cJ2_compress_5af95 55 = .ok (.ireturn, 1) := by decide +kernel
theorem dJ2_newString_b4f7a_0 : decode cJ2_newString_b4f7a 0 = .ok (.iload_n 2, 1) := by decide +kernel
theorem dJ2_newString_b4f7a_1 : decode cJ2_newString_b4f7a 1 = .ok (.ifCond .ne 7, 3) := by decide +kernel
theorem dJ2_newString_b4f7a_4 : decode cJ2_newString_b4f7a 4 = .ok (.ldc_w 295, 3) := by decide +kernel
theorem dJ2_newString_b4f7a_7 : decode cJ2_newString_b4f7a 7 = .ok (.areturn, 1) := by decide +kernel
theorem dJ2_newString_b4f7a_8 : decode cJ2_newString_b4f7a 8 = .ok (.getstatic 251, 3) := by decide +kernel
theorem dJ2_newString_b4f7a_11 : decode cJ2_newString_b4f7a 11 = .ok (.ifCond .eq 28, 3) := by decide +kernel
theorem dJ2_newString_b4f7a_14 : decode cJ2_newString_b4f7a 14 = .ok (.aload_n 0, 1) := by decide +kernel
theorem dJ2_newString_b4f7a_15 : decode cJ2_newString_b4f7a 15 = .ok (.iload_n 1, 1) := by decide +kernel
theorem dJ2_newString_b4f7a_16 : decode cJ2_newString_b4f7a 16 = .ok (.iload_n 2, 1) := by decide +kernel
theorem dJ2_newString_b4f7a_17 : decode cJ2_newString_b4f7a 17 = .ok (.invokestatic 257, 3) := by decide +kernel
theorem dJ2_newString_b4f7a_20 : decode cJ2_newString_b4f7a 20 = .ok (.astore_n 3, 1) := by decide +kernel
theorem dJ2_newString_b4f7a_21 : decode cJ2_newString_b4f7a 21 = .ok (.aload_n 3, 1) := by decide +kernel
theorem dJ2_newString_b4f7a_22 : decode cJ2_newString_b4f7a 22 = .ok (.iload_n 2, 1) := by decide +kernel
theorem dJ2_newString_b4f7a_23 : decode cJ2_newString_b4f7a 23 = .ok (.invokestatic 259, 3) := by decide +kernel
theorem dJ2_newString_b4f7a_26 : decode cJ2_newString_b4f7a 26 = .ok (.istore 4, 2) := by decide +kernel
theorem dJ2_newString_b4f7a_28 : decode cJ2_newString_b4f7a 28 = .ok (.new 3, 3) := by decide +kernel
theorem dJ2_newString_b4f7a_31 : decode cJ2_newString_b4f7a 31 = .ok (.dup, 1) := by decide +kernel
theorem dJ2_newString_b4f7a_32 : decode cJ2_newString_b4f7a 32 = .ok (.aload_n 3, 1) := by decide +kernel
theorem dJ2_newString_b4f7a_33 : decode cJ2_newString_b4f7a 33 = .ok (.iload 4, 2) := by decide +kernel
theorem dJ2_newString_b4f7a_35 : decode cJ2_newString_b4f7a 35 = .ok (.invokespecial 263, 3) := by decide +kernel
theorem dJ2_newString_b4f7a_38 : decode cJ2_newString_b4f7a 38 = .ok (.areturn, 1) := by decide +kernel
theorem dJ2_newString_b4f7a_39 : decode cJ2_newString_b4f7a 39 = .ok (.iload_n 1, 1) := by decide +kernel
theorem dJ2_newString_b4f7a_40 : decode cJ2_newString_b4f7a 40 = .ok (.iload_n 2, 1) := by decide +kernel
theorem dJ2_newString_b4f7a_41 : decode cJ2_newString_b4f7a 41 = .ok (.iadd, 1) := by decide +kernel
theorem dJ2_newString_b4f7a_42 : decode cJ2_newString_b4f7a 42 = .ok (.istore_n 3, 1) := by decide +kernel
theorem dJ2_newString_b4f7a_43 : decode cJ2_newString_b4f7a 43 = .ok (.new 3, 3) := by decide +kernel
theorem dJ2_newString_b4f7a_46 : decode cJ2_newString_b4f7a 46 = .ok (.dup, 1) := by decide +kernel
theorem dJ2_newString_b4f7a_47 : decode cJ2_newString_b4f7a 47 = .ok (.aload_n 0, 1) := by decide +kernel
theorem dJ2_newString_b4f7a_48 : decode cJ2_newString_b4f7a 48 = .ok (.iload_n 1, 1) := by decide +kernel
theorem dJ2_newString_b4f7a_49 : decode cJ2_newString_b4f7a 49 = .ok (.iconst 1, 1) := by decide +kernel
theorem dJ2_newString_b4f7a_50 : decode cJ2_newString_b4f7a 50 = .ok (.ishl, 1) := by decide +kernel
theorem dJ2_newString_b4f7a_51 : decode cJ2_newString_b4f7a 51 = .ok (.iload_n 3, 1) := by decide +kernel
theorem dJ2_newString_b4f7a_52 : decode cJ2_newString_b4f7a 52 = .ok (.iconst 1, 1) := by decide +kernel
theorem dJ2_newString_b4f7a_53 : decode cJ2_newString_b4f7a 53 = .ok (.ishl, 1) := by decide +kernel
theorem dJ2_newString_b4f7a_54 : decode cJ2_newString_b4f7a 54 = .ok (.invokestatic 126, 3) := by decide +kernel
theorem dJ2_newString_b4f7a_57 : decode cJ2_newString_b4f7a 57 = .ok (.iconst 1, 1) := by decide +kernel
theorem dJ2_newString_b4f7a_58 : decode cJ2_newString_b4f7a 58 = .ok (.invokespecial 263, 3) := by decide +kernel
theorem dJ2_newString_b4f7a_61 : decode cJ2_newString_b4f7a 61 = .ok (.areturn, 1) := by decide +kernel
theorem dJ2_getChars_46870_0 : decode cJ2_getChars_46870 0 = .ok (.iload_n 1, 1) := by decide +kernel
theorem dJ2_getChars_46870_1 : decode cJ2_getChars_46870 1 = .ok (.iload_n 2, 1) := by decide +kernel
theorem dJ2_getChars_46870_2 : decode cJ2_getChars_46870 2 = .ok (.aload_n 3, 1) := by decide +kernel
theorem dJ2_getChars_46870_3 : decode cJ2_getChars_46870 3 = .ok (.invokestatic 96, 3) := by decide +kernel
theorem dJ2_getChars_46870_6 : decode cJ2_getChars_46870 6 = .ok (.iload_n 0, 1) := by decide +kernel
theorem dJ2_getChars_46870_7 : decode cJ2_getChars_46870 7 = .ok (.iload_n 2, 1) := by decide +kernel
theorem dJ2_getChars_46870_8 : decode cJ2_getChars_46870 8 = .ok (.aload_n 3, 1) := by decide +kernel
theorem dJ2_getChars_46870_9 : decode cJ2_getChars_46870 9 = .ok (.invokestatic 393, 3) := by decide +kernel
theorem dJ2_getChars_46870_12 : decode cJ2_getChars_46870 12 = .ok (.istore 4, 2) := by decide +kernel
theorem dJ2_getChars_46870_14 : decode cJ2_getChars_46870 14 = .ok (.getstatic 44, 3) := by decide +kernel
theorem dJ2_getChars_46870_17 : decode cJ2_getChars_46870 17 = .ok (.ifCond .ne 17, 3) := by decide +kernel
theorem dJ2_getChars_46870_20 : decode cJ2_getChars_46870 20 = .ok (.iload_n 1, 1) := by decide +kernel
theorem dJ2_getChars_46870_21 : decode cJ2_getChars_46870 21 = .ok (.iload 4, 2) := by decide +kernel
theorem dJ2_getChars_46870_23 : decode cJ2_getChars_46870 23 = .ok (.if_icmp .eq 11, 3) := by decide +kernel
theorem dJ2_getChars_46870_26 : decode cJ2_getChars_46870 26 = .ok (.new 52, 3) := by decide +kernel
theorem dJ2_getChars_46870_29 : decode cJ2_getChars_46870 29 = .ok (.dup, 1) := by decide +kernel
theorem dJ2_getChars_46870_30 : decode cJ2_getChars_46870 30 = .ok (.invokespecial 66, 3) := by decide +kernel
theorem dJ2_getChars_46870_33 : decode cJ2_getChars_46870 33 = .ok (.athrow, 1) := by decide +kernel
theorem dJ2_getChars_46870_34 : decode cJ2_getChars_46870 34 = .ok (.iload 4, 2) := by decide +kernel
theorem dJ2_getChars_46870_36 : decode cJ2_getChars_46870 36 = .ok (.ireturn, 1) := by decide +kernel
theorem dJ2_putCharsAt_cd4e5_0 : decode cJ2_putCharsAt_cd4e5 0 = .ok (.iload_n 1, 1) := by decide +kernel
theorem dJ2_putCharsAt_cd4e5_1 : decode cJ2_putCharsAt_cd4e5 1 = .ok (.iconst 4, 1) := by decide +kernel
theorem dJ2_putCharsAt_cd4e5_2 : decode cJ2_putCharsAt_cd4e5 2 = .ok (.iadd, 1) := by decide +kernel
theorem dJ2_putCharsAt_cd4e5_3 : decode cJ2_putCharsAt_cd4e5 3 = .ok (.istore 6, 2) := by decide +kernel
theorem dJ2_putCharsAt_cd4e5_5 : decode cJ2_putCharsAt_cd4e5 5 = .ok (.iload_n 1, 1) := by decide +kernel
theorem dJ2_putCharsAt_cd4e5_6 : decode cJ2_putCharsAt_cd4e5 6 = .ok (.iload 6, 2) := by decide +kernel
theorem dJ2_putCharsAt_cd4e5_8 : decode cJ2_putCharsAt_cd4e5 8 = .ok (.aload_n 0, 1) := by decide +kernel
theorem dJ2_putCharsAt_cd4e5_9 : decode cJ2_putCharsAt_cd4e5 9 = .ok (.invokestatic 96, 3) := by decide +kernel
theorem dJ2_putCharsAt_cd4e5_12 : decode cJ2_putCharsAt_cd4e5 12 = .ok (.aload_n 0, 1) := by decide +kernel
theorem dJ2_putCharsAt_cd4e5_13 : decode cJ2_putCharsAt_cd4e5 13 = .ok (.iload_n 1, 1) := by decide +kernel
theorem dJ2_putCharsAt_cd4e5_14 : decode cJ2_putCharsAt_cd4e5 14 = .ok (.iinc 1 1, 3) := by decide +kernel
theorem dJ2_putCharsAt_cd4e5_17 : decode cJ2_putCharsAt_cd4e5 17 = .ok (.iload_n 2, 1) := by decide +kernel
theorem dJ2_putCharsAt_cd4e5_18 : decode cJ2_putCharsAt_cd4e5 18 = .ok (.invokestatic 111, 3) := by decide +kernel
theorem dJ2_putCharsAt_cd4e5_21 : decode cJ2_putCharsAt_cd4e5 21 = .ok (.aload_n 0, 1) := by decide +kernel
theorem dJ2_putCharsAt_cd4e5_22 : decode cJ2_putCharsAt_cd4e5 22 = .ok (.iload_n 1, 1) := by decide +kernel
theorem dJ2_putCharsAt_cd4e5_23 : decode cJ2_putCharsAt_cd4e5 23 = .ok (.iinc 1 1, 3) := by decide +kernel
theorem dJ2_putCharsAt_cd4e5_26 : decode cJ2_putCharsAt_cd4e5 26 = .ok (.iload_n 3, 1) := by decide +kernel
theorem dJ2_putCharsAt_cd4e5_27 : decode cJ2_putCharsAt_cd4e5 27 = .ok (.invokestatic 111, 3) := by decide +kernel
theorem dJ2_putCharsAt_cd4e5_30 : decode cJ2_putCharsAt_cd4e5 30 = .ok (.aload_n 0, 1) := by decide +kernel
theorem dJ2_putCharsAt_cd4e5_31 : decode cJ2_putCharsAt_cd4e5 31 = .ok (.iload_n 1, 1) := by decide +kernel
theorem dJ2_putCharsAt_cd4e5_32 : decode cJ2_putCharsAt_cd4e5 32 = .ok (.iinc 1 1, 3) := by decide +kernel
theorem dJ2_putCharsAt_cd4e5_35 : decode cJ2_putCharsAt_cd4e5 35 = .ok (.iload 4, 2) := by decide +kernel
theorem dJ2_putCharsAt_cd4e5_37 : decode cJ2_putCharsAt_cd4e5 37 = .ok (.invokestatic 111, 3) := by decide +kernel
theorem dJ2_putCharsAt_cd4e5_40 : decode cJ2_putCharsAt_cd4e5 40 = .ok (.aload_n 0, 1) := by decide +kernel
theorem dJ2_putCharsAt_cd4e5_41 : decode cJ2_putCharsAt_cd4e5 41 = .ok (.iload_n 1, 1) := by decide +kernel
theorem dJ2_putCharsAt_cd4e5_42 : decode cJ2_putCharsAt_cd4e5 42 = .ok (.iinc 1 1, 3) := by decide +kernel
theorem dJ2_putCharsAt_cd4e5_45 : decode cJ2_putCharsAt_cd4e5 45 = .ok (.iload 5, 2) := by decide +kernel
theorem dJ2_putCharsAt_cd4e5_47 : decode cJ2_putCharsAt_cd4e5 47 = .ok (.invokestatic 111, 3) := by decide +kernel
theorem dJ2_putCharsAt_cd4e5_50 : decode cJ2_putCharsAt_cd4e5 50 = .ok (.getstatic 44, 3) := by decide +kernel
theorem dJ2_putCharsAt_cd4e5_53 : decode cJ2_putCharsAt_cd4e5 53 = .ok (.ifCond .ne 17, 3) := by decide +kernel
theorem dJ2_putCharsAt_cd4e5_56 : decode cJ2_putCharsAt_cd4e5 56 = .ok (.iload_n 1, 1) := by decide +kernel
theorem dJ2_putCharsAt_cd4e5_57 : decode cJ2_putCharsAt_cd4e5 57 = .ok (.iload 6, 2) := by decide +kernel
theorem dJ2_putCharsAt_cd4e5_59 : decode cJ2_putCharsAt_cd4e5 59 = .ok (.if_icmp .eq 11, 3) := by decide +kernel
theorem dJ2_putCharsAt_cd4e5_62 : decode cJ2_putCharsAt_cd4e5 62 = .ok (.new 52, 3) := by decide +kernel
theorem dJ2_putCharsAt_cd4e5_65 : decode cJ2_putCharsAt_cd4e5 65 = .ok (.dup, 1) := by decide +kernel
theorem dJ2_putCharsAt_cd4e5_66 : decode cJ2_putCharsAt_cd4e5 66 = .ok (.invokespecial 66, 3) := by decide +kernel
theorem dJ2_putCharsAt_cd4e5_69 : decode cJ2_putCharsAt_cd4e5 69 = .ok (.athrow, 1) := by decide +kernel
theorem dJ2_putCharsAt_cd4e5_70 : decode cJ2_putCharsAt_cd4e5 70 = .ok (.iload 6, 2) := by decide +kernel
theorem dJ2_putCharsAt_cd4e5_72 : decode cJ2_putCharsAt_cd4e5 72 = .ok (.ireturn, 1) := by decide +kernel
theorem dJ2_charAt_3b067_0 : decode cJ2_charAt_3b067 0 = .ok (.iload_n 1, 1) := by decide +kernel
theorem dJ2_charAt_3b067_1 : decode cJ2_charAt_3b067 1 = .ok (.aload_n 0, 1) := by decide +kernel
theorem dJ2_charAt_3b067_2 : decode cJ2_charAt_3b067 2 = .ok (.invokestatic 67, 3) := by decide +kernel
theorem dJ2_charAt_3b067_5 : decode cJ2_charAt_3b067 5 = .ok (.aload_n 0, 1) := by decide +kernel
theorem dJ2_charAt_3b067_6 : decode cJ2_charAt_3b067 6 = .ok (.iload_n 1, 1) := by decide +kernel
theorem dJ2_charAt_3b067_7 : decode cJ2_charAt_3b067 7 = .ok (.invokestatic 71, 3) := by decide +kernel
theorem dJ2_charAt_3b067_10 : decode cJ2_charAt_3b067 10 = .ok (.ireturn, 1) := by decide +kernel
theorem dJ2_inflate_0e8fd_0 : decode cJ2_inflate_0e8fd 0 = .ok (.iload_n 3, 1) := by decide +kernel
theorem dJ2_inflate_0e8fd_1 : decode cJ2_inflate_0e8fd 1 = .ok (.iload 4, 2) := by decide +kernel
theorem dJ2_inflate_0e8fd_3 : decode cJ2_inflate_0e8fd 3 = .ok (.aload_n 2, 1) := by decide +kernel
theorem dJ2_inflate_0e8fd_4 : decode cJ2_inflate_0e8fd 4 = .ok (.invokestatic 173, 3) := by decide +kernel
theorem dJ2_inflate_0e8fd_7 : decode cJ2_inflate_0e8fd 7 = .ok (.iconst 0, 1) := by decide +kernel
theorem dJ2_inflate_0e8fd_8 : decode cJ2_inflate_0e8fd 8 = .ok (.istore 5, 2) := by decide +kernel
theorem dJ2_inflate_0e8fd_10 : decode cJ2_inflate_0e8fd 10 = .ok (.iload 5, 2) := by decide +kernel
theorem dJ2_inflate_0e8fd_12 : decode cJ2_inflate_0e8fd 12 = .ok (.iload 4, 2) := by decide +kernel
theorem dJ2_inflate_0e8fd_14 : decode cJ2_inflate_0e8fd 14 = .ok (.if_icmp .ge 27, 3) := by decide +kernel
theorem dJ2_inflate_0e8fd_17 : decode cJ2_inflate_0e8fd 17 = .ok (.aload_n 2, 1) := by decide +kernel
theorem dJ2_inflate_0e8fd_18 : decode cJ2_inflate_0e8fd 18 = .ok (.iload_n 3, 1) := by decide +kernel
theorem dJ2_inflate_0e8fd_19 : decode cJ2_inflate_0e8fd 19 = .ok (.iinc 3 1, 3) := by decide +kernel
theorem dJ2_inflate_0e8fd_22 : decode cJ2_inflate_0e8fd 22 = .ok (.aload_n 0, 1) := by decide +kernel
theorem dJ2_inflate_0e8fd_23 : decode cJ2_inflate_0e8fd 23 = .ok (.iload_n 1, 1) := by decide +kernel
theorem dJ2_inflate_0e8fd_24 : decode cJ2_inflate_0e8fd 24 = .ok (.iinc 1 1, 3) := by decide +kernel
theorem dJ2_inflate_0e8fd_27 : decode cJ2_inflate_0e8fd 27 = .ok (.baload, 1) := by decide +kernel
theorem dJ2_inflate_0e8fd_28 : decode cJ2_inflate_0e8fd 28 = .ok (.sipush 255, 3) := by decide +kernel
theorem dJ2_inflate_0e8fd_31 : decode cJ2_inflate_0e8fd 31 = .ok (.iand, 1) := by decide +kernel
theorem dJ2_inflate_0e8fd_32 : decode cJ2_inflate_0e8fd 32 = .ok (.invokestatic 111, 3) := by decide +kernel
theorem dJ2_inflate_0e8fd_35 : decode cJ2_inflate_0e8fd 35 = .ok (.iinc 5 1, 3) := by decide +kernel
theorem dJ2_inflate_0e8fd_38 : decode cJ2_inflate_0e8fd 38 = .ok (.goto (-28), 3) := by decide +kernel
theorem dJ2_inflate_0e8fd_41 : decode cJ2_inflate_0e8fd 41 = .ok (.return_, 1) := by decide +kernel
theorem dJ2_getChars_ba4f3_0 : decode cJ2_getChars_ba4f3 0 = .ok (.iload_n 1, 1) := by decide +kernel
theorem dJ2_getChars_ba4f3_1 : decode cJ2_getChars_ba4f3 1 = .ok (.istore 5, 2) := by decide +kernel
theorem dJ2_getChars_ba4f3_3 : decode cJ2_getChars_ba4f3 3 = .ok (.iload_n 0, 1) := by decide +kernel
theorem dJ2_getChars_ba4f3_4 : decode cJ2_getChars_ba4f3 4 = .ok (.ifCond .ge 7, 3) := by decide +kernel
theorem dJ2_getChars_ba4f3_7 : decode cJ2_getChars_ba4f3 7 = .ok (.iconst 1, 1) := by decide +kernel
theorem dJ2_getChars_ba4f3_8 : decode cJ2_getChars_ba4f3 8 = .ok (.goto 4, 3) := by decide +kernel
theorem dJ2_getChars_ba4f3_11 : decode cJ2_getChars_ba4f3 11 = .ok (.iconst 0, 1) := by decide +kernel
theorem dJ2_getChars_ba4f3_12 : decode cJ2_getChars_ba4f3 12 = .ok (.istore 6, 2) := by decide +kernel
theorem dJ2_getChars_ba4f3_14 : decode cJ2_getChars_ba4f3 14 = .ok (.iload 6, 2) := by decide +kernel
theorem dJ2_getChars_ba4f3_16 : decode cJ2_getChars_ba4f3 16 = .ok (.ifCond .ne 6, 3) := by decide +kernel
theorem dJ2_getChars_ba4f3_19 : decode cJ2_getChars_ba4f3 19 = .ok (.iload_n 0, 1) := by decide +kernel
theorem dJ2_getChars_ba4f3_20 : decode cJ2_getChars_ba4f3 20 = .ok (.ineg, 1) := by decide +kernel
theorem dJ2_getChars_ba4f3_21 : decode cJ2_getChars_ba4f3 21 = .ok (.istore_n 0, 1) := by decide +kernel
theorem dJ2_getChars_ba4f3_22 : decode cJ2_getChars_ba4f3 22 = .ok (.iload_n 0, 1) := by decide +kernel
theorem dJ2_getChars_ba4f3_23 : decode cJ2_getChars_ba4f3 23 = .ok (.bipush (-100), 2) := by decide +kernel
theorem dJ2_getChars_ba4f3_25 : decode cJ2_getChars_ba4f3 25 = .ok (.if_icmp .gt 51, 3) := by decide +kernel
theorem dJ2_getChars_ba4f3_28 : decode cJ2_getChars_ba4f3 28 = .ok (.iload_n 0, 1) := by decide +kernel
theorem dJ2_getChars_ba4f3_29 : decode cJ2_getChars_ba4f3 29 = .ok (.bipush 100, 2) := by decide +kernel
theorem dJ2_getChars_ba4f3_31 : decode cJ2_getChars_ba4f3 31 = .ok (.idiv, 1) := by decide +kernel
theorem dJ2_getChars_ba4f3_32 : decode cJ2_getChars_ba4f3 32 = .ok (.istore_n 3, 1) := by decide +kernel
theorem dJ2_getChars_ba4f3_33 : decode cJ2_getChars_ba4f3 33 = .ok (.iload_n 3, 1) := by decide +kernel
theorem dJ2_getChars_ba4f3_34 : decode cJ2_getChars_ba4f3 34 = .ok (.bipush 100, 2) := by decide +kernel
theorem dJ2_getChars_ba4f3_36 : decode cJ2_getChars_ba4f3 36 = .ok (.imul, 1) := by decide +kernel
theorem dJ2_getChars_ba4f3_37 : decode cJ2_getChars_ba4f3 37 = .ok (.iload_n 0, 1) := by decide +kernel
theorem dJ2_getChars_ba4f3_38 : decode cJ2_getChars_ba4f3 38 = .ok (.isub, 1) := by decide +kernel
theorem dJ2_getChars_ba4f3_39 : decode cJ2_getChars_ba4f3 39 = .ok (.istore 4, 2) := by decide +kernel
theorem dJ2_getChars_ba4f3_41 : decode cJ2_getChars_ba4f3 41 = .ok (.iload_n 3, 1) := by decide +kernel
theorem dJ2_getChars_ba4f3_42 : decode cJ2_getChars_ba4f3 42 = .ok (.istore_n 0, 1) := by decide +kernel
theorem dJ2_getChars_ba4f3_43 : decode cJ2_getChars_ba4f3 43 = .ok (.aload_n 2, 1) := by decide +kernel
theorem dJ2_getChars_ba4f3_44 : decode cJ2_getChars_ba4f3 44 = .ok (.iinc 5 (-1), 3) := by decide +kernel
theorem dJ2_getChars_ba4f3_47 : decode cJ2_getChars_ba4f3 47 = .ok (.iload 5, 2) := by decide +kernel
theorem dJ2_getChars_ba4f3_49 : decode cJ2_getChars_ba4f3 49 = .ok (.getstatic 403, 3) := by decide +kernel
theorem dJ2_getChars_ba4f3_52 : decode cJ2_getChars_ba4f3 52 = .ok (.iload 4, 2) := by decide +kernel
theorem dJ2_getChars_ba4f3_54 : decode cJ2_getChars_ba4f3 54 = .ok (.baload, 1) := by decide +kernel
theorem dJ2_getChars_ba4f3_55 : decode cJ2_getChars_ba4f3 55 = .ok (.invokestatic 111, 3) := by decide +kernel
theorem dJ2_getChars_ba4f3_58 : decode cJ2_getChars_ba4f3 58 = .ok (.aload_n 2, 1) := by decide +kernel
theorem dJ2_getChars_ba4f3_59 : decode cJ2_getChars_ba4f3 59 = .ok (.iinc 5 (-1), 3) := by decide +kernel
theorem dJ2_getChars_ba4f3_62 : decode cJ2_getChars_ba4f3 62 = .ok (.iload 5, 2) := by decide +kernel
theorem dJ2_getChars_ba4f3_64 : decode cJ2_getChars_ba4f3 64 = .ok (.getstatic 407, 3) := by decide +kernel
theorem dJ2_getChars_ba4f3_67 : decode cJ2_getChars_ba4f3 67 = .ok (.iload 4, 2) := by decide +kernel
theorem dJ2_getChars_ba4f3_69 : decode cJ2_getChars_ba4f3 69 = .ok (.baload, 1) := by decide +kernel
theorem dJ2_getChars_ba4f3_70 : decode cJ2_getChars_ba4f3 70 = .ok (.invokestatic 111, 3) := by decide +kernel
theorem dJ2_getChars_ba4f3_73 : decode cJ2_getChars_ba4f3 73 = .ok (.goto (-51), 3) := by decide +kernel
theorem dJ2_getChars_ba4f3_76 : decode cJ2_getChars_ba4f3 76 = .ok (.aload_n 2, 1) := by decide +kernel
theorem dJ2_getChars_ba4f3_77 : decode cJ2_getChars_ba4f3 77 = .ok (.iinc 5 (-1), 3) := by decide +kernel
theorem dJ2_getChars_ba4f3_80 : decode cJ2_getChars_ba4f3 80 = .ok (.iload 5, 2) := by decide +kernel
theorem dJ2_getChars_ba4f3_82 : decode cJ2_getChars_ba4f3 82 = .ok (.getstatic 403, 3) := by decide +kernel
theorem dJ2_getChars_ba4f3_85 : decode cJ2_getChars_ba4f3 85 = .ok (.iload_n 0, 1) := by decide +kernel
theorem dJ2_getChars_ba4f3_86 : decode cJ2_getChars_ba4f3 86 = .ok (.ineg, 1) := by decide +kernel
theorem dJ2_getChars_ba4f3_87 : decode cJ2_getChars_ba4f3 87 = .ok (.baload, 1) := by decide +kernel
theorem dJ2_getChars_ba4f3_88 : decode cJ2_getChars_ba4f3 88 = .ok (.invokestatic 111, 3) := by decide +kernel
theorem dJ2_getChars_ba4f3_91 : decode cJ2_getChars_ba4f3 91 = .ok (.iload_n 0, 1) := by decide +kernel
theorem dJ2_getChars_ba4f3_92 : decode cJ2_getChars_ba4f3 92 = .ok (.bipush (-9), 2) := by decide +kernel
theorem dJ2_getChars_ba4f3_94 : decode cJ2_getChars_ba4f3 94 = .ok (.if_icmp .ge 18, 3) := by decide +kernel
theorem dJ2_getChars_ba4f3_97 : decode cJ2_getChars_ba4f3 97 = .ok (.aload_n 2, 1) := by decide +kernel
theorem dJ2_getChars_ba4f3_98 : decode cJ2_getChars_ba4f3 98 = .ok (.iinc 5 (-1), 3) := by decide +kernel
theorem dJ2_getChars_ba4f3_101 : decode cJ2_getChars_ba4f3 101 = .ok (.iload 5, 2) := by decide +kernel
theorem dJ2_getChars_ba4f3_103 : decode cJ2_getChars_ba4f3 103 = .ok (.getstatic 407, 3) := by decide +kernel
theorem dJ2_getChars_ba4f3_106 : decode cJ2_getChars_ba4f3 106 = .ok (.iload_n 0, 1) := by decide +kernel
theorem dJ2_getChars_ba4f3_107 : decode cJ2_getChars_ba4f3 107 = .ok (.ineg, 1) := by decide +kernel
theorem dJ2_getChars_ba4f3_108 : decode cJ2_getChars_ba4f3 108 = .ok (.baload, 1) := by decide +kernel
theorem dJ2_getChars_ba4f3_109 : decode cJ2_getChars_ba4f3 109 = .ok (.invokestatic 111, 3) := by decide +kernel
theorem dJ2_getChars_ba4f3_112 : decode cJ2_getChars_ba4f3 112 = .ok (.iload 6, 2) := by decide +kernel
theorem dJ2_getChars_ba4f3_114 : decode cJ2_getChars_ba4f3 114 = .ok (.ifCond .eq 14, 3) := by decide +kernel
theorem dJ2_getChars_ba4f3_117 : decode cJ2_getChars_ba4f3 117 = .ok (.aload_n 2, 1) := by decide +kernel
theorem dJ2_getChars_ba4f3_118 : decode cJ2_getChars_ba4f3 118 = .ok (.iinc 5 (-1), 3) := by decide +kernel
theorem dJ2_getChars_ba4f3_121 : decode cJ2_getChars_ba4f3 121 = .ok (.iload 5, 2) := by decide +kernel
theorem dJ2_getChars_ba4f3_123 : decode cJ2_getChars_ba4f3 123 = .ok (.bipush 45, 2) := by decide +kernel
theorem dJ2_getChars_ba4f3_125 : decode cJ2_getChars_ba4f3 125 = .ok (.invokestatic 111, 3) := by decide +kernel
theorem dJ2_getChars_ba4f3_128 : decode cJ2_getChars_ba4f3 128 = .ok (.iload 5, 2) := by decide +kernel
theorem dJ2_getChars_ba4f3_130 : decode cJ2_getChars_ba4f3 130 = .ok (.ireturn, 1) := by decide +kernel
theorem dJ2_checkIndex_2214a_0 : decode cJ2_checkIndex_2214a 0 = .ok (.iload_n 0, 1) := by decide +kernel
theorem dJ2_checkIndex_2214a_1 : decode cJ2_checkIndex_2214a 1 = .ok (.aload_n 1, 1) := by decide +kernel
theorem dJ2_checkIndex_2214a_2 : decode cJ2_checkIndex_2214a 2 = .ok (.invokestatic 48, 3) := by decide +kernel
theorem dJ2_checkIndex_2214a_5 : decode cJ2_checkIndex_2214a 5 = .ok (.invokestatic 414, 3) := by decide +kernel
theorem dJ2_checkIndex_2214a_8 : decode cJ2_checkIndex_2214a 8 = .ok (.return_, 1) := by decide +kernel
theorem dJ2_checkBoundsBeginEnd_d044e_0 : decode cJ2_checkBoundsBeginEnd_d044e 0 = .ok (.iload_n 0, 1) := by decide +kernel
theorem dJ2_checkBoundsBeginEnd_d044e_1 : decode cJ2_checkBoundsBeginEnd_d044e 1 = .ok (.iload_n 1, 1) := by decide +kernel
theorem dJ2_checkBoundsBeginEnd_d044e_2 : decode cJ2_checkBoundsBeginEnd_d044e 2 = .ok (.aload_n 2, 1) := by decide +kernel
theorem dJ2_checkBoundsBeginEnd_d044e_3 : decode cJ2_checkBoundsBeginEnd_d044e 3 = .ok (.invokestatic 48, 3) := by decide +kernel
theorem dJ2_checkBoundsBeginEnd_d044e_6 : decode cJ2_checkBoundsBeginEnd_d044e 6 = .ok (.invokestatic 241, 3) := by decide +kernel
theorem dJ2_checkBoundsBeginEnd_d044e_9 : decode cJ2_checkBoundsBeginEnd_d044e 9 = .ok (.return_, 1) := by decide +kernel
theorem dJ2_checkBoundsOffCount_d044e_0 : decode cJ2_checkBoundsOffCount_d044e 0 = .ok (.iload_n 0, 1) := by decide +kernel
theorem dJ2_checkBoundsOffCount_d044e_1 : decode cJ2_checkBoundsOffCount_d044e 1 = .ok (.iload_n 1, 1) := by decide +kernel
theorem dJ2_checkBoundsOffCount_d044e_2 : decode cJ2_checkBoundsOffCount_d044e 2 = .ok (.aload_n 2, 1) := by decide +kernel
theorem dJ2_checkBoundsOffCount_d044e_3 : decode cJ2_checkBoundsOffCount_d044e 3 = .ok (.invokestatic 48, 3) := by decide +kernel
theorem dJ2_checkBoundsOffCount_d044e_6 : decode cJ2_checkBoundsOffCount_d044e 6 = .ok (.invokestatic 419, 3) := by decide +kernel
theorem dJ2_checkBoundsOffCount_d044e_9 : decode cJ2_checkBoundsOffCount_d044e 9 = .ok (.pop, 1) := by decide +kernel
theorem dJ2_checkBoundsOffCount_d044e_10 : decode cJ2_checkBoundsOffCount_d044e 10 = .ok (.return_, 1) := by decide +kernel
theorem dJ7_copyOf_9075b_0 : decode cJ7_copyOf_9075b 0 = .ok (.iload_n 1, 1) := by decide +kernel
theorem dJ7_copyOf_9075b_1 : decode cJ7_copyOf_9075b 1 = .ok (.aload_n 0, 1) := by decide +kernel
theorem dJ7_copyOf_9075b_2 : decode cJ7_copyOf_9075b 2 = .ok (.arraylength, 1) := by decide +kernel
theorem dJ7_copyOf_9075b_3 : decode cJ7_copyOf_9075b 3 = .ok (.if_icmp .ne 11, 3) := by decide +kernel
theorem dJ7_copyOf_9075b_6 : decode cJ7_copyOf_9075b 6 = .ok (.aload_n 0, 1) := by decide +kernel
theorem dJ7_copyOf_9075b_7 : decode cJ7_copyOf_9075b 7 = .ok (.invokevirtual 310, 3) := by decide +kernel
theorem dJ7_copyOf_9075b_10 : decode cJ7_copyOf_9075b 10 = .ok (.checkcast 311, 3) := by decide +kernel
theorem dJ7_copyOf_9075b_13 : decode cJ7_copyOf_9075b 13 = .ok (.areturn, 1) := by decide +kernel
theorem dJ7_copyOf_9075b_14 : decode cJ7_copyOf_9075b 14 = .ok (.iload_n 1, 1) := by decide +kernel
theorem dJ7_copyOf_9075b_15 : decode cJ7_copyOf_9075b 15 = .ok (.newarray .byte, 2) := by decide +kernel
theorem dJ7_copyOf_9075b_17 : decode cJ7_copyOf_9075b 17 = .ok (.astore_n 2, 1) := by decide +kernel
theorem dJ7_copyOf_9075b_18 : decode cJ7_copyOf_9075b 18 = .ok (.aload_n 0, 1) := by decide +kernel
theorem dJ7_copyOf_9075b_19 : decode cJ7_copyOf_9075b 19 = .ok (.iconst 0, 1) := by decide +kernel
theorem dJ7_copyOf_9075b_20 : decode cJ7_copyOf_9075b 20 = .ok (.aload_n 2, 1) := by decide +kernel
theorem dJ7_copyOf_9075b_21 : decode cJ7_copyOf_9075b 21 = .ok (.iconst 0, 1) := by decide +kernel
theorem dJ7_copyOf_9075b_22 : decode cJ7_copyOf_9075b 22 = .ok (.aload_n 0, 1) := by decide +kernel
theorem dJ7_copyOf_9075b_23 : decode cJ7_copyOf_9075b 23 = .ok (.arraylength, 1) := by decide +kernel
theorem dJ7_copyOf_9075b_24 : decode cJ7_copyOf_9075b 24 = .ok (.iload_n 1, 1) := by decide +kernel
theorem dJ7_copyOf_9075b_25 : decode cJ7_copyOf_9075b 25 = .ok (.invokestatic 304, 3) := by decide +kernel
theorem dJ7_copyOf_9075b_28 : decode cJ7_copyOf_9075b 28 = .ok (.invokestatic 150, 3) := by decide +kernel
theorem dJ7_copyOf_9075b_31 : decode cJ7_copyOf_9075b 31 = .ok (.aload_n 2, 1) := by decide +kernel
theorem dJ7_copyOf_9075b_32 : decode cJ7_copyOf_9075b 32 = .ok (.areturn, 1) := by decide +kernel
theorem dJ7_checkLength_df160_0 : decode cJ7_checkLength_df160 0 = .ok (.iload_n 1, 1) := by decide +kernel
theorem dJ7_checkLength_df160_1 : decode cJ7_checkLength_df160 1 = .ok (.iload_n 0, 1) := by decide +kernel
theorem dJ7_checkLength_df160_2 : decode cJ7_checkLength_df160 2 = .ok (.if_icmp .ge 35, 3) := by decide +kernel
theorem dJ7_checkLength_df160_5 : decode cJ7_checkLength_df160 5 = .ok (.new 43, 3) := by decide +kernel
theorem dJ7_checkLength_df160_8 : decode cJ7_checkLength_df160 8 = .ok (.dup, 1) := by decide +kernel
theorem dJ7_checkLength_df160_9 : decode cJ7_checkLength_df160 9 = .ok (.new 45, 3) := by decide +kernel
theorem dJ7_checkLength_df160_12 : decode cJ7_checkLength_df160 12 = .ok (.dup, 1) := by decide +kernel
theorem dJ7_checkLength_df160_13 : decode cJ7_checkLength_df160 13 = .ok (.invokespecial 47, 3) := by decide +kernel
theorem dJ7_checkLength_df160_16 : decode cJ7_checkLength_df160 16 = .ok (.iload_n 0, 1) := by decide +kernel
theorem dJ7_checkLength_df160_17 : decode cJ7_checkLength_df160 17 = .ok (.invokevirtual 54, 3) := by decide +kernel
theorem dJ7_checkLength_df160_20 : decode cJ7_checkLength_df160 20 = .ok (.ldc_w 337, 3) := by decide +kernel
theorem dJ7_checkLength_df160_23 : decode cJ7_checkLength_df160 23 = .ok (.invokevirtual 50, 3) := by decide +kernel
theorem dJ7_checkLength_df160_26 : decode cJ7_checkLength_df160 26 = .ok (.iload_n 1, 1) := by decide +kernel
theorem dJ7_checkLength_df160_27 : decode cJ7_checkLength_df160 27 = .ok (.invokevirtual 54, 3) := by decide +kernel
theorem dJ7_checkLength_df160_30 : decode cJ7_checkLength_df160 30 = .ok (.invokevirtual 61, 3) := by decide +kernel
theorem dJ7_checkLength_df160_33 : decode cJ7_checkLength_df160 33 = .ok (.invokespecial 65, 3) := by decide +kernel
theorem dJ7_checkLength_df160_36 : decode cJ7_checkLength_df160 36 = .ok (.athrow, 1) := by decide +kernel
theorem dJ7_checkLength_df160_37 : decode cJ7_checkLength_df160 37 = .ok (.return_, 1) := by decide +kernel
theorem dJ7_copyOfRange_39247_0 : decode cJ7_copyOfRange_39247 0 = .ok (.iload_n 1, 1) := by decide +kernel
theorem dJ7_copyOfRange_39247_1 : decode cJ7_copyOfRange_39247 1 = .ok (.ifCond .ne 9, 3) := by decide +kernel
theorem dJ7_copyOfRange_39247_4 : decode cJ7_copyOfRange_39247 4 = .ok (.iload_n 2, 1) := by decide +kernel
theorem dJ7_copyOfRange_39247_5 : decode cJ7_copyOfRange_39247 5 = .ok (.aload_n 0, 1) := by decide +kernel
theorem dJ7_copyOfRange_39247_6 : decode cJ7_copyOfRange_39247 6 = .ok (.arraylength, 1) := by decide +kernel
theorem dJ7_copyOfRange_39247_7 : decode cJ7_copyOfRange_39247 7 = .ok (.if_icmp .eq 10, 3) := by decide +kernel
theorem dJ7_copyOfRange_39247_10 : decode cJ7_copyOfRange_39247 10 = .ok (.aload_n 0, 1) := by decide +kernel
theorem dJ7_copyOfRange_39247_11 : decode cJ7_copyOfRange_39247 11 = .ok (.iload_n 1, 1) := by decide +kernel
theorem dJ7_copyOfRange_39247_12 : decode cJ7_copyOfRange_39247 12 = .ok (.iload_n 2, 1) := by decide +kernel
theorem dJ7_copyOfRange_39247_13 : decode cJ7_copyOfRange_39247 13 = .ok (.invokestatic 339, 3) := by decide +kernel
theorem dJ7_copyOfRange_39247_16 : decode cJ7_copyOfRange_39247 16 = .ok (.areturn, 1) := by decide +kernel
theorem dJ7_copyOfRange_39247_17 : decode cJ7_copyOfRange_39247 17 = .ok (.aload_n 0, 1) := by decide +kernel
theorem dJ7_copyOfRange_39247_18 : decode cJ7_copyOfRange_39247 18 = .ok (.invokevirtual 310, 3) := by decide +kernel
theorem dJ7_copyOfRange_39247_21 : decode cJ7_copyOfRange_39247 21 = .ok (.checkcast 311, 3) := by decide +kernel
theorem dJ7_copyOfRange_39247_24 : decode cJ7_copyOfRange_39247 24 = .ok (.areturn, 1) := by decide +kernel
theorem dJ7_copyOfRangeByte_39247_0 : decode cJ7_copyOfRangeByte_39247 0 = .ok (.iload_n 1, 1) := by decide +kernel
theorem dJ7_copyOfRangeByte_39247_1 : decode cJ7_copyOfRangeByte_39247 1 = .ok (.iload_n 2, 1) := by decide +kernel
theorem dJ7_copyOfRangeByte_39247_2 : decode cJ7_copyOfRangeByte_39247 2 = .ok (.invokestatic 343, 3) := by decide +kernel
theorem dJ7_copyOfRangeByte_39247_5 : decode cJ7_copyOfRangeByte_39247 5 = .ok (.iload_n 2, 1) := by decide +kernel
theorem dJ7_copyOfRangeByte_39247_6 : decode cJ7_copyOfRangeByte_39247 6 = .ok (.iload_n 1, 1) := by decide +kernel
theorem dJ7_copyOfRangeByte_39247_7 : decode cJ7_copyOfRangeByte_39247 7 = .ok (.isub, 1) := by decide +kernel
theorem dJ7_copyOfRangeByte_39247_8 : decode cJ7_copyOfRangeByte_39247 8 = .ok (.istore_n 3, 1) := by decide +kernel
theorem dJ7_copyOfRangeByte_39247_9 : decode cJ7_copyOfRangeByte_39247 9 = .ok (.iload_n 3, 1) := by decide +kernel
theorem dJ7_copyOfRangeByte_39247_10 : decode cJ7_copyOfRangeByte_39247 10 = .ok (.newarray .byte, 2) := by decide +kernel
theorem dJ7_copyOfRangeByte_39247_12 : decode cJ7_copyOfRangeByte_39247 12 = .ok (.astore 4, 2) := by decide +kernel
theorem dJ7_copyOfRangeByte_39247_14 : decode cJ7_copyOfRangeByte_39247 14 = .ok (.aload_n 0, 1) := by decide +kernel
theorem dJ7_copyOfRangeByte_39247_15 : decode cJ7_copyOfRangeByte_39247 15 = .ok (.iload_n 1, 1) := by decide +kernel
theorem dJ7_copyOfRangeByte_39247_16 : decode cJ7_copyOfRangeByte_39247 16 = .ok (.aload 4, 2) := by decide +kernel
theorem dJ7_copyOfRangeByte_39247_18 : decode cJ7_copyOfRangeByte_39247 18 = .ok (.iconst 0, 1) := by decide +kernel
theorem dJ7_copyOfRangeByte_39247_19 : decode cJ7_copyOfRangeByte_39247 19 = .ok (.aload_n 0, 1) := by decide +kernel
theorem dJ7_copyOfRangeByte_39247_20 : decode cJ7_copyOfRangeByte_39247 20 = .ok (.arraylength, 1) := by decide +kernel
theorem dJ7_copyOfRangeByte_39247_21 : decode cJ7_copyOfRangeByte_39247 21 = .ok (.iload_n 1, 1) := by decide +kernel
theorem dJ7_copyOfRangeByte_39247_22 : decode cJ7_copyOfRangeByte_39247 22 = .ok (.isub, 1) := by decide +kernel
theorem dJ7_copyOfRangeByte_39247_23 : decode cJ7_copyOfRangeByte_39247 23 = .ok (.iload_n 3, 1) := by decide +kernel
theorem dJ7_copyOfRangeByte_39247_24 : decode cJ7_copyOfRangeByte_39247 24 = .ok (.invokestatic 304, 3) := by decide +kernel
theorem dJ7_copyOfRangeByte_39247_27 : decode cJ7_copyOfRangeByte_39247 27 = .ok (.invokestatic 150, 3) := by decide +kernel
theorem dJ7_copyOfRangeByte_39247_30 : decode cJ7_copyOfRangeByte_39247 30 = .ok (.aload 4, 2) := by decide +kernel
theorem dJ7_copyOfRangeByte_39247_32 : decode cJ7_copyOfRangeByte_39247 32 = .ok (.areturn, 1) := by decide +kernel
theorem dJ8_newLength_cabcc_0 : decode cJ8_newLength_cabcc 0 = .ok (.iload_n 0, 1) := by decide +kernel
theorem dJ8_newLength_cabcc_1 : decode cJ8_newLength_cabcc 1 = .ok (.iload_n 1, 1) := by decide +kernel
theorem dJ8_newLength_cabcc_2 : decode cJ8_newLength_cabcc 2 = .ok (.iload_n 2, 1) := by decide +kernel
theorem dJ8_newLength_cabcc_3 : decode cJ8_newLength_cabcc 3 = .ok (.invokestatic 194, 3) := by decide +kernel
theorem dJ8_newLength_cabcc_6 : decode cJ8_newLength_cabcc 6 = .ok (.iadd, 1) := by decide +kernel
theorem dJ8_newLength_cabcc_7 : decode cJ8_newLength_cabcc 7 = .ok (.istore_n 3, 1) := by decide +kernel
theorem dJ8_newLength_cabcc_8 : decode cJ8_newLength_cabcc 8 = .ok (.iconst 0, 1) := by decide +kernel
theorem dJ8_newLength_cabcc_9 : decode cJ8_newLength_cabcc 9 = .ok (.iload_n 3, 1) := by decide +kernel
theorem dJ8_newLength_cabcc_10 : decode cJ8_newLength_cabcc 10 = .ok (.if_icmp .ge 11, 3) := by decide +kernel
theorem dJ8_newLength_cabcc_13 : decode cJ8_newLength_cabcc 13 = .ok (.iload_n 3, 1) := by decide +kernel
theorem dJ8_newLength_cabcc_14 : decode cJ8_newLength_cabcc 14 = .ok (.ldc 200, 2) := by decide +kernel
theorem dJ8_newLength_cabcc_16 : decode cJ8_newLength_cabcc 16 = .ok (.if_icmp .gt 5, 3) := by decide +kernel
theorem dJ8_newLength_cabcc_19 : decode cJ8_newLength_cabcc 19 = .ok (.iload_n 3, 1) := by decide +kernel
theorem dJ8_newLength_cabcc_20 : decode cJ8_newLength_cabcc 20 = .ok (.ireturn, 1) := by decide +kernel
theorem dJ8_newLength_cabcc_21 : decode cJ8_newLength_cabcc 21 = .ok (.iload_n 0, 1) := by decide +kernel
theorem dJ8_newLength_cabcc_22 : decode cJ8_newLength_cabcc 22 = .ok (.iload_n 1, 1) := by decide +kernel
theorem dJ8_newLength_cabcc_23 : decode cJ8_newLength_cabcc 23 = .ok (.invokestatic 201, 3) := by decide +kernel
theorem dJ8_newLength_cabcc_26 : decode cJ8_newLength_cabcc 26 = .ok (.ireturn, 1) := by decide +kernel
theorem dJ8_hugeLength_7cf53_0 : decode cJ8_hugeLength_7cf53 0 = .ok (.iload_n 0, 1) := by decide +kernel
theorem dJ8_hugeLength_7cf53_1 : decode cJ8_hugeLength_7cf53 1 = .ok (.iload_n 1, 1) := by decide +kernel
theorem dJ8_hugeLength_7cf53_2 : decode cJ8_hugeLength_7cf53 2 = .ok (.iadd, 1) := by decide +kernel
theorem dJ8_hugeLength_7cf53_3 : decode cJ8_hugeLength_7cf53 3 = .ok (.istore_n 2, 1) := by decide +kernel
theorem dJ8_hugeLength_7cf53_4 : decode cJ8_hugeLength_7cf53 4 = .ok (.iload_n 2, 1) := by decide +kernel
theorem dJ8_hugeLength_7cf53_5 : decode cJ8_hugeLength_7cf53 5 = .ok (.ifCond .ge 44, 3) := by decide +kernel
theorem dJ8_hugeLength_7cf53_8 : decode cJ8_hugeLength_7cf53 8 = .ok (.new 204, 3) := by decide +kernel
theorem dJ8_hugeLength_7cf53_11 : decode cJ8_hugeLength_7cf53 11 = .ok (.dup, 1) := by decide +kernel
theorem dJ8_hugeLength_7cf53_12 : decode cJ8_hugeLength_7cf53 12 = .ok (.new 89, 3) := by decide +kernel
theorem dJ8_hugeLength_7cf53_15 : decode cJ8_hugeLength_7cf53 15 = .ok (.dup, 1) := by decide +kernel
theorem dJ8_hugeLength_7cf53_16 : decode cJ8_hugeLength_7cf53 16 = .ok (.invokespecial 91, 3) := by decide +kernel
theorem dJ8_hugeLength_7cf53_19 : decode cJ8_hugeLength_7cf53 19 = .ok (.ldc 206, 2) := by decide +kernel
theorem dJ8_hugeLength_7cf53_21 : decode cJ8_hugeLength_7cf53 21 = .ok (.invokevirtual 94, 3) := by decide +kernel
theorem dJ8_hugeLength_7cf53_24 : decode cJ8_hugeLength_7cf53 24 = .ok (.iload_n 0, 1) := by decide +kernel
theorem dJ8_hugeLength_7cf53_25 : decode cJ8_hugeLength_7cf53 25 = .ok (.invokevirtual 98, 3) := by decide +kernel
theorem dJ8_hugeLength_7cf53_28 : decode cJ8_hugeLength_7cf53 28 = .ok (.ldc 208, 2) := by decide +kernel
theorem dJ8_hugeLength_7cf53_30 : decode cJ8_hugeLength_7cf53 30 = .ok (.invokevirtual 94, 3) := by decide +kernel
theorem dJ8_hugeLength_7cf53_33 : decode cJ8_hugeLength_7cf53 33 = .ok (.iload_n 1, 1) := by decide +kernel
theorem dJ8_hugeLength_7cf53_34 : decode cJ8_hugeLength_7cf53 34 = .ok (.invokevirtual 98, 3) := by decide +kernel
theorem dJ8_hugeLength_7cf53_37 : decode cJ8_hugeLength_7cf53 37 = .ok (.ldc 210, 2) := by decide +kernel
theorem dJ8_hugeLength_7cf53_39 : decode cJ8_hugeLength_7cf53 39 = .ok (.invokevirtual 94, 3) := by decide +kernel
theorem dJ8_hugeLength_7cf53_42 : decode cJ8_hugeLength_7cf53 42 = .ok (.invokevirtual 101, 3) := by decide +kernel
theorem dJ8_hugeLength_7cf53_45 : decode cJ8_hugeLength_7cf53 45 = .ok (.invokespecial 212, 3) := by decide +kernel
theorem dJ8_hugeLength_7cf53_48 : decode cJ8_hugeLength_7cf53 48 = .ok (.athrow, 1) := by decide +kernel
theorem dJ8_hugeLength_7cf53_49 : decode cJ8_hugeLength_7cf53 49 = .ok (.iload_n 2, 1) := by decide +kernel
theorem dJ8_hugeLength_7cf53_50 : decode cJ8_hugeLength_7cf53 50 = .ok (.ldc 200, 2) := by decide +kernel
theorem dJ8_hugeLength_7cf53_52 : decode cJ8_hugeLength_7cf53 52 = .ok (.if_icmp .gt 6, 3) := by decide +kernel
theorem dJ8_hugeLength_7cf53_55 : decode cJ8_hugeLength_7cf53 55 = .ok (.ldc 200, 2) := by decide +kernel
theorem dJ8_hugeLength_7cf53_57 : decode cJ8_hugeLength_7cf53 57 = .ok (.ireturn, 1) := by decide +kernel
theorem dJ8_hugeLength_7cf53_58 : decode cJ8_hugeLength_7cf53 58 = .ok (.iload_n 2, 1) := by decide +kernel
theorem dJ8_hugeLength_7cf53_59 : decode cJ8_hugeLength_7cf53 59 = .ok (.ireturn, 1) := by decide +kernel
theorem dJ3_checkIndex_8e157_0 : decode cJ3_checkIndex_8e157 0 = .ok (.iload_n 0, 1) := by decide +kernel
theorem dJ3_checkIndex_8e157_1 : decode cJ3_checkIndex_8e157 1 = .ok (.ifCond .lt 8, 3) := by decide +kernel
theorem dJ3_checkIndex_8e157_4 : decode cJ3_checkIndex_8e157 4 = .ok (.iload_n 0, 1) := by decide +kernel
theorem dJ3_checkIndex_8e157_5 : decode cJ3_checkIndex_8e157 5 = .ok (.iload_n 1, 1) := by decide +kernel
theorem dJ3_checkIndex_8e157_6 : decode cJ3_checkIndex_8e157 6 = .ok (.if_icmp .lt 10, 3) := by decide +kernel
theorem dJ3_checkIndex_8e157_9 : decode cJ3_checkIndex_8e157 9 = .ok (.aload_n 2, 1) := by decide +kernel
theorem dJ3_checkIndex_8e157_10 : decode cJ3_checkIndex_8e157 10 = .ok (.iload_n 0, 1) := by decide +kernel
theorem dJ3_checkIndex_8e157_11 : decode cJ3_checkIndex_8e157 11 = .ok (.iload_n 1, 1) := by decide +kernel
theorem dJ3_checkIndex_8e157_12 : decode cJ3_checkIndex_8e157 12 = .ok (.invokestatic 95, 3) := by decide +kernel
theorem dJ3_checkIndex_8e157_15 : decode cJ3_checkIndex_8e157 15 = .ok (.athrow, 1) := by decide +kernel
theorem dJ3_checkIndex_8e157_16 : decode cJ3_checkIndex_8e157 16 = .ok (.iload_n 0, 1) := by decide +kernel
theorem dJ3_checkIndex_8e157_17 : decode cJ3_checkIndex_8e157 17 = .ok (.ireturn, 1) := by decide +kernel
theorem dJ3_checkFromToIndex_8c36e_0 : decode cJ3_checkFromToIndex_8c36e 0 = .ok (.iload_n 0, 1) := by decide +kernel
theorem dJ3_checkFromToIndex_8c36e_1 : decode cJ3_checkFromToIndex_8c36e 1 = .ok (.ifCond .lt 13, 3) := by decide +kernel
theorem dJ3_checkFromToIndex_8c36e_4 : decode cJ3_checkFromToIndex_8c36e 4 = .ok (.iload_n 0, 1) := by decide +kernel
theorem dJ3_checkFromToIndex_8c36e_5 : decode cJ3_checkFromToIndex_8c36e 5 = .ok (.iload_n 1, 1) := by decide +kernel
theorem dJ3_checkFromToIndex_8c36e_6 : decode cJ3_checkFromToIndex_8c36e 6 = .ok (.if_icmp .gt 8, 3) := by decide +kernel
theorem dJ3_checkFromToIndex_8c36e_9 : decode cJ3_checkFromToIndex_8c36e 9 = .ok (.iload_n 1, 1) := by decide +kernel
theorem dJ3_checkFromToIndex_8c36e_10 : decode cJ3_checkFromToIndex_8c36e 10 = .ok (.iload_n 2, 1) := by decide +kernel
theorem dJ3_checkFromToIndex_8c36e_11 : decode cJ3_checkFromToIndex_8c36e 11 = .ok (.if_icmp .le 11, 3) := by decide +kernel
theorem dJ3_checkFromToIndex_8c36e_14 : decode cJ3_checkFromToIndex_8c36e 14 = .ok (.aload_n 3, 1) := by decide +kernel
theorem dJ3_checkFromToIndex_8c36e_15 : decode cJ3_checkFromToIndex_8c36e 15 = .ok (.iload_n 0, 1) := by decide +kernel
theorem dJ3_checkFromToIndex_8c36e_16 : decode cJ3_checkFromToIndex_8c36e 16 = .ok (.iload_n 1, 1) := by decide +kernel
theorem dJ3_checkFromToIndex_8c36e_17 : decode cJ3_checkFromToIndex_8c36e 17 = .ok (.iload_n 2, 1) := by decide +kernel
theorem dJ3_checkFromToIndex_8c36e_18 : decode cJ3_checkFromToIndex_8c36e 18 = .ok (.invokestatic 99, 3) := by decide +kernel
theorem dJ3_checkFromToIndex_8c36e_21 : decode cJ3_checkFromToIndex_8c36e 21 = .ok (.athrow, 1) := by decide +kernel
theorem dJ3_checkFromToIndex_8c36e_22 : decode cJ3_checkFromToIndex_8c36e 22 = .ok (.iload_n 0, 1) := by decide +kernel
theorem dJ3_checkFromToIndex_8c36e_23 : decode cJ3_checkFromToIndex_8c36e 23 = .ok (.ireturn, 1) := by decide +kernel
theorem dJ3_checkFromIndexSize_8c36e_0 : decode cJ3_checkFromIndexSize_8c36e 0 = .ok (.iload_n 2, 1) := by decide +kernel
theorem dJ3_checkFromIndexSize_8c36e_1 : decode cJ3_checkFromIndexSize_8c36e 1 = .ok (.iload_n 0, 1) := by decide +kernel
theorem dJ3_checkFromIndexSize_8c36e_2 : decode cJ3_checkFromIndexSize_8c36e 2 = .ok (.ior, 1) := by decide +kernel
theorem dJ3_checkFromIndexSize_8c36e_3 : decode cJ3_checkFromIndexSize_8c36e 3 = .ok (.iload_n 1, 1) := by decide +kernel
theorem dJ3_checkFromIndexSize_8c36e_4 : decode cJ3_checkFromIndexSize_8c36e 4 = .ok (.ior, 1) := by decide +kernel
theorem dJ3_checkFromIndexSize_8c36e_5 : decode cJ3_checkFromIndexSize_8c36e 5 = .ok (.ifCond .lt 10, 3) := by decide +kernel
theorem dJ3_checkFromIndexSize_8c36e_8 : decode cJ3_checkFromIndexSize_8c36e 8 = .ok (.iload_n 1, 1) := by decide +kernel
theorem dJ3_checkFromIndexSize_8c36e_9 : decode cJ3_checkFromIndexSize_8c36e 9 = .ok (.iload_n 2, 1) := by decide +kernel
theorem dJ3_checkFromIndexSize_8c36e_10 : decode cJ3_checkFromIndexSize_8c36e 10 = .ok (.iload_n 0, 1) := by decide +kernel
theorem dJ3_checkFromIndexSize_8c36e_11 : decode cJ3_checkFromIndexSize_8c36e 11 = .ok (.isub, 1) := by decide +kernel
theorem dJ3_checkFromIndexSize_8c36e_12 : decode cJ3_checkFromIndexSize_8c36e 12 = .ok (.if_icmp .le 11, 3) := by decide +kernel
theorem dJ3_checkFromIndexSize_8c36e_15 : decode cJ3_checkFromIndexSize_8c36e 15 = .ok (.aload_n 3, 1) := by decide +kernel
theorem dJ3_checkFromIndexSize_8c36e_16 : decode cJ3_checkFromIndexSize_8c36e 16 = .ok (.iload_n 0, 1) := by decide +kernel
theorem dJ3_checkFromIndexSize_8c36e_17 : decode cJ3_checkFromIndexSize_8c36e 17 = .ok (.iload_n 1, 1) := by decide +kernel
theorem dJ3_checkFromIndexSize_8c36e_18 : decode cJ3_checkFromIndexSize_8c36e 18 = .ok (.iload_n 2, 1) := by decide +kernel
theorem dJ3_checkFromIndexSize_8c36e_19 : decode cJ3_checkFromIndexSize_8c36e 19 = .ok (.invokestatic 103, 3) := by decide +kernel
theorem dJ3_checkFromIndexSize_8c36e_22 : decode cJ3_checkFromIndexSize_8c36e 22 = .ok (.athrow, 1) := by decide +kernel
theorem dJ3_checkFromIndexSize_8c36e_23 : decode cJ3_checkFromIndexSize_8c36e 23 = .ok (.iload_n 0, 1) := by decide +kernel
theorem dJ3_checkFromIndexSize_8c36e_24 : decode cJ3_checkFromIndexSize_8c36e 24 = .ok (.ireturn, 1) := by decide +kernel
