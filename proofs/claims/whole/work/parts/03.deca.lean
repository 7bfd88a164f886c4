theorem dX0_init_0 : decode cX0_init 0 = .ok (.aload_n 0, 1) := by decide +kernel
theorem dX0_init_1 : decode cX0_init 1 = .ok (.invokespecial 3, 3) := by decide +kernel
theorem dX0_init_4 : decode cX0_init 4 = .ok (.aload_n 0, 1) := by decide +kernel
theorem dX0_init_5 : decode cX0_init 5 = .ok (.iconst 0, 1) := by decide +kernel
theorem dX0_init_6 : decode cX0_init 6 = .ok (.putfield 9, 3) := by decide +kernel
theorem dX0_init_9 : decode cX0_init 9 = .ok (.aload_n 0, 1) := by decide +kernel
theorem dX0_init_10 : decode cX0_init 10 = .ok (.bipush 14, 2) := by decide +kernel
theorem dX0_init_12 : decode cX0_init 12 = .ok (.newarray .int, 2) := by decide +kernel
theorem dX0_init_14 : decode cX0_init 14 = .ok (.putfield 15, 3) := by decide +kernel
theorem dX0_init_17 : decode cX0_init 17 = .ok (.aload_n 0, 1) := by decide +kernel
theorem dX0_init_18 : decode cX0_init 18 = .ok (.bipush 14, 2) := by decide +kernel
theorem dX0_init_20 : decode cX0_init 20 = .ok (.bipush 6, 2) := by decide +kernel
theorem dX0_init_22 : decode cX0_init 22 = .ok (.multianewarray 19 2, 4) := by decide +kernel
theorem dX0_init_26 : decode cX0_init 26 = .ok (.putfield 21, 3) := by decide +kernel
theorem dX0_init_29 : decode cX0_init 29 = .ok (.aload_n 0, 1) := by decide +kernel
theorem dX0_init_30 : decode cX0_init 30 = .ok (.bipush 14, 2) := by decide +kernel
theorem dX0_init_32 : decode cX0_init 32 = .ok (.bipush 6, 2) := by decide +kernel
theorem dX0_init_34 : decode cX0_init 34 = .ok (.multianewarray 19 2, 4) := by decide +kernel
theorem dX0_init_38 : decode cX0_init 38 = .ok (.putfield 24, 3) := by decide +kernel
theorem dX0_init_41 : decode cX0_init 41 = .ok (.aload_n 0, 1) := by decide +kernel
theorem dX0_init_42 : decode cX0_init 42 = .ok (.bipush 14, 2) := by decide +kernel
theorem dX0_init_44 : decode cX0_init 44 = .ok (.newarray .boolean, 2) := by decide +kernel
theorem dX0_init_46 : decode cX0_init 46 = .ok (.putfield 27, 3) := by decide +kernel
theorem dX0_init_49 : decode cX0_init 49 = .ok (.aload_n 0, 1) := by decide +kernel
theorem dX0_init_50 : decode cX0_init 50 = .ok (.bipush 6, 2) := by decide +kernel
theorem dX0_init_52 : decode cX0_init 52 = .ok (.newarray .int, 2) := by decide +kernel
theorem dX0_init_54 : decode cX0_init 54 = .ok (.putfield 31, 3) := by decide +kernel
theorem dX0_init_57 : decode cX0_init 57 = .ok (.return_, 1) := by decide +kernel
theorem dX0_closeAll_0 : decode cX0_closeAll 0 = .ok (.aload_n 0, 1) := by decide +kernel
theorem dX0_closeAll_1 : decode cX0_closeAll 1 = .ok (.iconst 0, 1) := by decide +kernel
theorem dX0_closeAll_2 : decode cX0_closeAll 2 = .ok (.putfield 9, 3) := by decide +kernel
theorem dX0_closeAll_5 : decode cX0_closeAll 5 = .ok (.iconst 0, 1) := by decide +kernel
theorem dX0_closeAll_6 : decode cX0_closeAll 6 = .ok (.istore_n 2, 1) := by decide +kernel
theorem dX0_closeAll_7 : decode cX0_closeAll 7 = .ok (.iload_n 2, 1) := by decide +kernel
theorem dX0_closeAll_8 : decode cX0_closeAll 8 = .ok (.aload_n 1, 1) := by decide +kernel
theorem dX0_closeAll_9 : decode cX0_closeAll 9 = .ok (.getfield 34, 3) := by decide +kernel
theorem dX0_closeAll_12 : decode cX0_closeAll 12 = .ok (.if_icmp .ge 62, 3) := by decide +kernel
theorem dX0_closeAll_15 : decode cX0_closeAll 15 = .ok (.aload_n 0, 1) := by decide +kernel
theorem dX0_closeAll_16 : decode cX0_closeAll 16 = .ok (.aload_n 1, 1) := by decide +kernel
theorem dX0_closeAll_17 : decode cX0_closeAll 17 = .ok (.aload_n 1, 1) := by decide +kernel
theorem dX0_closeAll_18 : decode cX0_closeAll 18 = .ok (.getfield 39, 3) := by decide +kernel
theorem dX0_closeAll_21 : decode cX0_closeAll 21 = .ok (.iload_n 2, 1) := by decide +kernel
theorem dX0_closeAll_22 : decode cX0_closeAll 22 = .ok (.iaload, 1) := by decide +kernel
theorem dX0_closeAll_23 : decode cX0_closeAll 23 = .ok (.iload_n 2, 1) := by decide +kernel
theorem dX0_closeAll_24 : decode cX0_closeAll 24 = .ok (.invokevirtual 42, 3) := by decide +kernel
theorem dX0_closeAll_27 : decode cX0_closeAll 27 = .ok (.aload_n 0, 1) := by decide +kernel
theorem dX0_closeAll_28 : decode cX0_closeAll 28 = .ok (.getfield 27, 3) := by decide +kernel
theorem dX0_closeAll_31 : decode cX0_closeAll 31 = .ok (.iload_n 2, 1) := by decide +kernel
theorem dX0_closeAll_32 : decode cX0_closeAll 32 = .ok (.aload_n 0, 1) := by decide +kernel
theorem dX0_closeAll_33 : decode cX0_closeAll 33 = .ok (.getfield 31, 3) := by decide +kernel
theorem dX0_closeAll_36 : decode cX0_closeAll 36 = .ok (.aload_n 1, 1) := by decide +kernel
theorem dX0_closeAll_37 : decode cX0_closeAll 37 = .ok (.getfield 46, 3) := by decide +kernel
theorem dX0_closeAll_40 : decode cX0_closeAll 40 = .ok (.iload_n 2, 1) := by decide +kernel
theorem dX0_closeAll_41 : decode cX0_closeAll 41 = .ok (.iaload, 1) := by decide +kernel
theorem dX0_closeAll_42 : decode cX0_closeAll 42 = .ok (.iaload, 1) := by decide +kernel
theorem dX0_closeAll_43 : decode cX0_closeAll 43 = .ok (.iconst (-1), 1) := by decide +kernel
theorem dX0_closeAll_44 : decode cX0_closeAll 44 = .ok (.if_icmp .ne 7, 3) := by decide +kernel
theorem dX0_closeAll_47 : decode cX0_closeAll 47 = .ok (.iconst 1, 1) := by decide +kernel
theorem dX0_closeAll_48 : decode cX0_closeAll 48 = .ok (.goto 4, 3) := by decide +kernel
theorem dX0_closeAll_51 : decode cX0_closeAll 51 = .ok (.iconst 0, 1) := by decide +kernel
theorem dX0_closeAll_52 : decode cX0_closeAll 52 = .ok (.bastore, 1) := by decide +kernel
theorem dX0_closeAll_53 : decode cX0_closeAll 53 = .ok (.aload_n 0, 1) := by decide +kernel
theorem dX0_closeAll_54 : decode cX0_closeAll 54 = .ok (.getfield 27, 3) := by decide +kernel
theorem dX0_closeAll_57 : decode cX0_closeAll 57 = .ok (.iload_n 2, 1) := by decide +kernel
theorem dX0_closeAll_58 : decode cX0_closeAll 58 = .ok (.baload, 1) := by decide +kernel
theorem dX0_closeAll_59 : decode cX0_closeAll 59 = .ok (.ifCond .ne 9, 3) := by decide +kernel
theorem dX0_closeAll_62 : decode cX0_closeAll 62 = .ok (.aload_n 0, 1) := by decide +kernel
theorem dX0_closeAll_63 : decode cX0_closeAll 63 = .ok (.aload_n 1, 1) := by decide +kernel
theorem dX0_closeAll_64 : decode cX0_closeAll 64 = .ok (.iload_n 2, 1) := by decide +kernel
theorem dX0_closeAll_65 : decode cX0_closeAll 65 = .ok (.invokevirtual 49, 3) := by decide +kernel
theorem dX0_closeAll_68 : decode cX0_closeAll 68 = .ok (.iinc 2 1, 3) := by decide +kernel
theorem dX0_closeAll_71 : decode cX0_closeAll 71 = .ok (.goto (-64), 3) := by decide +kernel
theorem dX0_closeAll_74 : decode cX0_closeAll 74 = .ok (.return_, 1) := by decide +kernel
theorem dX0_findWays_0 : decode cX0_findWays 0 = .ok (.iconst 0, 1) := by decide +kernel
theorem dX0_findWays_1 : decode cX0_findWays 1 = .ok (.istore 4, 2) := by decide +kernel
theorem dX0_findWays_3 : decode cX0_findWays 3 = .ok (.iload 4, 2) := by decide +kernel
theorem dX0_findWays_5 : decode cX0_findWays 5 = .ok (.aload_n 1, 1) := by decide +kernel
theorem dX0_findWays_6 : decode cX0_findWays 6 = .ok (.getfield 53, 3) := by decide +kernel
theorem dX0_findWays_9 : decode cX0_findWays 9 = .ok (.if_icmp .ge 28, 3) := by decide +kernel
theorem dX0_findWays_12 : decode cX0_findWays 12 = .ok (.aload_n 0, 1) := by decide +kernel
theorem dX0_findWays_13 : decode cX0_findWays 13 = .ok (.getfield 31, 3) := by decide +kernel
theorem dX0_findWays_16 : decode cX0_findWays 16 = .ok (.iload 4, 2) := by decide +kernel
theorem dX0_findWays_18 : decode cX0_findWays 18 = .ok (.iload 4, 2) := by decide +kernel
theorem dX0_findWays_20 : decode cX0_findWays 20 = .ok (.iload_n 2, 1) := by decide +kernel
theorem dX0_findWays_21 : decode cX0_findWays 21 = .ok (.if_icmp .ne 8, 3) := by decide +kernel
theorem dX0_findWays_24 : decode cX0_findWays 24 = .ok (.bipush (-2), 2) := by decide +kernel
theorem dX0_findWays_26 : decode cX0_findWays 26 = .ok (.goto 4, 3) := by decide +kernel
theorem dX0_findWays_29 : decode cX0_findWays 29 = .ok (.iconst (-1), 1) := by decide +kernel
theorem dX0_findWays_30 : decode cX0_findWays 30 = .ok (.iastore, 1) := by decide +kernel
theorem dX0_findWays_31 : decode cX0_findWays 31 = .ok (.iinc 4 1, 3) := by decide +kernel
theorem dX0_findWays_34 : decode cX0_findWays 34 = .ok (.goto (-31), 3) := by decide +kernel
theorem dX0_findWays_37 : decode cX0_findWays 37 = .ok (.iconst 1, 1) := by decide +kernel
theorem dX0_findWays_38 : decode cX0_findWays 38 = .ok (.istore 4, 2) := by decide +kernel
theorem dX0_findWays_40 : decode cX0_findWays 40 = .ok (.iload 4, 2) := by decide +kernel
theorem dX0_findWays_42 : decode cX0_findWays 42 = .ok (.aload_n 1, 1) := by decide +kernel
theorem dX0_findWays_43 : decode cX0_findWays 43 = .ok (.getfield 53, 3) := by decide +kernel
theorem dX0_findWays_46 : decode cX0_findWays 46 = .ok (.if_icmp .ge 54, 3) := by decide +kernel
theorem dX0_findWays_49 : decode cX0_findWays 49 = .ok (.iconst 0, 1) := by decide +kernel
theorem dX0_findWays_50 : decode cX0_findWays 50 = .ok (.istore 5, 2) := by decide +kernel
theorem dX0_findWays_52 : decode cX0_findWays 52 = .ok (.iload 5, 2) := by decide +kernel
theorem dX0_findWays_54 : decode cX0_findWays 54 = .ok (.iload_n 3, 1) := by decide +kernel
theorem dX0_findWays_55 : decode cX0_findWays 55 = .ok (.if_icmp .ge 39, 3) := by decide +kernel
theorem dX0_findWays_58 : decode cX0_findWays 58 = .ok (.aload_n 0, 1) := by decide +kernel
theorem dX0_findWays_59 : decode cX0_findWays 59 = .ok (.getfield 27, 3) := by decide +kernel
theorem dX0_findWays_62 : decode cX0_findWays 62 = .ok (.iload 5, 2) := by decide +kernel
theorem dX0_findWays_64 : decode cX0_findWays 64 = .ok (.baload, 1) := by decide +kernel
theorem dX0_findWays_65 : decode cX0_findWays 65 = .ok (.ifCond .eq 23, 3) := by decide +kernel
theorem dX0_findWays_68 : decode cX0_findWays 68 = .ok (.aload_n 0, 1) := by decide +kernel
theorem dX0_findWays_69 : decode cX0_findWays 69 = .ok (.aload_n 1, 1) := by decide +kernel
theorem dX0_findWays_70 : decode cX0_findWays 70 = .ok (.getfield 39, 3) := by decide +kernel
theorem dX0_findWays_73 : decode cX0_findWays 73 = .ok (.iload 5, 2) := by decide +kernel
theorem dX0_findWays_75 : decode cX0_findWays 75 = .ok (.iaload, 1) := by decide +kernel
theorem dX0_findWays_76 : decode cX0_findWays 76 = .ok (.aload_n 1, 1) := by decide +kernel
theorem dX0_findWays_77 : decode cX0_findWays 77 = .ok (.getfield 46, 3) := by decide +kernel
theorem dX0_findWays_80 : decode cX0_findWays 80 = .ok (.iload 5, 2) := by decide +kernel
theorem dX0_findWays_82 : decode cX0_findWays 82 = .ok (.iaload, 1) := by decide +kernel
theorem dX0_findWays_83 : decode cX0_findWays 83 = .ok (.iload 5, 2) := by decide +kernel
theorem dX0_findWays_85 : decode cX0_findWays 85 = .ok (.invokevirtual 56, 3) := by decide +kernel
theorem dX0_findWays_88 : decode cX0_findWays 88 = .ok (.iinc 5 1, 3) := by decide +kernel
theorem dX0_findWays_91 : decode cX0_findWays 91 = .ok (.goto (-39), 3) := by decide +kernel
theorem dX0_findWays_94 : decode cX0_findWays 94 = .ok (.iinc 4 1, 3) := by decide +kernel
theorem dX0_findWays_97 : decode cX0_findWays 97 = .ok (.goto (-57), 3) := by decide +kernel
theorem dX0_findWays_100 : decode cX0_findWays 100 = .ok (.return_, 1) := by decide +kernel
theorem dX0_findWay_0 : decode cX0_findWay 0 = .ok (.aload_n 0, 1) := by decide +kernel
theorem dX0_findWay_1 : decode cX0_findWay 1 = .ok (.getfield 31, 3) := by decide +kernel
theorem dX0_findWay_4 : decode cX0_findWay 4 = .ok (.iload_n 1, 1) := by decide +kernel
theorem dX0_findWay_5 : decode cX0_findWay 5 = .ok (.iaload, 1) := by decide +kernel
theorem dX0_findWay_6 : decode cX0_findWay 6 = .ok (.iconst (-1), 1) := by decide +kernel
theorem dX0_findWay_7 : decode cX0_findWay 7 = .ok (.if_icmp .ne 23, 3) := by decide +kernel
theorem dX0_findWay_10 : decode cX0_findWay 10 = .ok (.aload_n 0, 1) := by decide +kernel
theorem dX0_findWay_11 : decode cX0_findWay 11 = .ok (.getfield 31, 3) := by decide +kernel
theorem dX0_findWay_14 : decode cX0_findWay 14 = .ok (.iload_n 2, 1) := by decide +kernel
theorem dX0_findWay_15 : decode cX0_findWay 15 = .ok (.iaload, 1) := by decide +kernel
theorem dX0_findWay_16 : decode cX0_findWay 16 = .ok (.iconst (-1), 1) := by decide +kernel
theorem dX0_findWay_17 : decode cX0_findWay 17 = .ok (.if_icmp .eq 13, 3) := by decide +kernel
theorem dX0_findWay_20 : decode cX0_findWay 20 = .ok (.aload_n 0, 1) := by decide +kernel
theorem dX0_findWay_21 : decode cX0_findWay 21 = .ok (.getfield 31, 3) := by decide +kernel
theorem dX0_findWay_24 : decode cX0_findWay 24 = .ok (.iload_n 1, 1) := by decide +kernel
theorem dX0_findWay_25 : decode cX0_findWay 25 = .ok (.iload_n 3, 1) := by decide +kernel
theorem dX0_findWay_26 : decode cX0_findWay 26 = .ok (.iastore, 1) := by decide +kernel
theorem dX0_findWay_27 : decode cX0_findWay 27 = .ok (.goto 30, 3) := by decide +kernel
theorem dX0_findWay_30 : decode cX0_findWay 30 = .ok (.aload_n 0, 1) := by decide +kernel
theorem dX0_findWay_31 : decode cX0_findWay 31 = .ok (.getfield 31, 3) := by decide +kernel
theorem dX0_findWay_34 : decode cX0_findWay 34 = .ok (.iload_n 2, 1) := by decide +kernel
theorem dX0_findWay_35 : decode cX0_findWay 35 = .ok (.iaload, 1) := by decide +kernel
theorem dX0_findWay_36 : decode cX0_findWay 36 = .ok (.iconst (-1), 1) := by decide +kernel
theorem dX0_findWay_37 : decode cX0_findWay 37 = .ok (.if_icmp .ne 20, 3) := by decide +kernel
theorem dX0_findWay_40 : decode cX0_findWay 40 = .ok (.aload_n 0, 1) := by decide +kernel
theorem dX0_findWay_41 : decode cX0_findWay 41 = .ok (.getfield 31, 3) := by decide +kernel
theorem dX0_findWay_44 : decode cX0_findWay 44 = .ok (.iload_n 1, 1) := by decide +kernel
theorem dX0_findWay_45 : decode cX0_findWay 45 = .ok (.iaload, 1) := by decide +kernel
theorem dX0_findWay_46 : decode cX0_findWay 46 = .ok (.iconst (-1), 1) := by decide +kernel
theorem dX0_findWay_47 : decode cX0_findWay 47 = .ok (.if_icmp .eq 10, 3) := by decide +kernel
theorem dX0_findWay_50 : decode cX0_findWay 50 = .ok (.aload_n 0, 1) := by decide +kernel
theorem dX0_findWay_51 : decode cX0_findWay 51 = .ok (.getfield 31, 3) := by decide +kernel
theorem dX0_findWay_54 : decode cX0_findWay 54 = .ok (.iload_n 2, 1) := by decide +kernel
theorem dX0_findWay_55 : decode cX0_findWay 55 = .ok (.iload_n 3, 1) := by decide +kernel
theorem dX0_findWay_56 : decode cX0_findWay 56 = .ok (.iastore, 1) := by decide +kernel
theorem dX0_findWay_57 : decode cX0_findWay 57 = .ok (.return_, 1) := by decide +kernel
theorem dX0_closeWith_0 : decode cX0_closeWith 0 = .ok (.aload_n 0, 1) := by decide +kernel
theorem dX0_closeWith_1 : decode cX0_closeWith 1 = .ok (.getfield 21, 3) := by decide +kernel
theorem dX0_closeWith_4 : decode cX0_closeWith 4 = .ok (.aload_n 0, 1) := by decide +kernel
theorem dX0_closeWith_5 : decode cX0_closeWith 5 = .ok (.getfield 9, 3) := by decide +kernel
theorem dX0_closeWith_8 : decode cX0_closeWith 8 = .ok (.aaload, 1) := by decide +kernel
theorem dX0_closeWith_9 : decode cX0_closeWith 9 = .ok (.iconst 0, 1) := by decide +kernel
theorem dX0_closeWith_10 : decode cX0_closeWith 10 = .ok (.iload_n 2, 1) := by decide +kernel
theorem dX0_closeWith_11 : decode cX0_closeWith 11 = .ok (.iastore, 1) := by decide +kernel
theorem dX0_closeWith_12 : decode cX0_closeWith 12 = .ok (.aload_n 0, 1) := by decide +kernel
theorem dX0_closeWith_13 : decode cX0_closeWith 13 = .ok (.getfield 24, 3) := by decide +kernel
theorem dX0_closeWith_16 : decode cX0_closeWith 16 = .ok (.aload_n 0, 1) := by decide +kernel
theorem dX0_closeWith_17 : decode cX0_closeWith 17 = .ok (.getfield 9, 3) := by decide +kernel
theorem dX0_closeWith_20 : decode cX0_closeWith 20 = .ok (.aaload, 1) := by decide +kernel
theorem dX0_closeWith_21 : decode cX0_closeWith 21 = .ok (.iconst 0, 1) := by decide +kernel
theorem dX0_closeWith_22 : decode cX0_closeWith 22 = .ok (.iconst 1, 1) := by decide +kernel
theorem dX0_closeWith_23 : decode cX0_closeWith 23 = .ok (.iastore, 1) := by decide +kernel
theorem dX0_closeWith_24 : decode cX0_closeWith 24 = .ok (.iconst 1, 1) := by decide +kernel
theorem dX0_closeWith_25 : decode cX0_closeWith 25 = .ok (.istore_n 3, 1) := by decide +kernel
theorem dX0_closeWith_26 : decode cX0_closeWith 26 = .ok (.aload_n 1, 1) := by decide +kernel
theorem dX0_closeWith_27 : decode cX0_closeWith 27 = .ok (.getfield 46, 3) := by decide +kernel
theorem dX0_closeWith_30 : decode cX0_closeWith 30 = .ok (.iload_n 2, 1) := by decide +kernel
theorem dX0_closeWith_31 : decode cX0_closeWith 31 = .ok (.iaload, 1) := by decide +kernel
theorem dX0_closeWith_32 : decode cX0_closeWith 32 = .ok (.istore 4, 2) := by decide +kernel
theorem dX0_closeWith_34 : decode cX0_closeWith 34 = .ok (.iload_n 3, 1) := by decide +kernel
theorem dX0_closeWith_35 : decode cX0_closeWith 35 = .ok (.bipush 6, 2) := by decide +kernel
theorem dX0_closeWith_37 : decode cX0_closeWith 37 = .ok (.if_icmp .ge 105, 3) := by decide +kernel
theorem dX0_closeWith_40 : decode cX0_closeWith 40 = .ok (.aload_n 0, 1) := by decide +kernel
theorem dX0_closeWith_41 : decode cX0_closeWith 41 = .ok (.getfield 31, 3) := by decide +kernel
theorem dX0_closeWith_44 : decode cX0_closeWith 44 = .ok (.iload 4, 2) := by decide +kernel
theorem dX0_closeWith_46 : decode cX0_closeWith 46 = .ok (.iaload, 1) := by decide +kernel
theorem dX0_closeWith_47 : decode cX0_closeWith 47 = .ok (.ifCond .lt 95, 3) := by decide +kernel
theorem dX0_closeWith_50 : decode cX0_closeWith 50 = .ok (.aload_n 0, 1) := by decide +kernel
theorem dX0_closeWith_51 : decode cX0_closeWith 51 = .ok (.getfield 31, 3) := by decide +kernel
theorem dX0_closeWith_54 : decode cX0_closeWith 54 = .ok (.iload 4, 2) := by decide +kernel
theorem dX0_closeWith_56 : decode cX0_closeWith 56 = .ok (.iaload, 1) := by decide +kernel
theorem dX0_closeWith_57 : decode cX0_closeWith 57 = .ok (.istore 5, 2) := by decide +kernel
theorem dX0_closeWith_59 : decode cX0_closeWith 59 = .ok (.aload_n 1, 1) := by decide +kernel
theorem dX0_closeWith_60 : decode cX0_closeWith 60 = .ok (.getfield 39, 3) := by decide +kernel
theorem dX0_closeWith_63 : decode cX0_closeWith 63 = .ok (.iload 5, 2) := by decide +kernel
theorem dX0_closeWith_65 : decode cX0_closeWith 65 = .ok (.iaload, 1) := by decide +kernel
theorem dX0_closeWith_66 : decode cX0_closeWith 66 = .ok (.iload 4, 2) := by decide +kernel
theorem dX0_closeWith_68 : decode cX0_closeWith 68 = .ok (.if_icmp .ne 7, 3) := by decide +kernel
theorem dX0_closeWith_71 : decode cX0_closeWith 71 = .ok (.iconst 1, 1) := by decide +kernel
theorem dX0_closeWith_72 : decode cX0_closeWith 72 = .ok (.goto 4, 3) := by decide +kernel
theorem dX0_closeWith_75 : decode cX0_closeWith 75 = .ok (.iconst 0, 1) := by decide +kernel
theorem dX0_closeWith_76 : decode cX0_closeWith 76 = .ok (.istore 6, 2) := by decide +kernel
theorem dX0_closeWith_78 : decode cX0_closeWith 78 = .ok (.aload_n 0, 1) := by decide +kernel
theorem dX0_closeWith_79 : decode cX0_closeWith 79 = .ok (.getfield 21, 3) := by decide +kernel
theorem dX0_closeWith_82 : decode cX0_closeWith 82 = .ok (.aload_n 0, 1) := by decide +kernel
theorem dX0_closeWith_83 : decode cX0_closeWith 83 = .ok (.getfield 9, 3) := by decide +kernel
theorem dX0_closeWith_86 : decode cX0_closeWith 86 = .ok (.aaload, 1) := by decide +kernel
theorem dX0_closeWith_87 : decode cX0_closeWith 87 = .ok (.iload_n 3, 1) := by decide +kernel
theorem dX0_closeWith_88 : decode cX0_closeWith 88 = .ok (.iload 5, 2) := by decide +kernel
theorem dX0_closeWith_90 : decode cX0_closeWith 90 = .ok (.iastore, 1) := by decide +kernel
theorem dX0_closeWith_91 : decode cX0_closeWith 91 = .ok (.aload_n 0, 1) := by decide +kernel
theorem dX0_closeWith_92 : decode cX0_closeWith 92 = .ok (.getfield 24, 3) := by decide +kernel
theorem dX0_closeWith_95 : decode cX0_closeWith 95 = .ok (.aload_n 0, 1) := by decide +kernel
theorem dX0_closeWith_96 : decode cX0_closeWith 96 = .ok (.getfield 9, 3) := by decide +kernel
theorem dX0_closeWith_99 : decode cX0_closeWith 99 = .ok (.aaload, 1) := by decide +kernel
theorem dX0_closeWith_100 : decode cX0_closeWith 100 = .ok (.iload_n 3, 1) := by decide +kernel
theorem dX0_closeWith_101 : decode cX0_closeWith 101 = .ok (.iload 6, 2) := by decide +kernel
theorem dX0_closeWith_103 : decode cX0_closeWith 103 = .ok (.ifCond .eq 7, 3) := by decide +kernel
theorem dX0_closeWith_106 : decode cX0_closeWith 106 = .ok (.iconst 1, 1) := by decide +kernel
theorem dX0_closeWith_107 : decode cX0_closeWith 107 = .ok (.goto 4, 3) := by decide +kernel
theorem dX0_closeWith_110 : decode cX0_closeWith 110 = .ok (.iconst (-1), 1) := by decide +kernel
theorem dX0_closeWith_111 : decode cX0_closeWith 111 = .ok (.iastore, 1) := by decide +kernel
theorem dX0_closeWith_112 : decode cX0_closeWith 112 = .ok (.iload 6, 2) := by decide +kernel
theorem dX0_closeWith_114 : decode cX0_closeWith 114 = .ok (.ifCond .eq 13, 3) := by decide +kernel
theorem dX0_closeWith_117 : decode cX0_closeWith 117 = .ok (.aload_n 1, 1) := by decide +kernel
theorem dX0_closeWith_118 : decode cX0_closeWith 118 = .ok (.getfield 46, 3) := by decide +kernel
theorem dX0_closeWith_121 : decode cX0_closeWith 121 = .ok (.iload 5, 2) := by decide +kernel
theorem dX0_closeWith_123 : decode cX0_closeWith 123 = .ok (.iaload, 1) := by decide +kernel
theorem dX0_closeWith_124 : decode cX0_closeWith 124 = .ok (.goto 10, 3) := by decide +kernel
theorem dX0_closeWith_127 : decode cX0_closeWith 127 = .ok (.aload_n 1, 1) := by decide +kernel
theorem dX0_closeWith_128 : decode cX0_closeWith 128 = .ok (.getfield 39, 3) := by decide +kernel
theorem dX0_closeWith_131 : decode cX0_closeWith 131 = .ok (.iload 5, 2) := by decide +kernel
theorem dX0_closeWith_133 : decode cX0_closeWith 133 = .ok (.iaload, 1) := by decide +kernel
theorem dX0_closeWith_134 : decode cX0_closeWith 134 = .ok (.istore 4, 2) := by decide +kernel
theorem dX0_closeWith_136 : decode cX0_closeWith 136 = .ok (.iinc 3 1, 3) := by decide +kernel
theorem dX0_closeWith_139 : decode cX0_closeWith 139 = .ok (.goto (-105), 3) := by decide +kernel
theorem dX0_closeWith_142 : decode cX0_closeWith 142 = .ok (.aload_n 0, 1) := by decide +kernel
theorem dX0_closeWith_143 : decode cX0_closeWith 143 = .ok (.getfield 15, 3) := by decide +kernel
theorem dX0_closeWith_146 : decode cX0_closeWith 146 = .ok (.aload_n 0, 1) := by decide +kernel
theorem dX0_closeWith_147 : decode cX0_closeWith 147 = .ok (.getfield 9, 3) := by decide +kernel
theorem dX0_closeWith_150 : decode cX0_closeWith 150 = .ok (.iload_n 3, 1) := by decide +kernel
theorem dX0_closeWith_151 : decode cX0_closeWith 151 = .ok (.iastore, 1) := by decide +kernel
theorem dX0_closeWith_152 : decode cX0_closeWith 152 = .ok (.aload_n 0, 1) := by decide +kernel
theorem dX0_closeWith_153 : decode cX0_closeWith 153 = .ok (.dup, 1) := by decide +kernel
theorem dX0_closeWith_154 : decode cX0_closeWith 154 = .ok (.getfield 9, 3) := by decide +kernel
theorem dX0_closeWith_157 : decode cX0_closeWith 157 = .ok (.iconst 1, 1) := by decide +kernel
theorem dX0_closeWith_158 : decode cX0_closeWith 158 = .ok (.iadd, 1) := by decide +kernel
theorem dX0_closeWith_159 : decode cX0_closeWith 159 = .ok (.putfield 9, 3) := by decide +kernel
theorem dX0_closeWith_162 : decode cX0_closeWith 162 = .ok (.return_, 1) := by decide +kernel
theorem dX0_turnsNow_0 : decode cX0_turnsNow 0 = .ok (.iconst 0, 1) := by decide +kernel
theorem dX0_turnsNow_1 : decode cX0_turnsNow 1 = .ok (.istore_n 3, 1) := by decide +kernel
theorem dX0_turnsNow_2 : decode cX0_turnsNow 2 = .ok (.iconst 0, 1) := by decide +kernel
theorem dX0_turnsNow_3 : decode cX0_turnsNow 3 = .ok (.istore 4, 2) := by decide +kernel
theorem dX0_turnsNow_5 : decode cX0_turnsNow 5 = .ok (.iload 4, 2) := by decide +kernel
theorem dX0_turnsNow_7 : decode cX0_turnsNow 7 = .ok (.aload_n 0, 1) := by decide +kernel
theorem dX0_turnsNow_8 : decode cX0_turnsNow 8 = .ok (.getfield 15, 3) := by decide +kernel
theorem dX0_turnsNow_11 : decode cX0_turnsNow 11 = .ok (.iload_n 2, 1) := by decide +kernel
theorem dX0_turnsNow_12 : decode cX0_turnsNow 12 = .ok (.iaload, 1) := by decide +kernel
theorem dX0_turnsNow_13 : decode cX0_turnsNow 13 = .ok (.if_icmp .ge 47, 3) := by decide +kernel
theorem dX0_turnsNow_16 : decode cX0_turnsNow 16 = .ok (.aload_n 0, 1) := by decide +kernel
theorem dX0_turnsNow_17 : decode cX0_turnsNow 17 = .ok (.getfield 21, 3) := by decide +kernel
theorem dX0_turnsNow_20 : decode cX0_turnsNow 20 = .ok (.iload_n 2, 1) := by decide +kernel
theorem dX0_turnsNow_21 : decode cX0_turnsNow 21 = .ok (.aaload, 1) := by decide +kernel
theorem dX0_turnsNow_22 : decode cX0_turnsNow 22 = .ok (.iload 4, 2) := by decide +kernel
theorem dX0_turnsNow_24 : decode cX0_turnsNow 24 = .ok (.iaload, 1) := by decide +kernel
theorem dX0_turnsNow_25 : decode cX0_turnsNow 25 = .ok (.istore 5, 2) := by decide +kernel
theorem dX0_turnsNow_27 : decode cX0_turnsNow 27 = .ok (.iload_n 3, 1) := by decide +kernel
theorem dX0_turnsNow_28 : decode cX0_turnsNow 28 = .ok (.aload_n 0, 1) := by decide +kernel
theorem dX0_turnsNow_29 : decode cX0_turnsNow 29 = .ok (.getfield 24, 3) := by decide +kernel
theorem dX0_turnsNow_32 : decode cX0_turnsNow 32 = .ok (.iload_n 2, 1) := by decide +kernel
theorem dX0_turnsNow_33 : decode cX0_turnsNow 33 = .ok (.aaload, 1) := by decide +kernel
theorem dX0_turnsNow_34 : decode cX0_turnsNow 34 = .ok (.iload 4, 2) := by decide +kernel
theorem dX0_turnsNow_36 : decode cX0_turnsNow 36 = .ok (.iaload, 1) := by decide +kernel
theorem dX0_turnsNow_37 : decode cX0_turnsNow 37 = .ok (.aload_n 1, 1) := by decide +kernel
theorem dX0_turnsNow_38 : decode cX0_turnsNow 38 = .ok (.getfield 60, 3) := by decide +kernel
theorem dX0_turnsNow_41 : decode cX0_turnsNow 41 = .ok (.iload 5, 2) := by decide +kernel
theorem dX0_turnsNow_43 : decode cX0_turnsNow 43 = .ok (.iaload, 1) := by decide +kernel
theorem dX0_turnsNow_44 : decode cX0_turnsNow 44 = .ok (.aload_n 1, 1) := by decide +kernel
theorem dX0_turnsNow_45 : decode cX0_turnsNow 45 = .ok (.iload 5, 2) := by decide +kernel
theorem dX0_turnsNow_47 : decode cX0_turnsNow 47 = .ok (.invokevirtual 63, 3) := by decide +kernel
theorem dX0_turnsNow_50 : decode cX0_turnsNow 50 = .ok (.iadd, 1) := by decide +kernel
theorem dX0_turnsNow_51 : decode cX0_turnsNow 51 = .ok (.imul, 1) := by decide +kernel
theorem dX0_turnsNow_52 : decode cX0_turnsNow 52 = .ok (.iadd, 1) := by decide +kernel
theorem dX0_turnsNow_53 : decode cX0_turnsNow 53 = .ok (.istore_n 3, 1) := by decide +kernel
theorem dX0_turnsNow_54 : decode cX0_turnsNow 54 = .ok (.iinc 4 1, 3) := by decide +kernel
theorem dX0_turnsNow_57 : decode cX0_turnsNow 57 = .ok (.goto (-52), 3) := by decide +kernel
theorem dX0_turnsNow_60 : decode cX0_turnsNow 60 = .ok (.iload_n 3, 1) := by decide +kernel
theorem dX0_turnsNow_61 : decode cX0_turnsNow 61 = .ok (.aload_n 1, 1) := by decide +kernel
theorem dX0_turnsNow_62 : decode cX0_turnsNow 62 = .ok (.getfield 67, 3) := by decide +kernel
theorem dX0_turnsNow_65 : decode cX0_turnsNow 65 = .ok (.invokestatic 70, 3) := by decide +kernel
theorem dX0_turnsNow_68 : decode cX0_turnsNow 68 = .ok (.ireturn, 1) := by decide +kernel
theorem dX0_leastTurns_0 : decode cX0_leastTurns 0 = .ok (.aload_n 0, 1) := by decide +kernel
theorem dX0_leastTurns_1 : decode cX0_leastTurns 1 = .ok (.iload_n 2, 1) := by decide +kernel
theorem dX0_leastTurns_2 : decode cX0_leastTurns 2 = .ok (.aload_n 1, 1) := by decide +kernel
theorem dX0_leastTurns_3 : decode cX0_leastTurns 3 = .ok (.getfield 60, 3) := by decide +kernel
theorem dX0_leastTurns_6 : decode cX0_leastTurns 6 = .ok (.aload_n 1, 1) := by decide +kernel
theorem dX0_leastTurns_7 : decode cX0_leastTurns 7 = .ok (.getfield 74, 3) := by decide +kernel
theorem dX0_leastTurns_10 : decode cX0_leastTurns 10 = .ok (.invokevirtual 77, 3) := by decide +kernel
theorem dX0_leastTurns_13 : decode cX0_leastTurns 13 = .ok (.ineg, 1) := by decide +kernel
theorem dX0_leastTurns_14 : decode cX0_leastTurns 14 = .ok (.aload_n 1, 1) := by decide +kernel
theorem dX0_leastTurns_15 : decode cX0_leastTurns 15 = .ok (.getfield 67, 3) := by decide +kernel
theorem dX0_leastTurns_18 : decode cX0_leastTurns 18 = .ok (.invokestatic 70, 3) := by decide +kernel
theorem dX0_leastTurns_21 : decode cX0_leastTurns 21 = .ok (.ineg, 1) := by decide +kernel
theorem dX0_leastTurns_22 : decode cX0_leastTurns 22 = .ok (.ireturn, 1) := by decide +kernel
theorem dX0_mostTurns_0 : decode cX0_mostTurns 0 = .ok (.aload_n 0, 1) := by decide +kernel
theorem dX0_mostTurns_1 : decode cX0_mostTurns 1 = .ok (.iload_n 2, 1) := by decide +kernel
theorem dX0_mostTurns_2 : decode cX0_mostTurns 2 = .ok (.aload_n 1, 1) := by decide +kernel
theorem dX0_mostTurns_3 : decode cX0_mostTurns 3 = .ok (.getfield 74, 3) := by decide +kernel
theorem dX0_mostTurns_6 : decode cX0_mostTurns 6 = .ok (.aload_n 1, 1) := by decide +kernel
theorem dX0_mostTurns_7 : decode cX0_mostTurns 7 = .ok (.getfield 60, 3) := by decide +kernel
theorem dX0_mostTurns_10 : decode cX0_mostTurns 10 = .ok (.invokevirtual 77, 3) := by decide +kernel
theorem dX0_mostTurns_13 : decode cX0_mostTurns 13 = .ok (.aload_n 1, 1) := by decide +kernel
theorem dX0_mostTurns_14 : decode cX0_mostTurns 14 = .ok (.getfield 67, 3) := by decide +kernel
theorem dX0_mostTurns_17 : decode cX0_mostTurns 17 = .ok (.invokestatic 70, 3) := by decide +kernel
theorem dX0_mostTurns_20 : decode cX0_mostTurns 20 = .ok (.ireturn, 1) := by decide +kernel
theorem dX0_sumOf_0 : decode cX0_sumOf 0 = .ok (.iconst 0, 1) := by decide +kernel
theorem dX0_sumOf_1 : decode cX0_sumOf 1 = .ok (.istore 4, 2) := by decide +kernel
theorem dX0_sumOf_3 : decode cX0_sumOf 3 = .ok (.iconst 0, 1) := by decide +kernel
theorem dX0_sumOf_4 : decode cX0_sumOf 4 = .ok (.istore 5, 2) := by decide +kernel
theorem dX0_sumOf_6 : decode cX0_sumOf 6 = .ok (.iload 5, 2) := by decide +kernel
theorem dX0_sumOf_8 : decode cX0_sumOf 8 = .ok (.aload_n 0, 1) := by decide +kernel
theorem dX0_sumOf_9 : decode cX0_sumOf 9 = .ok (.getfield 15, 3) := by decide +kernel
theorem dX0_sumOf_12 : decode cX0_sumOf 12 = .ok (.iload_n 1, 1) := by decide +kernel
theorem dX0_sumOf_13 : decode cX0_sumOf 13 = .ok (.iaload, 1) := by decide +kernel
theorem dX0_sumOf_14 : decode cX0_sumOf 14 = .ok (.if_icmp .ge 49, 3) := by decide +kernel
theorem dX0_sumOf_17 : decode cX0_sumOf 17 = .ok (.aload_n 0, 1) := by decide +kernel
theorem dX0_sumOf_18 : decode cX0_sumOf 18 = .ok (.getfield 21, 3) := by decide +kernel
theorem dX0_sumOf_21 : decode cX0_sumOf 21 = .ok (.iload_n 1, 1) := by decide +kernel
theorem dX0_sumOf_22 : decode cX0_sumOf 22 = .ok (.aaload, 1) := by decide +kernel
theorem dX0_sumOf_23 : decode cX0_sumOf 23 = .ok (.iload 5, 2) := by decide +kernel
theorem dX0_sumOf_25 : decode cX0_sumOf 25 = .ok (.iaload, 1) := by decide +kernel
theorem dX0_sumOf_26 : decode cX0_sumOf 26 = .ok (.istore 6, 2) := by decide +kernel
theorem dX0_sumOf_28 : decode cX0_sumOf 28 = .ok (.iload 4, 2) := by decide +kernel
theorem dX0_sumOf_30 : decode cX0_sumOf 30 = .ok (.aload_n 0, 1) := by decide +kernel
theorem dX0_sumOf_31 : decode cX0_sumOf 31 = .ok (.getfield 24, 3) := by decide +kernel
theorem dX0_sumOf_34 : decode cX0_sumOf 34 = .ok (.iload_n 1, 1) := by decide +kernel
theorem dX0_sumOf_35 : decode cX0_sumOf 35 = .ok (.aaload, 1) := by decide +kernel
theorem dX0_sumOf_36 : decode cX0_sumOf 36 = .ok (.iload 5, 2) := by decide +kernel
theorem dX0_sumOf_38 : decode cX0_sumOf 38 = .ok (.iaload, 1) := by decide +kernel
theorem dX0_sumOf_39 : decode cX0_sumOf 39 = .ok (.ifCond .le 10, 3) := by decide +kernel
theorem dX0_sumOf_42 : decode cX0_sumOf 42 = .ok (.aload_n 2, 1) := by decide +kernel
theorem dX0_sumOf_43 : decode cX0_sumOf 43 = .ok (.iload 6, 2) := by decide +kernel
theorem dX0_sumOf_45 : decode cX0_sumOf 45 = .ok (.iaload, 1) := by decide +kernel
theorem dX0_sumOf_46 : decode cX0_sumOf 46 = .ok (.goto 8, 3) := by decide +kernel
theorem dX0_sumOf_49 : decode cX0_sumOf 49 = .ok (.aload_n 3, 1) := by decide +kernel
theorem dX0_sumOf_50 : decode cX0_sumOf 50 = .ok (.iload 6, 2) := by decide +kernel
theorem dX0_sumOf_52 : decode cX0_sumOf 52 = .ok (.iaload, 1) := by decide +kernel
theorem dX0_sumOf_53 : decode cX0_sumOf 53 = .ok (.ineg, 1) := by decide +kernel
theorem dX0_sumOf_54 : decode cX0_sumOf 54 = .ok (.iadd, 1) := by decide +kernel
theorem dX0_sumOf_55 : decode cX0_sumOf 55 = .ok (.istore 4, 2) := by decide +kernel
theorem dX0_sumOf_57 : decode cX0_sumOf 57 = .ok (.iinc 5 1, 3) := by decide +kernel
theorem dX0_sumOf_60 : decode cX0_sumOf 60 = .ok (.goto (-54), 3) := by decide +kernel
theorem dX0_sumOf_63 : decode cX0_sumOf 63 = .ok (.iload 4, 2) := by decide +kernel
theorem dX0_sumOf_65 : decode cX0_sumOf 65 = .ok (.ireturn, 1) := by decide +kernel
theorem dX0_quotient_0 : decode cX0_quotient 0 = .ok (.iload_n 1, 1) := by decide +kernel
theorem dX0_quotient_1 : decode cX0_quotient 1 = .ok (.iconst 1, 1) := by decide +kernel
theorem dX0_quotient_2 : decode cX0_quotient 2 = .ok (.if_icmp .ge 7, 3) := by decide +kernel
theorem dX0_quotient_5 : decode cX0_quotient 5 = .ok (.iconst 0, 1) := by decide +kernel
theorem dX0_quotient_6 : decode cX0_quotient 6 = .ok (.goto 8, 3) := by decide +kernel
theorem dX0_quotient_9 : decode cX0_quotient 9 = .ok (.iload_n 0, 1) := by decide +kernel
theorem dX0_quotient_10 : decode cX0_quotient 10 = .ok (.iload_n 1, 1) := by decide +kernel
theorem dX0_quotient_11 : decode cX0_quotient 11 = .ok (.invokestatic 81, 3) := by decide +kernel
theorem dX0_quotient_14 : decode cX0_quotient 14 = .ok (.ireturn, 1) := by decide +kernel
theorem dX1_init_0 : decode cX1_init 0 = .ok (.aload_n 0, 1) := by decide +kernel
theorem dX1_init_1 : decode cX1_init 1 = .ok (.invokespecial 3, 3) := by decide +kernel
theorem dX1_init_4 : decode cX1_init 4 = .ok (.aload_n 0, 1) := by decide +kernel
theorem dX1_init_5 : decode cX1_init 5 = .ok (.iconst 0, 1) := by decide +kernel
theorem dX1_init_6 : decode cX1_init 6 = .ok (.putfield 9, 3) := by decide +kernel
theorem dX1_init_9 : decode cX1_init 9 = .ok (.aload_n 0, 1) := by decide +kernel
theorem dX1_init_10 : decode cX1_init 10 = .ok (.bipush 36, 2) := by decide +kernel
theorem dX1_init_12 : decode cX1_init 12 = .ok (.newarray .int, 2) := by decide +kernel
theorem dX1_init_14 : decode cX1_init 14 = .ok (.putfield 15, 3) := by decide +kernel
theorem dX1_init_17 : decode cX1_init 17 = .ok (.aload_n 0, 1) := by decide +kernel
theorem dX1_init_18 : decode cX1_init 18 = .ok (.iconst 0, 1) := by decide +kernel
theorem dX1_init_19 : decode cX1_init 19 = .ok (.putfield 19, 3) := by decide +kernel
theorem dX1_init_22 : decode cX1_init 22 = .ok (.aload_n 0, 1) := by decide +kernel
theorem dX1_init_23 : decode cX1_init 23 = .ok (.bipush 12, 2) := by decide +kernel
theorem dX1_init_25 : decode cX1_init 25 = .ok (.putfield 22, 3) := by decide +kernel
theorem dX1_init_28 : decode cX1_init 28 = .ok (.aload_n 0, 1) := by decide +kernel
theorem dX1_init_29 : decode cX1_init 29 = .ok (.iconst 0, 1) := by decide +kernel
theorem dX1_init_30 : decode cX1_init 30 = .ok (.putfield 25, 3) := by decide +kernel
theorem dX1_init_33 : decode cX1_init 33 = .ok (.return_, 1) := by decide +kernel
theorem dX1_startFrom_0 : decode cX1_startFrom 0 = .ok (.aload_n 0, 1) := by decide +kernel
theorem dX1_startFrom_1 : decode cX1_startFrom 1 = .ok (.aload_n 1, 1) := by decide +kernel
theorem dX1_startFrom_2 : decode cX1_startFrom 2 = .ok (.getfield 28, 3) := by decide +kernel
theorem dX1_startFrom_5 : decode cX1_startFrom 5 = .ok (.putfield 19, 3) := by decide +kernel
theorem dX1_startFrom_8 : decode cX1_startFrom 8 = .ok (.aload_n 0, 1) := by decide +kernel
theorem dX1_startFrom_9 : decode cX1_startFrom 9 = .ok (.aload_n 1, 1) := by decide +kernel
theorem dX1_startFrom_10 : decode cX1_startFrom 10 = .ok (.getfield 33, 3) := by decide +kernel
theorem dX1_startFrom_13 : decode cX1_startFrom 13 = .ok (.putfield 22, 3) := by decide +kernel
theorem dX1_startFrom_16 : decode cX1_startFrom 16 = .ok (.aload_n 0, 1) := by decide +kernel
theorem dX1_startFrom_17 : decode cX1_startFrom 17 = .ok (.iconst 1, 1) := by decide +kernel
theorem dX1_startFrom_18 : decode cX1_startFrom 18 = .ok (.aload_n 0, 1) := by decide +kernel
theorem dX1_startFrom_19 : decode cX1_startFrom 19 = .ok (.getfield 22, 3) := by decide +kernel
theorem dX1_startFrom_22 : decode cX1_startFrom 22 = .ok (.ishl, 1) := by decide +kernel
theorem dX1_startFrom_23 : decode cX1_startFrom 23 = .ok (.iconst 1, 1) := by decide +kernel
theorem dX1_startFrom_24 : decode cX1_startFrom 24 = .ok (.isub, 1) := by decide +kernel
theorem dX1_startFrom_25 : decode cX1_startFrom 25 = .ok (.putfield 25, 3) := by decide +kernel
theorem dX1_startFrom_28 : decode cX1_startFrom 28 = .ok (.aload_n 0, 1) := by decide +kernel
theorem dX1_startFrom_29 : decode cX1_startFrom 29 = .ok (.iconst 0, 1) := by decide +kernel
theorem dX1_startFrom_30 : decode cX1_startFrom 30 = .ok (.putfield 9, 3) := by decide +kernel
theorem dX1_startFrom_33 : decode cX1_startFrom 33 = .ok (.iconst 0, 1) := by decide +kernel
theorem dX1_startFrom_34 : decode cX1_startFrom 34 = .ok (.istore_n 2, 1) := by decide +kernel
theorem dX1_startFrom_35 : decode cX1_startFrom 35 = .ok (.iload_n 2, 1) := by decide +kernel
theorem dX1_startFrom_36 : decode cX1_startFrom 36 = .ok (.aload_n 0, 1) := by decide +kernel
theorem dX1_startFrom_37 : decode cX1_startFrom 37 = .ok (.getfield 19, 3) := by decide +kernel
theorem dX1_startFrom_40 : decode cX1_startFrom 40 = .ok (.if_icmp .ge 49, 3) := by decide +kernel
theorem dX1_startFrom_43 : decode cX1_startFrom 43 = .ok (.iconst 0, 1) := by decide +kernel
theorem dX1_startFrom_44 : decode cX1_startFrom 44 = .ok (.istore_n 3, 1) := by decide +kernel
theorem dX1_startFrom_45 : decode cX1_startFrom 45 = .ok (.iload_n 3, 1) := by decide +kernel
theorem dX1_startFrom_46 : decode cX1_startFrom 46 = .ok (.aload_n 0, 1) := by decide +kernel
theorem dX1_startFrom_47 : decode cX1_startFrom 47 = .ok (.getfield 19, 3) := by decide +kernel
theorem dX1_startFrom_50 : decode cX1_startFrom 50 = .ok (.if_icmp .ge 33, 3) := by decide +kernel
theorem dX1_startFrom_53 : decode cX1_startFrom 53 = .ok (.aload_n 0, 1) := by decide +kernel
theorem dX1_startFrom_54 : decode cX1_startFrom 54 = .ok (.getfield 15, 3) := by decide +kernel
theorem dX1_startFrom_57 : decode cX1_startFrom 57 = .ok (.iload_n 2, 1) := by decide +kernel
theorem dX1_startFrom_58 : decode cX1_startFrom 58 = .ok (.bipush 6, 2) := by decide +kernel
theorem dX1_startFrom_60 : decode cX1_startFrom 60 = .ok (.imul, 1) := by decide +kernel
theorem dX1_startFrom_61 : decode cX1_startFrom 61 = .ok (.iload_n 3, 1) := by decide +kernel
theorem dX1_startFrom_62 : decode cX1_startFrom 62 = .ok (.iadd, 1) := by decide +kernel
theorem dX1_startFrom_63 : decode cX1_startFrom 63 = .ok (.iload_n 2, 1) := by decide +kernel
theorem dX1_startFrom_64 : decode cX1_startFrom 64 = .ok (.iload_n 3, 1) := by decide +kernel
theorem dX1_startFrom_65 : decode cX1_startFrom 65 = .ok (.if_icmp .ne 7, 3) := by decide +kernel
theorem dX1_startFrom_68 : decode cX1_startFrom 68 = .ok (.iconst 1, 1) := by decide +kernel
theorem dX1_startFrom_69 : decode cX1_startFrom 69 = .ok (.goto 7, 3) := by decide +kernel
theorem dX1_startFrom_72 : decode cX1_startFrom 72 = .ok (.aload_n 0, 1) := by decide +kernel
theorem dX1_startFrom_73 : decode cX1_startFrom 73 = .ok (.getfield 25, 3) := by decide +kernel
theorem dX1_startFrom_76 : decode cX1_startFrom 76 = .ok (.iastore, 1) := by decide +kernel
theorem dX1_startFrom_77 : decode cX1_startFrom 77 = .ok (.iinc 3 1, 3) := by decide +kernel
theorem dX1_startFrom_80 : decode cX1_startFrom 80 = .ok (.goto (-35), 3) := by decide +kernel
theorem dX1_startFrom_83 : decode cX1_startFrom 83 = .ok (.iinc 2 1, 3) := by decide +kernel
theorem dX1_startFrom_86 : decode cX1_startFrom 86 = .ok (.goto (-51), 3) := by decide +kernel
theorem dX1_startFrom_89 : decode cX1_startFrom 89 = .ok (.iconst 0, 1) := by decide +kernel
theorem dX1_startFrom_90 : decode cX1_startFrom 90 = .ok (.istore_n 2, 1) := by decide +kernel
theorem dX1_startFrom_91 : decode cX1_startFrom 91 = .ok (.iload_n 2, 1) := by decide +kernel
theorem dX1_startFrom_92 : decode cX1_startFrom 92 = .ok (.aload_n 1, 1) := by decide +kernel
theorem dX1_startFrom_93 : decode cX1_startFrom 93 = .ok (.getfield 34, 3) := by decide +kernel
theorem dX1_startFrom_96 : decode cX1_startFrom 96 = .ok (.if_icmp .ge 31, 3) := by decide +kernel
theorem dX1_startFrom_99 : decode cX1_startFrom 99 = .ok (.aload_n 0, 1) := by decide +kernel
theorem dX1_startFrom_100 : decode cX1_startFrom 100 = .ok (.aload_n 1, 1) := by decide +kernel
theorem dX1_startFrom_101 : decode cX1_startFrom 101 = .ok (.getfield 37, 3) := by decide +kernel
theorem dX1_startFrom_104 : decode cX1_startFrom 104 = .ok (.iload_n 2, 1) := by decide +kernel
theorem dX1_startFrom_105 : decode cX1_startFrom 105 = .ok (.iaload, 1) := by decide +kernel
theorem dX1_startFrom_106 : decode cX1_startFrom 106 = .ok (.aload_n 1, 1) := by decide +kernel
theorem dX1_startFrom_107 : decode cX1_startFrom 107 = .ok (.getfield 40, 3) := by decide +kernel
theorem dX1_startFrom_110 : decode cX1_startFrom 110 = .ok (.iload_n 2, 1) := by decide +kernel
theorem dX1_startFrom_111 : decode cX1_startFrom 111 = .ok (.iaload, 1) := by decide +kernel
theorem dX1_startFrom_112 : decode cX1_startFrom 112 = .ok (.aload_n 1, 1) := by decide +kernel
theorem dX1_startFrom_113 : decode cX1_startFrom 113 = .ok (.iload_n 2, 1) := by decide +kernel
theorem dX1_startFrom_114 : decode cX1_startFrom 114 = .ok (.invokestatic 43, 3) := by decide +kernel
theorem dX1_startFrom_117 : decode cX1_startFrom 117 = .ok (.invokevirtual 47, 3) := by decide +kernel
theorem dX1_startFrom_120 : decode cX1_startFrom 120 = .ok (.pop, 1) := by decide +kernel
theorem dX1_startFrom_121 : decode cX1_startFrom 121 = .ok (.iinc 2 1, 3) := by decide +kernel
theorem dX1_startFrom_124 : decode cX1_startFrom 124 = .ok (.goto (-33), 3) := by decide +kernel
theorem dX1_startFrom_127 : decode cX1_startFrom 127 = .ok (.return_, 1) := by decide +kernel
theorem dX1_keptWith_0 : decode cX1_keptWith 0 = .ok (.iconst 0, 1) := by decide +kernel
theorem dX1_keptWith_1 : decode cX1_keptWith 1 = .ok (.istore_n 2, 1) := by decide +kernel
theorem dX1_keptWith_2 : decode cX1_keptWith 2 = .ok (.iconst 0, 1) := by decide +kernel
theorem dX1_keptWith_3 : decode cX1_keptWith 3 = .ok (.istore_n 3, 1) := by decide +kernel
theorem dX1_keptWith_4 : decode cX1_keptWith 4 = .ok (.iload_n 3, 1) := by decide +kernel
theorem dX1_keptWith_5 : decode cX1_keptWith 5 = .ok (.aload_n 0, 1) := by decide +kernel
theorem dX1_keptWith_6 : decode cX1_keptWith 6 = .ok (.getfield 33, 3) := by decide +kernel
theorem dX1_keptWith_9 : decode cX1_keptWith 9 = .ok (.if_icmp .ge 37, 3) := by decide +kernel
theorem dX1_keptWith_12 : decode cX1_keptWith 12 = .ok (.aload_n 0, 1) := by decide +kernel
theorem dX1_keptWith_13 : decode cX1_keptWith 13 = .ok (.getfield 51, 3) := by decide +kernel
theorem dX1_keptWith_16 : decode cX1_keptWith 16 = .ok (.iload_n 1, 1) := by decide +kernel
theorem dX1_keptWith_17 : decode cX1_keptWith 17 = .ok (.iaload, 1) := by decide +kernel
theorem dX1_keptWith_18 : decode cX1_keptWith 18 = .ok (.aload_n 0, 1) := by decide +kernel
theorem dX1_keptWith_19 : decode cX1_keptWith 19 = .ok (.iload_n 1, 1) := by decide +kernel
theorem dX1_keptWith_20 : decode cX1_keptWith 20 = .ok (.iload_n 3, 1) := by decide +kernel
theorem dX1_keptWith_21 : decode cX1_keptWith 21 = .ok (.invokevirtual 54, 3) := by decide +kernel
theorem dX1_keptWith_24 : decode cX1_keptWith 24 = .ok (.iadd, 1) := by decide +kernel
theorem dX1_keptWith_25 : decode cX1_keptWith 25 = .ok (.aload_n 0, 1) := by decide +kernel
theorem dX1_keptWith_26 : decode cX1_keptWith 26 = .ok (.getfield 58, 3) := by decide +kernel
theorem dX1_keptWith_29 : decode cX1_keptWith 29 = .ok (.iload_n 1, 1) := by decide +kernel
theorem dX1_keptWith_30 : decode cX1_keptWith 30 = .ok (.iaload, 1) := by decide +kernel
theorem dX1_keptWith_31 : decode cX1_keptWith 31 = .ok (.if_icmp .gt 9, 3) := by decide +kernel
theorem dX1_keptWith_34 : decode cX1_keptWith 34 = .ok (.iload_n 2, 1) := by decide +kernel
theorem dX1_keptWith_35 : decode cX1_keptWith 35 = .ok (.iconst 1, 1) := by decide +kernel
theorem dX1_keptWith_36 : decode cX1_keptWith 36 = .ok (.iload_n 3, 1) := by decide +kernel
theorem dX1_keptWith_37 : decode cX1_keptWith 37 = .ok (.ishl, 1) := by decide +kernel
theorem dX1_keptWith_38 : decode cX1_keptWith 38 = .ok (.ior, 1) := by decide +kernel
theorem dX1_keptWith_39 : decode cX1_keptWith 39 = .ok (.istore_n 2, 1) := by decide +kernel
theorem dX1_keptWith_40 : decode cX1_keptWith 40 = .ok (.iinc 3 1, 3) := by decide +kernel
theorem dX1_keptWith_43 : decode cX1_keptWith 43 = .ok (.goto (-39), 3) := by decide +kernel
theorem dX1_keptWith_46 : decode cX1_keptWith 46 = .ok (.iload_n 2, 1) := by decide +kernel
theorem dX1_keptWith_47 : decode cX1_keptWith 47 = .ok (.ireturn, 1) := by decide +kernel
theorem dX1_between_0 : decode cX1_between 0 = .ok (.aload_n 0, 1) := by decide +kernel
theorem dX1_between_1 : decode cX1_between 1 = .ok (.getfield 15, 3) := by decide +kernel
theorem dX1_between_4 : decode cX1_between 4 = .ok (.iload_n 1, 1) := by decide +kernel
theorem dX1_between_5 : decode cX1_between 5 = .ok (.bipush 6, 2) := by decide +kernel
theorem dX1_between_7 : decode cX1_between 7 = .ok (.imul, 1) := by decide +kernel
theorem dX1_between_8 : decode cX1_between 8 = .ok (.iload_n 2, 1) := by decide +kernel
theorem dX1_between_9 : decode cX1_between 9 = .ok (.iadd, 1) := by decide +kernel
theorem dX1_between_10 : decode cX1_between 10 = .ok (.iaload, 1) := by decide +kernel
theorem dX1_between_11 : decode cX1_between 11 = .ok (.ireturn, 1) := by decide +kernel
theorem dX1_allows_0 : decode cX1_allows 0 = .ok (.aload_n 0, 1) := by decide +kernel
theorem dX1_allows_1 : decode cX1_allows 1 = .ok (.iload_n 1, 1) := by decide +kernel
theorem dX1_allows_2 : decode cX1_allows 2 = .ok (.iload_n 2, 1) := by decide +kernel
theorem dX1_allows_3 : decode cX1_allows 3 = .ok (.invokevirtual 61, 3) := by decide +kernel
theorem dX1_allows_6 : decode cX1_allows 6 = .ok (.iload_n 3, 1) := by decide +kernel
theorem dX1_allows_7 : decode cX1_allows 7 = .ok (.ishr, 1) := by decide +kernel
theorem dX1_allows_8 : decode cX1_allows 8 = .ok (.iconst 1, 1) := by decide +kernel
theorem dX1_allows_9 : decode cX1_allows 9 = .ok (.iand, 1) := by decide +kernel
theorem dX1_allows_10 : decode cX1_allows 10 = .ok (.iconst 1, 1) := by decide +kernel
theorem dX1_allows_11 : decode cX1_allows 11 = .ok (.if_icmp .ne 7, 3) := by decide +kernel
theorem dX1_allows_14 : decode cX1_allows 14 = .ok (.iconst 1, 1) := by decide +kernel
theorem dX1_allows_15 : decode cX1_allows 15 = .ok (.goto 4, 3) := by decide +kernel
theorem dX1_allows_18 : decode cX1_allows 18 = .ok (.iconst 0, 1) := by decide +kernel
theorem dX1_allows_19 : decode cX1_allows 19 = .ok (.ireturn, 1) := by decide +kernel
theorem dX1_hasEmptySet_0 : decode cX1_hasEmptySet 0 = .ok (.iconst 0, 1) := by decide +kernel
theorem dX1_hasEmptySet_1 : decode cX1_hasEmptySet 1 = .ok (.istore_n 1, 1) := by decide +kernel
theorem dX1_hasEmptySet_2 : decode cX1_hasEmptySet 2 = .ok (.iload_n 1, 1) := by decide +kernel
theorem dX1_hasEmptySet_3 : decode cX1_hasEmptySet 3 = .ok (.aload_n 0, 1) := by decide +kernel
theorem dX1_hasEmptySet_4 : decode cX1_hasEmptySet 4 = .ok (.getfield 19, 3) := by decide +kernel
theorem dX1_hasEmptySet_7 : decode cX1_hasEmptySet 7 = .ok (.if_icmp .ge 36, 3) := by decide +kernel
theorem dX1_hasEmptySet_10 : decode cX1_hasEmptySet 10 = .ok (.iconst 0, 1) := by decide +kernel
theorem dX1_hasEmptySet_11 : decode cX1_hasEmptySet 11 = .ok (.istore_n 2, 1) := by decide +kernel
theorem dX1_hasEmptySet_12 : decode cX1_hasEmptySet 12 = .ok (.iload_n 2, 1) := by decide +kernel
theorem dX1_hasEmptySet_13 : decode cX1_hasEmptySet 13 = .ok (.aload_n 0, 1) := by decide +kernel
theorem dX1_hasEmptySet_14 : decode cX1_hasEmptySet 14 = .ok (.getfield 19, 3) := by decide +kernel
theorem dX1_hasEmptySet_17 : decode cX1_hasEmptySet 17 = .ok (.if_icmp .ge 20, 3) := by decide +kernel
theorem dX1_hasEmptySet_20 : decode cX1_hasEmptySet 20 = .ok (.aload_n 0, 1) := by decide +kernel
theorem dX1_hasEmptySet_21 : decode cX1_hasEmptySet 21 = .ok (.iload_n 1, 1) := by decide +kernel
theorem dX1_hasEmptySet_22 : decode cX1_hasEmptySet 22 = .ok (.iload_n 2, 1) := by decide +kernel
theorem dX1_hasEmptySet_23 : decode cX1_hasEmptySet 23 = .ok (.invokevirtual 61, 3) := by decide +kernel
theorem dX1_hasEmptySet_26 : decode cX1_hasEmptySet 26 = .ok (.ifCond .ne 5, 3) := by decide +kernel
theorem dX1_hasEmptySet_29 : decode cX1_hasEmptySet 29 = .ok (.iconst 1, 1) := by decide +kernel
theorem dX1_hasEmptySet_30 : decode cX1_hasEmptySet 30 = .ok (.ireturn, 1) := by decide +kernel
theorem dX1_hasEmptySet_31 : decode cX1_hasEmptySet 31 = .ok (.iinc 2 1, 3) := by decide +kernel
theorem dX1_hasEmptySet_34 : decode cX1_hasEmptySet 34 = .ok (.goto (-22), 3) := by decide +kernel
theorem dX1_hasEmptySet_37 : decode cX1_hasEmptySet 37 = .ok (.iinc 1 1, 3) := by decide +kernel
theorem dX1_hasEmptySet_40 : decode cX1_hasEmptySet 40 = .ok (.goto (-38), 3) := by decide +kernel
theorem dX1_hasEmptySet_43 : decode cX1_hasEmptySet 43 = .ok (.iconst 0, 1) := by decide +kernel
theorem dX1_hasEmptySet_44 : decode cX1_hasEmptySet 44 = .ok (.ireturn, 1) := by decide +kernel
theorem dX1_tighten_0 : decode cX1_tighten 0 = .ok (.iconst 1, 1) := by decide +kernel
theorem dX1_tighten_1 : decode cX1_tighten 1 = .ok (.istore_n 1, 1) := by decide +kernel
theorem dX1_tighten_2 : decode cX1_tighten 2 = .ok (.iload_n 1, 1) := by decide +kernel
theorem dX1_tighten_3 : decode cX1_tighten 3 = .ok (.ifCond .eq 31, 3) := by decide +kernel
theorem dX1_tighten_6 : decode cX1_tighten 6 = .ok (.aload_n 0, 1) := by decide +kernel
theorem dX1_tighten_7 : decode cX1_tighten 7 = .ok (.getfield 9, 3) := by decide +kernel
theorem dX1_tighten_10 : decode cX1_tighten 10 = .ok (.sipush 1000, 3) := by decide +kernel
theorem dX1_tighten_13 : decode cX1_tighten 13 = .ok (.if_icmp .ge 21, 3) := by decide +kernel
theorem dX1_tighten_16 : decode cX1_tighten 16 = .ok (.aload_n 0, 1) := by decide +kernel
theorem dX1_tighten_17 : decode cX1_tighten 17 = .ok (.invokevirtual 64, 3) := by decide +kernel
theorem dX1_tighten_20 : decode cX1_tighten 20 = .ok (.istore_n 1, 1) := by decide +kernel
theorem dX1_tighten_21 : decode cX1_tighten 21 = .ok (.aload_n 0, 1) := by decide +kernel
theorem dX1_tighten_22 : decode cX1_tighten 22 = .ok (.dup, 1) := by decide +kernel
theorem dX1_tighten_23 : decode cX1_tighten 23 = .ok (.getfield 9, 3) := by decide +kernel
theorem dX1_tighten_26 : decode cX1_tighten 26 = .ok (.iconst 1, 1) := by decide +kernel
theorem dX1_tighten_27 : decode cX1_tighten 27 = .ok (.iadd, 1) := by decide +kernel
theorem dX1_tighten_28 : decode cX1_tighten 28 = .ok (.putfield 9, 3) := by decide +kernel
theorem dX1_tighten_31 : decode cX1_tighten 31 = .ok (.goto (-29), 3) := by decide +kernel
theorem dX1_tighten_34 : decode cX1_tighten 34 = .ok (.return_, 1) := by decide +kernel
theorem dX1_makeRound_0 : decode cX1_makeRound 0 = .ok (.iconst 0, 1) := by decide +kernel
theorem dX1_makeRound_1 : decode cX1_makeRound 1 = .ok (.istore_n 1, 1) := by decide +kernel
theorem dX1_makeRound_2 : decode cX1_makeRound 2 = .ok (.iconst 0, 1) := by decide +kernel
theorem dX1_makeRound_3 : decode cX1_makeRound 3 = .ok (.istore_n 2, 1) := by decide +kernel
theorem dX1_makeRound_4 : decode cX1_makeRound 4 = .ok (.iload_n 2, 1) := by decide +kernel
theorem dX1_makeRound_5 : decode cX1_makeRound 5 = .ok (.aload_n 0, 1) := by decide +kernel
theorem dX1_makeRound_6 : decode cX1_makeRound 6 = .ok (.getfield 19, 3) := by decide +kernel
theorem dX1_makeRound_9 : decode cX1_makeRound 9 = .ok (.if_icmp .ge 85, 3) := by decide +kernel
theorem dX1_makeRound_12 : decode cX1_makeRound 12 = .ok (.iconst 0, 1) := by decide +kernel
theorem dX1_makeRound_13 : decode cX1_makeRound 13 = .ok (.istore_n 3, 1) := by decide +kernel
theorem dX1_makeRound_14 : decode cX1_makeRound 14 = .ok (.iload_n 3, 1) := by decide +kernel
theorem dX1_makeRound_15 : decode cX1_makeRound 15 = .ok (.aload_n 0, 1) := by decide +kernel
theorem dX1_makeRound_16 : decode cX1_makeRound 16 = .ok (.getfield 19, 3) := by decide +kernel
theorem dX1_makeRound_19 : decode cX1_makeRound 19 = .ok (.if_icmp .ge 69, 3) := by decide +kernel
theorem dX1_makeRound_22 : decode cX1_makeRound 22 = .ok (.iload_n 3, 1) := by decide +kernel
theorem dX1_makeRound_23 : decode cX1_makeRound 23 = .ok (.iconst 1, 1) := by decide +kernel
theorem dX1_makeRound_24 : decode cX1_makeRound 24 = .ok (.iadd, 1) := by decide +kernel
theorem dX1_makeRound_25 : decode cX1_makeRound 25 = .ok (.istore 4, 2) := by decide +kernel
theorem dX1_makeRound_27 : decode cX1_makeRound 27 = .ok (.iload 4, 2) := by decide +kernel
theorem dX1_makeRound_29 : decode cX1_makeRound 29 = .ok (.aload_n 0, 1) := by decide +kernel
theorem dX1_makeRound_30 : decode cX1_makeRound 30 = .ok (.getfield 19, 3) := by decide +kernel
theorem dX1_makeRound_33 : decode cX1_makeRound 33 = .ok (.if_icmp .ge 49, 3) := by decide +kernel
theorem dX1_makeRound_36 : decode cX1_makeRound 36 = .ok (.iload_n 2, 1) := by decide +kernel
theorem dX1_makeRound_37 : decode cX1_makeRound 37 = .ok (.iload_n 3, 1) := by decide +kernel
theorem dX1_makeRound_38 : decode cX1_makeRound 38 = .ok (.if_icmp .eq 38, 3) := by decide +kernel
theorem dX1_makeRound_41 : decode cX1_makeRound 41 = .ok (.iload_n 2, 1) := by decide +kernel
theorem dX1_makeRound_42 : decode cX1_makeRound 42 = .ok (.iload 4, 2) := by decide +kernel
theorem dX1_makeRound_44 : decode cX1_makeRound 44 = .ok (.if_icmp .eq 32, 3) := by decide +kernel
theorem dX1_makeRound_47 : decode cX1_makeRound 47 = .ok (.aload_n 0, 1) := by decide +kernel
theorem dX1_makeRound_48 : decode cX1_makeRound 48 = .ok (.iload_n 3, 1) := by decide +kernel
theorem dX1_makeRound_49 : decode cX1_makeRound 49 = .ok (.iload 4, 2) := by decide +kernel
theorem dX1_makeRound_51 : decode cX1_makeRound 51 = .ok (.aload_n 0, 1) := by decide +kernel
theorem dX1_makeRound_52 : decode cX1_makeRound 52 = .ok (.aload_n 0, 1) := by decide +kernel
theorem dX1_makeRound_53 : decode cX1_makeRound 53 = .ok (.iload_n 3, 1) := by decide +kernel
theorem dX1_makeRound_54 : decode cX1_makeRound 54 = .ok (.iload_n 2, 1) := by decide +kernel
theorem dX1_makeRound_55 : decode cX1_makeRound 55 = .ok (.invokevirtual 61, 3) := by decide +kernel
theorem dX1_makeRound_58 : decode cX1_makeRound 58 = .ok (.aload_n 0, 1) := by decide +kernel
theorem dX1_makeRound_59 : decode cX1_makeRound 59 = .ok (.iload_n 2, 1) := by decide +kernel
theorem dX1_makeRound_60 : decode cX1_makeRound 60 = .ok (.iload 4, 2) := by decide +kernel
theorem dX1_makeRound_62 : decode cX1_makeRound 62 = .ok (.invokevirtual 61, 3) := by decide +kernel
theorem dX1_makeRound_65 : decode cX1_makeRound 65 = .ok (.invokevirtual 68, 3) := by decide +kernel
theorem dX1_makeRound_68 : decode cX1_makeRound 68 = .ok (.invokevirtual 47, 3) := by decide +kernel
theorem dX1_makeRound_71 : decode cX1_makeRound 71 = .ok (.ifCond .eq 5, 3) := by decide +kernel
theorem dX1_makeRound_74 : decode cX1_makeRound 74 = .ok (.iconst 1, 1) := by decide +kernel
theorem dX1_makeRound_75 : decode cX1_makeRound 75 = .ok (.istore_n 1, 1) := by decide +kernel
theorem dX1_makeRound_76 : decode cX1_makeRound 76 = .ok (.iinc 4 1, 3) := by decide +kernel
theorem dX1_makeRound_79 : decode cX1_makeRound 79 = .ok (.goto (-52), 3) := by decide +kernel
theorem dX1_makeRound_82 : decode cX1_makeRound 82 = .ok (.iinc 3 1, 3) := by decide +kernel
theorem dX1_makeRound_85 : decode cX1_makeRound 85 = .ok (.goto (-71), 3) := by decide +kernel
theorem dX1_makeRound_88 : decode cX1_makeRound 88 = .ok (.iinc 2 1, 3) := by decide +kernel
theorem dX1_makeRound_91 : decode cX1_makeRound 91 = .ok (.goto (-87), 3) := by decide +kernel
theorem dX1_makeRound_94 : decode cX1_makeRound 94 = .ok (.iload_n 1, 1) := by decide +kernel
theorem dX1_makeRound_95 : decode cX1_makeRound 95 = .ok (.ireturn, 1) := by decide +kernel
theorem dX1_narrow_0 : decode cX1_narrow 0 = .ok (.aload_n 0, 1) := by decide +kernel
theorem dX1_narrow_1 : decode cX1_narrow 1 = .ok (.iload_n 1, 1) := by decide +kernel
theorem dX1_narrow_2 : decode cX1_narrow 2 = .ok (.iload_n 2, 1) := by decide +kernel
theorem dX1_narrow_3 : decode cX1_narrow 3 = .ok (.invokevirtual 61, 3) := by decide +kernel
theorem dX1_narrow_6 : decode cX1_narrow 6 = .ok (.istore 4, 2) := by decide +kernel
theorem dX1_narrow_8 : decode cX1_narrow 8 = .ok (.iload 4, 2) := by decide +kernel
theorem dX1_narrow_10 : decode cX1_narrow 10 = .ok (.iload_n 3, 1) := by decide +kernel
theorem dX1_narrow_11 : decode cX1_narrow 11 = .ok (.iand, 1) := by decide +kernel
theorem dX1_narrow_12 : decode cX1_narrow 12 = .ok (.istore 5, 2) := by decide +kernel
theorem dX1_narrow_14 : decode cX1_narrow 14 = .ok (.aload_n 0, 1) := by decide +kernel
theorem dX1_narrow_15 : decode cX1_narrow 15 = .ok (.getfield 15, 3) := by decide +kernel
theorem dX1_narrow_18 : decode cX1_narrow 18 = .ok (.iload_n 1, 1) := by decide +kernel
theorem dX1_narrow_19 : decode cX1_narrow 19 = .ok (.bipush 6, 2) := by decide +kernel
theorem dX1_narrow_21 : decode cX1_narrow 21 = .ok (.imul, 1) := by decide +kernel
theorem dX1_narrow_22 : decode cX1_narrow 22 = .ok (.iload_n 2, 1) := by decide +kernel
theorem dX1_narrow_23 : decode cX1_narrow 23 = .ok (.iadd, 1) := by decide +kernel
theorem dX1_narrow_24 : decode cX1_narrow 24 = .ok (.iload 5, 2) := by decide +kernel
theorem dX1_narrow_26 : decode cX1_narrow 26 = .ok (.iastore, 1) := by decide +kernel
theorem dX1_narrow_27 : decode cX1_narrow 27 = .ok (.aload_n 0, 1) := by decide +kernel
theorem dX1_narrow_28 : decode cX1_narrow 28 = .ok (.getfield 15, 3) := by decide +kernel
theorem dX1_narrow_31 : decode cX1_narrow 31 = .ok (.iload_n 2, 1) := by decide +kernel
theorem dX1_narrow_32 : decode cX1_narrow 32 = .ok (.bipush 6, 2) := by decide +kernel
theorem dX1_narrow_34 : decode cX1_narrow 34 = .ok (.imul, 1) := by decide +kernel
theorem dX1_narrow_35 : decode cX1_narrow 35 = .ok (.iload_n 1, 1) := by decide +kernel
theorem dX1_narrow_36 : decode cX1_narrow 36 = .ok (.iadd, 1) := by decide +kernel
theorem dX1_narrow_37 : decode cX1_narrow 37 = .ok (.aload_n 0, 1) := by decide +kernel
theorem dX1_narrow_38 : decode cX1_narrow 38 = .ok (.iload 5, 2) := by decide +kernel
theorem dX1_narrow_40 : decode cX1_narrow 40 = .ok (.invokevirtual 71, 3) := by decide +kernel
theorem dX1_narrow_43 : decode cX1_narrow 43 = .ok (.iastore, 1) := by decide +kernel
theorem dX1_narrow_44 : decode cX1_narrow 44 = .ok (.iload 5, 2) := by decide +kernel
theorem dX1_narrow_46 : decode cX1_narrow 46 = .ok (.iload 4, 2) := by decide +kernel
theorem dX1_narrow_48 : decode cX1_narrow 48 = .ok (.if_icmp .eq 7, 3) := by decide +kernel
theorem dX1_narrow_51 : decode cX1_narrow 51 = .ok (.iconst 1, 1) := by decide +kernel
theorem dX1_narrow_52 : decode cX1_narrow 52 = .ok (.goto 4, 3) := by decide +kernel
theorem dX1_narrow_55 : decode cX1_narrow 55 = .ok (.iconst 0, 1) := by decide +kernel
theorem dX1_narrow_56 : decode cX1_narrow 56 = .ok (.ireturn, 1) := by decide +kernel
theorem dX1_sums_0 : decode cX1_sums 0 = .ok (.iconst 0, 1) := by decide +kernel
theorem dX1_sums_1 : decode cX1_sums 1 = .ok (.istore_n 3, 1) := by decide +kernel
theorem dX1_sums_2 : decode cX1_sums 2 = .ok (.iconst 0, 1) := by decide +kernel
theorem dX1_sums_3 : decode cX1_sums 3 = .ok (.istore 4, 2) := by decide +kernel
theorem dX1_sums_5 : decode cX1_sums 5 = .ok (.iload 4, 2) := by decide +kernel
theorem dX1_sums_7 : decode cX1_sums 7 = .ok (.aload_n 0, 1) := by decide +kernel
theorem dX1_sums_8 : decode cX1_sums 8 = .ok (.getfield 22, 3) := by decide +kernel
theorem dX1_sums_11 : decode cX1_sums 11 = .ok (.if_icmp .ge 36, 3) := by decide +kernel
theorem dX1_sums_14 : decode cX1_sums 14 = .ok (.iload_n 1, 1) := by decide +kernel
theorem dX1_sums_15 : decode cX1_sums 15 = .ok (.iload 4, 2) := by decide +kernel
theorem dX1_sums_17 : decode cX1_sums 17 = .ok (.ishr, 1) := by decide +kernel
theorem dX1_sums_18 : decode cX1_sums 18 = .ok (.iconst 1, 1) := by decide +kernel
theorem dX1_sums_19 : decode cX1_sums 19 = .ok (.iand, 1) := by decide +kernel
theorem dX1_sums_20 : decode cX1_sums 20 = .ok (.iconst 1, 1) := by decide +kernel
theorem dX1_sums_21 : decode cX1_sums 21 = .ok (.if_icmp .ne 20, 3) := by decide +kernel
theorem dX1_sums_24 : decode cX1_sums 24 = .ok (.iload_n 3, 1) := by decide +kernel
theorem dX1_sums_25 : decode cX1_sums 25 = .ok (.iload_n 2, 1) := by decide +kernel
theorem dX1_sums_26 : decode cX1_sums 26 = .ok (.iload 4, 2) := by decide +kernel
theorem dX1_sums_28 : decode cX1_sums 28 = .ok (.ishl, 1) := by decide +kernel
theorem dX1_sums_29 : decode cX1_sums 29 = .ok (.iload_n 2, 1) := by decide +kernel
theorem dX1_sums_30 : decode cX1_sums 30 = .ok (.aload_n 0, 1) := by decide +kernel
theorem dX1_sums_31 : decode cX1_sums 31 = .ok (.getfield 22, 3) := by decide +kernel
theorem dX1_sums_34 : decode cX1_sums 34 = .ok (.iload 4, 2) := by decide +kernel
theorem dX1_sums_36 : decode cX1_sums 36 = .ok (.isub, 1) := by decide +kernel
theorem dX1_sums_37 : decode cX1_sums 37 = .ok (.ishr, 1) := by decide +kernel
theorem dX1_sums_38 : decode cX1_sums 38 = .ok (.ior, 1) := by decide +kernel
theorem dX1_sums_39 : decode cX1_sums 39 = .ok (.ior, 1) := by decide +kernel
theorem dX1_sums_40 : decode cX1_sums 40 = .ok (.istore_n 3, 1) := by decide +kernel
theorem dX1_sums_41 : decode cX1_sums 41 = .ok (.iinc 4 1, 3) := by decide +kernel
theorem dX1_sums_44 : decode cX1_sums 44 = .ok (.goto (-39), 3) := by decide +kernel
theorem dX1_sums_47 : decode cX1_sums 47 = .ok (.iload_n 3, 1) := by decide +kernel
theorem dX1_sums_48 : decode cX1_sums 48 = .ok (.aload_n 0, 1) := by decide +kernel
theorem dX1_sums_49 : decode cX1_sums 49 = .ok (.getfield 25, 3) := by decide +kernel
theorem dX1_sums_52 : decode cX1_sums 52 = .ok (.iand, 1) := by decide +kernel
theorem dX1_sums_53 : decode cX1_sums 53 = .ok (.ireturn, 1) := by decide +kernel
theorem dX1_negated_0 : decode cX1_negated 0 = .ok (.iload_n 1, 1) := by decide +kernel
theorem dX1_negated_1 : decode cX1_negated 1 = .ok (.iconst 1, 1) := by decide +kernel
theorem dX1_negated_2 : decode cX1_negated 2 = .ok (.iand, 1) := by decide +kernel
theorem dX1_negated_3 : decode cX1_negated 3 = .ok (.istore_n 2, 1) := by decide +kernel
theorem dX1_negated_4 : decode cX1_negated 4 = .ok (.iconst 1, 1) := by decide +kernel
theorem dX1_negated_5 : decode cX1_negated 5 = .ok (.istore_n 3, 1) := by decide +kernel
theorem dX1_negated_6 : decode cX1_negated 6 = .ok (.iload_n 3, 1) := by decide +kernel
theorem dX1_negated_7 : decode cX1_negated 7 = .ok (.aload_n 0, 1) := by decide +kernel
theorem dX1_negated_8 : decode cX1_negated 8 = .ok (.getfield 22, 3) := by decide +kernel
theorem dX1_negated_11 : decode cX1_negated 11 = .ok (.if_icmp .ge 29, 3) := by decide +kernel
theorem dX1_negated_14 : decode cX1_negated 14 = .ok (.iload_n 1, 1) := by decide +kernel
theorem dX1_negated_15 : decode cX1_negated 15 = .ok (.iload_n 3, 1) := by decide +kernel
theorem dX1_negated_16 : decode cX1_negated 16 = .ok (.ishr, 1) := by decide +kernel
theorem dX1_negated_17 : decode cX1_negated 17 = .ok (.iconst 1, 1) := by decide +kernel
theorem dX1_negated_18 : decode cX1_negated 18 = .ok (.iand, 1) := by decide +kernel
theorem dX1_negated_19 : decode cX1_negated 19 = .ok (.iconst 1, 1) := by decide +kernel
theorem dX1_negated_20 : decode cX1_negated 20 = .ok (.if_icmp .ne 14, 3) := by decide +kernel
theorem dX1_negated_23 : decode cX1_negated 23 = .ok (.iload_n 2, 1) := by decide +kernel
theorem dX1_negated_24 : decode cX1_negated 24 = .ok (.iconst 1, 1) := by decide +kernel
theorem dX1_negated_25 : decode cX1_negated 25 = .ok (.aload_n 0, 1) := by decide +kernel
theorem dX1_negated_26 : decode cX1_negated 26 = .ok (.getfield 22, 3) := by decide +kernel
theorem dX1_negated_29 : decode cX1_negated 29 = .ok (.iload_n 3, 1) := by decide +kernel
theorem dX1_negated_30 : decode cX1_negated 30 = .ok (.isub, 1) := by decide +kernel
theorem dX1_negated_31 : decode cX1_negated 31 = .ok (.ishl, 1) := by decide +kernel
theorem dX1_negated_32 : decode cX1_negated 32 = .ok (.ior, 1) := by decide +kernel
theorem dX1_negated_33 : decode cX1_negated 33 = .ok (.istore_n 2, 1) := by decide +kernel
theorem dX1_negated_34 : decode cX1_negated 34 = .ok (.iinc 3 1, 3) := by decide +kernel
theorem dX1_negated_37 : decode cX1_negated 37 = .ok (.goto (-31), 3) := by decide +kernel
theorem dX1_negated_40 : decode cX1_negated 40 = .ok (.iload_n 2, 1) := by decide +kernel
theorem dX1_negated_41 : decode cX1_negated 41 = .ok (.ireturn, 1) := by decide +kernel
theorem dX2_init_0 : decode cX2_init 0 = .ok (.aload_n 0, 1) := by decide +kernel
theorem dX2_init_1 : decode cX2_init 1 = .ok (.invokespecial 3, 3) := by decide +kernel
theorem dX2_init_4 : decode cX2_init 4 = .ok (.aload_n 0, 1) := by decide +kernel
theorem dX2_init_5 : decode cX2_init 5 = .ok (.bipush 10, 2) := by decide +kernel
theorem dX2_init_7 : decode cX2_init 7 = .ok (.anewarray 9, 3) := by decide +kernel
theorem dX2_init_10 : decode cX2_init 10 = .ok (.putfield 11, 3) := by decide +kernel
theorem dX2_init_13 : decode cX2_init 13 = .ok (.aload_n 0, 1) := by decide +kernel
theorem dX2_init_14 : decode cX2_init 14 = .ok (.iconst 0, 1) := by decide +kernel
theorem dX2_init_15 : decode cX2_init 15 = .ok (.putfield 17, 3) := by decide +kernel
theorem dX2_init_18 : decode cX2_init 18 = .ok (.aload_n 0, 1) := by decide +kernel
theorem dX2_init_19 : decode cX2_init 19 = .ok (.iconst 0, 1) := by decide +kernel
theorem dX2_init_20 : decode cX2_init 20 = .ok (.putfield 21, 3) := by decide +kernel
theorem dX2_init_23 : decode cX2_init 23 = .ok (.iconst 0, 1) := by decide +kernel
theorem dX2_init_24 : decode cX2_init 24 = .ok (.istore_n 1, 1) := by decide +kernel
theorem dX2_init_25 : decode cX2_init 25 = .ok (.iload_n 1, 1) := by decide +kernel
theorem dX2_init_26 : decode cX2_init 26 = .ok (.bipush 10, 2) := by decide +kernel
theorem dX2_init_28 : decode cX2_init 28 = .ok (.if_icmp .ge 22, 3) := by decide +kernel
theorem dX2_init_31 : decode cX2_init 31 = .ok (.aload_n 0, 1) := by decide +kernel
theorem dX2_init_32 : decode cX2_init 32 = .ok (.getfield 11, 3) := by decide +kernel
theorem dX2_init_35 : decode cX2_init 35 = .ok (.iload_n 1, 1) := by decide +kernel
theorem dX2_init_36 : decode cX2_init 36 = .ok (.new 9, 3) := by decide +kernel
theorem dX2_init_39 : decode cX2_init 39 = .ok (.dup, 1) := by decide +kernel
theorem dX2_init_40 : decode cX2_init 40 = .ok (.invokespecial 24, 3) := by decide +kernel
theorem dX2_init_43 : decode cX2_init 43 = .ok (.aastore, 1) := by decide +kernel
theorem dX2_init_44 : decode cX2_init 44 = .ok (.iinc 1 1, 3) := by decide +kernel
theorem dX2_init_47 : decode cX2_init 47 = .ok (.goto (-22), 3) := by decide +kernel
theorem dX2_init_50 : decode cX2_init 50 = .ok (.return_, 1) := by decide +kernel
theorem dX2_clear_0 : decode cX2_clear 0 = .ok (.aload_n 0, 1) := by decide +kernel
theorem dX2_clear_1 : decode cX2_clear 1 = .ok (.iconst 0, 1) := by decide +kernel
theorem dX2_clear_2 : decode cX2_clear 2 = .ok (.putfield 21, 3) := by decide +kernel
theorem dX2_clear_5 : decode cX2_clear 5 = .ok (.return_, 1) := by decide +kernel
theorem dX2_remember_0 : decode cX2_remember 0 = .ok (.aload_n 0, 1) := by decide +kernel
theorem dX2_remember_1 : decode cX2_remember 1 = .ok (.getfield 11, 3) := by decide +kernel
theorem dX2_remember_4 : decode cX2_remember 4 = .ok (.aload_n 0, 1) := by decide +kernel
theorem dX2_remember_5 : decode cX2_remember 5 = .ok (.getfield 17, 3) := by decide +kernel
theorem dX2_remember_8 : decode cX2_remember 8 = .ok (.aaload, 1) := by decide +kernel
theorem dX2_remember_9 : decode cX2_remember 9 = .ok (.aload_n 1, 1) := by decide +kernel
theorem dX2_remember_10 : decode cX2_remember 10 = .ok (.invokevirtual 25, 3) := by decide +kernel
theorem dX2_remember_13 : decode cX2_remember 13 = .ok (.aload_n 0, 1) := by decide +kernel
theorem dX2_remember_14 : decode cX2_remember 14 = .ok (.aload_n 0, 1) := by decide +kernel
theorem dX2_remember_15 : decode cX2_remember 15 = .ok (.getfield 17, 3) := by decide +kernel
theorem dX2_remember_18 : decode cX2_remember 18 = .ok (.iconst 1, 1) := by decide +kernel
theorem dX2_remember_19 : decode cX2_remember 19 = .ok (.iadd, 1) := by decide +kernel
theorem dX2_remember_20 : decode cX2_remember 20 = .ok (.bipush 10, 2) := by decide +kernel
theorem dX2_remember_22 : decode cX2_remember 22 = .ok (.if_icmp .ge 12, 3) := by decide +kernel
theorem dX2_remember_25 : decode cX2_remember 25 = .ok (.aload_n 0, 1) := by decide +kernel
theorem dX2_remember_26 : decode cX2_remember 26 = .ok (.getfield 17, 3) := by decide +kernel
theorem dX2_remember_29 : decode cX2_remember 29 = .ok (.iconst 1, 1) := by decide +kernel
theorem dX2_remember_30 : decode cX2_remember 30 = .ok (.iadd, 1) := by decide +kernel
theorem dX2_remember_31 : decode cX2_remember 31 = .ok (.goto 4, 3) := by decide +kernel
theorem dX2_remember_34 : decode cX2_remember 34 = .ok (.iconst 0, 1) := by decide +kernel
theorem dX2_remember_35 : decode cX2_remember 35 = .ok (.putfield 17, 3) := by decide +kernel
theorem dX2_remember_38 : decode cX2_remember 38 = .ok (.aload_n 0, 1) := by decide +kernel
theorem dX2_remember_39 : decode cX2_remember 39 = .ok (.aload_n 0, 1) := by decide +kernel
theorem dX2_remember_40 : decode cX2_remember 40 = .ok (.getfield 21, 3) := by decide +kernel
theorem dX2_remember_43 : decode cX2_remember 43 = .ok (.iconst 1, 1) := by decide +kernel
theorem dX2_remember_44 : decode cX2_remember 44 = .ok (.iadd, 1) := by decide +kernel
theorem dX2_remember_45 : decode cX2_remember 45 = .ok (.bipush 10, 2) := by decide +kernel
theorem dX2_remember_47 : decode cX2_remember 47 = .ok (.invokestatic 29, 3) := by decide +kernel
theorem dX2_remember_50 : decode cX2_remember 50 = .ok (.putfield 21, 3) := by decide +kernel
theorem dX2_remember_53 : decode cX2_remember 53 = .ok (.return_, 1) := by decide +kernel
theorem dX2_restore_0 : decode cX2_restore 0 = .ok (.aload_n 0, 1) := by decide +kernel
theorem dX2_restore_1 : decode cX2_restore 1 = .ok (.getfield 21, 3) := by decide +kernel
theorem dX2_restore_4 : decode cX2_restore 4 = .ok (.ifCond .ne 5, 3) := by decide +kernel
theorem dX2_restore_7 : decode cX2_restore 7 = .ok (.iconst (-1), 1) := by decide +kernel
theorem dX2_restore_8 : decode cX2_restore 8 = .ok (.ireturn, 1) := by decide +kernel
theorem dX2_restore_9 : decode cX2_restore 9 = .ok (.aload_n 0, 1) := by decide +kernel
theorem dX2_restore_10 : decode cX2_restore 10 = .ok (.aload_n 0, 1) := by decide +kernel
theorem dX2_restore_11 : decode cX2_restore 11 = .ok (.getfield 17, 3) := by decide +kernel
theorem dX2_restore_14 : decode cX2_restore 14 = .ok (.ifCond .le 12, 3) := by decide +kernel
theorem dX2_restore_17 : decode cX2_restore 17 = .ok (.aload_n 0, 1) := by decide +kernel
theorem dX2_restore_18 : decode cX2_restore 18 = .ok (.getfield 17, 3) := by decide +kernel
theorem dX2_restore_21 : decode cX2_restore 21 = .ok (.iconst 1, 1) := by decide +kernel
theorem dX2_restore_22 : decode cX2_restore 22 = .ok (.isub, 1) := by decide +kernel
theorem dX2_restore_23 : decode cX2_restore 23 = .ok (.goto 5, 3) := by decide +kernel
theorem dX2_restore_26 : decode cX2_restore 26 = .ok (.bipush 9, 2) := by decide +kernel
theorem dX2_restore_28 : decode cX2_restore 28 = .ok (.putfield 17, 3) := by decide +kernel
theorem dX2_restore_31 : decode cX2_restore 31 = .ok (.aload_n 0, 1) := by decide +kernel
theorem dX2_restore_32 : decode cX2_restore 32 = .ok (.dup, 1) := by decide +kernel
theorem dX2_restore_33 : decode cX2_restore 33 = .ok (.getfield 21, 3) := by decide +kernel
theorem dX2_restore_36 : decode cX2_restore 36 = .ok (.iconst 1, 1) := by decide +kernel
theorem dX2_restore_37 : decode cX2_restore 37 = .ok (.isub, 1) := by decide +kernel
theorem dX2_restore_38 : decode cX2_restore 38 = .ok (.putfield 21, 3) := by decide +kernel
theorem dX2_restore_41 : decode cX2_restore 41 = .ok (.aload_n 1, 1) := by decide +kernel
theorem dX2_restore_42 : decode cX2_restore 42 = .ok (.aload_n 0, 1) := by decide +kernel
theorem dX2_restore_43 : decode cX2_restore 43 = .ok (.getfield 11, 3) := by decide +kernel
theorem dX2_restore_46 : decode cX2_restore 46 = .ok (.aload_n 0, 1) := by decide +kernel
theorem dX2_restore_47 : decode cX2_restore 47 = .ok (.getfield 17, 3) := by decide +kernel
theorem dX2_restore_50 : decode cX2_restore 50 = .ok (.aaload, 1) := by decide +kernel
theorem dX2_restore_51 : decode cX2_restore 51 = .ok (.invokevirtual 25, 3) := by decide +kernel
theorem dX2_restore_54 : decode cX2_restore 54 = .ok (.aload_n 0, 1) := by decide +kernel
theorem dX2_restore_55 : decode cX2_restore 55 = .ok (.getfield 21, 3) := by decide +kernel
theorem dX2_restore_58 : decode cX2_restore 58 = .ok (.ireturn, 1) := by decide +kernel
theorem dX3_init_0 : decode cX3_init 0 = .ok (.aload_n 0, 1) := by decide +kernel
theorem dX3_init_1 : decode cX3_init 1 = .ok (.invokespecial 3, 3) := by decide +kernel
theorem dX3_init_4 : decode cX3_init 4 = .ok (.aload_n 0, 1) := by decide +kernel
theorem dX3_init_5 : decode cX3_init 5 = .ok (.bipush 6, 2) := by decide +kernel
theorem dX3_init_7 : decode cX3_init 7 = .ok (.bipush 8, 2) := by decide +kernel
theorem dX3_init_9 : decode cX3_init 9 = .ok (.multianewarray 9 2, 4) := by decide +kernel
theorem dX3_init_13 : decode cX3_init 13 = .ok (.putfield 11, 3) := by decide +kernel
theorem dX3_init_16 : decode cX3_init 16 = .ok (.aload_n 0, 1) := by decide +kernel
theorem dX3_init_17 : decode cX3_init 17 = .ok (.bipush 6, 2) := by decide +kernel
theorem dX3_init_19 : decode cX3_init 19 = .ok (.newarray .int, 2) := by decide +kernel
theorem dX3_init_21 : decode cX3_init 21 = .ok (.putfield 16, 3) := by decide +kernel
theorem dX3_init_24 : decode cX3_init 24 = .ok (.aload_n 0, 1) := by decide +kernel
theorem dX3_init_25 : decode cX3_init 25 = .ok (.iconst 0, 1) := by decide +kernel
theorem dX3_init_26 : decode cX3_init 26 = .ok (.putfield 20, 3) := by decide +kernel
theorem dX3_init_29 : decode cX3_init 29 = .ok (.return_, 1) := by decide +kernel
theorem dX3_clear_0 : decode cX3_clear 0 = .ok (.aload_n 0, 1) := by decide +kernel
theorem dX3_clear_1 : decode cX3_clear 1 = .ok (.iconst 0, 1) := by decide +kernel
theorem dX3_clear_2 : decode cX3_clear 2 = .ok (.putfield 20, 3) := by decide +kernel
theorem dX3_clear_5 : decode cX3_clear 5 = .ok (.return_, 1) := by decide +kernel
theorem dX3_copyFrom_0 : decode cX3_copyFrom 0 = .ok (.aload_n 0, 1) := by decide +kernel
theorem dX3_copyFrom_1 : decode cX3_copyFrom 1 = .ok (.aload_n 1, 1) := by decide +kernel
theorem dX3_copyFrom_2 : decode cX3_copyFrom 2 = .ok (.getfield 20, 3) := by decide +kernel
theorem dX3_copyFrom_5 : decode cX3_copyFrom 5 = .ok (.putfield 20, 3) := by decide +kernel
theorem dX3_copyFrom_8 : decode cX3_copyFrom 8 = .ok (.iconst 0, 1) := by decide +kernel
theorem dX3_copyFrom_9 : decode cX3_copyFrom 9 = .ok (.istore_n 2, 1) := by decide +kernel
theorem dX3_copyFrom_10 : decode cX3_copyFrom 10 = .ok (.iload_n 2, 1) := by decide +kernel
theorem dX3_copyFrom_11 : decode cX3_copyFrom 11 = .ok (.aload_n 0, 1) := by decide +kernel
theorem dX3_copyFrom_12 : decode cX3_copyFrom 12 = .ok (.getfield 20, 3) := by decide +kernel
theorem dX3_copyFrom_15 : decode cX3_copyFrom 15 = .ok (.if_icmp .ge 40, 3) := by decide +kernel
theorem dX3_copyFrom_18 : decode cX3_copyFrom 18 = .ok (.aload_n 0, 1) := by decide +kernel
theorem dX3_copyFrom_19 : decode cX3_copyFrom 19 = .ok (.getfield 16, 3) := by decide +kernel
theorem dX3_copyFrom_22 : decode cX3_copyFrom 22 = .ok (.iload_n 2, 1) := by decide +kernel
theorem dX3_copyFrom_23 : decode cX3_copyFrom 23 = .ok (.aload_n 1, 1) := by decide +kernel
theorem dX3_copyFrom_24 : decode cX3_copyFrom 24 = .ok (.getfield 16, 3) := by decide +kernel
theorem dX3_copyFrom_27 : decode cX3_copyFrom 27 = .ok (.iload_n 2, 1) := by decide +kernel
theorem dX3_copyFrom_28 : decode cX3_copyFrom 28 = .ok (.iaload, 1) := by decide +kernel
theorem dX3_copyFrom_29 : decode cX3_copyFrom 29 = .ok (.iastore, 1) := by decide +kernel
theorem dX3_copyFrom_30 : decode cX3_copyFrom 30 = .ok (.aload_n 1, 1) := by decide +kernel
theorem dX3_copyFrom_31 : decode cX3_copyFrom 31 = .ok (.getfield 11, 3) := by decide +kernel
theorem dX3_copyFrom_34 : decode cX3_copyFrom 34 = .ok (.iload_n 2, 1) := by decide +kernel
theorem dX3_copyFrom_35 : decode cX3_copyFrom 35 = .ok (.aaload, 1) := by decide +kernel
theorem dX3_copyFrom_36 : decode cX3_copyFrom 36 = .ok (.iconst 0, 1) := by decide +kernel
theorem dX3_copyFrom_37 : decode cX3_copyFrom 37 = .ok (.aload_n 0, 1) := by decide +kernel
theorem dX3_copyFrom_38 : decode cX3_copyFrom 38 = .ok (.getfield 11, 3) := by decide +kernel
theorem dX3_copyFrom_41 : decode cX3_copyFrom 41 = .ok (.iload_n 2, 1) := by decide +kernel
theorem dX3_copyFrom_42 : decode cX3_copyFrom 42 = .ok (.aaload, 1) := by decide +kernel
theorem dX3_copyFrom_43 : decode cX3_copyFrom 43 = .ok (.iconst 0, 1) := by decide +kernel
theorem dX3_copyFrom_44 : decode cX3_copyFrom 44 = .ok (.bipush 8, 2) := by decide +kernel
theorem dX3_copyFrom_46 : decode cX3_copyFrom 46 = .ok (.invokestatic 24, 3) := by decide +kernel
theorem dX3_copyFrom_49 : decode cX3_copyFrom 49 = .ok (.iinc 2 1, 3) := by decide +kernel
theorem dX3_copyFrom_52 : decode cX3_copyFrom 52 = .ok (.goto (-42), 3) := by decide +kernel
theorem dX3_copyFrom_55 : decode cX3_copyFrom 55 = .ok (.return_, 1) := by decide +kernel
theorem dX3_append_0 : decode cX3_append 0 = .ok (.aload_n 0, 1) := by decide +kernel
theorem dX3_append_1 : decode cX3_append 1 = .ok (.getfield 20, 3) := by decide +kernel
theorem dX3_append_4 : decode cX3_append 4 = .ok (.bipush 6, 2) := by decide +kernel
theorem dX3_append_6 : decode cX3_append 6 = .ok (.if_icmp .ge 45, 3) := by decide +kernel
theorem dX3_append_9 : decode cX3_append 9 = .ok (.iload_n 3, 1) := by decide +kernel
theorem dX3_append_10 : decode cX3_append 10 = .ok (.bipush 8, 2) := by decide +kernel
theorem dX3_append_12 : decode cX3_append 12 = .ok (.if_icmp .gt 39, 3) := by decide +kernel
theorem dX3_append_15 : decode cX3_append 15 = .ok (.aload_n 1, 1) := by decide +kernel
theorem dX3_append_16 : decode cX3_append 16 = .ok (.iload_n 2, 1) := by decide +kernel
theorem dX3_append_17 : decode cX3_append 17 = .ok (.aload_n 0, 1) := by decide +kernel
theorem dX3_append_18 : decode cX3_append 18 = .ok (.getfield 11, 3) := by decide +kernel
theorem dX3_append_21 : decode cX3_append 21 = .ok (.aload_n 0, 1) := by decide +kernel
theorem dX3_append_22 : decode cX3_append 22 = .ok (.getfield 20, 3) := by decide +kernel
theorem dX3_append_25 : decode cX3_append 25 = .ok (.aaload, 1) := by decide +kernel
theorem dX3_append_26 : decode cX3_append 26 = .ok (.iconst 0, 1) := by decide +kernel
theorem dX3_append_27 : decode cX3_append 27 = .ok (.iload_n 3, 1) := by decide +kernel
theorem dX3_append_28 : decode cX3_append 28 = .ok (.invokestatic 24, 3) := by decide +kernel
theorem dX3_append_31 : decode cX3_append 31 = .ok (.aload_n 0, 1) := by decide +kernel
theorem dX3_append_32 : decode cX3_append 32 = .ok (.getfield 16, 3) := by decide +kernel
theorem dX3_append_35 : decode cX3_append 35 = .ok (.aload_n 0, 1) := by decide +kernel
theorem dX3_append_36 : decode cX3_append 36 = .ok (.getfield 20, 3) := by decide +kernel
theorem dX3_append_39 : decode cX3_append 39 = .ok (.iload_n 3, 1) := by decide +kernel
theorem dX3_append_40 : decode cX3_append 40 = .ok (.iastore, 1) := by decide +kernel
theorem dX3_append_41 : decode cX3_append 41 = .ok (.aload_n 0, 1) := by decide +kernel
theorem dX3_append_42 : decode cX3_append 42 = .ok (.dup, 1) := by decide +kernel
theorem dX3_append_43 : decode cX3_append 43 = .ok (.getfield 20, 3) := by decide +kernel
theorem dX3_append_46 : decode cX3_append 46 = .ok (.iconst 1, 1) := by decide +kernel
theorem dX3_append_47 : decode cX3_append 47 = .ok (.iadd, 1) := by decide +kernel
theorem dX3_append_48 : decode cX3_append 48 = .ok (.putfield 20, 3) := by decide +kernel
theorem dX3_append_51 : decode cX3_append 51 = .ok (.return_, 1) := by decide +kernel
theorem dX3_indexOf_0 : decode cX3_indexOf 0 = .ok (.iconst 0, 1) := by decide +kernel
theorem dX3_indexOf_1 : decode cX3_indexOf 1 = .ok (.istore 4, 2) := by decide +kernel
theorem dX3_indexOf_3 : decode cX3_indexOf 3 = .ok (.iload 4, 2) := by decide +kernel
theorem dX3_indexOf_5 : decode cX3_indexOf 5 = .ok (.aload_n 0, 1) := by decide +kernel
theorem dX3_indexOf_6 : decode cX3_indexOf 6 = .ok (.getfield 20, 3) := by decide +kernel
theorem dX3_indexOf_9 : decode cX3_indexOf 9 = .ok (.if_icmp .ge 34, 3) := by decide +kernel
theorem dX3_indexOf_12 : decode cX3_indexOf 12 = .ok (.aload_n 0, 1) := by decide +kernel
theorem dX3_indexOf_13 : decode cX3_indexOf 13 = .ok (.getfield 16, 3) := by decide +kernel
theorem dX3_indexOf_16 : decode cX3_indexOf 16 = .ok (.iload 4, 2) := by decide +kernel
theorem dX3_indexOf_18 : decode cX3_indexOf 18 = .ok (.iaload, 1) := by decide +kernel
theorem dX3_indexOf_19 : decode cX3_indexOf 19 = .ok (.iload_n 3, 1) := by decide +kernel
theorem dX3_indexOf_20 : decode cX3_indexOf 20 = .ok (.if_icmp .ne 17, 3) := by decide +kernel
theorem dX3_indexOf_23 : decode cX3_indexOf 23 = .ok (.aload_n 0, 1) := by decide +kernel
theorem dX3_indexOf_24 : decode cX3_indexOf 24 = .ok (.iload 4, 2) := by decide +kernel
theorem dX3_indexOf_26 : decode cX3_indexOf 26 = .ok (.aload_n 1, 1) := by decide +kernel
theorem dX3_indexOf_27 : decode cX3_indexOf 27 = .ok (.iload_n 2, 1) := by decide +kernel
theorem dX3_indexOf_28 : decode cX3_indexOf 28 = .ok (.invokevirtual 30, 3) := by decide +kernel
theorem dX3_indexOf_31 : decode cX3_indexOf 31 = .ok (.ifCond .eq 6, 3) := by decide +kernel
theorem dX3_indexOf_34 : decode cX3_indexOf 34 = .ok (.iload 4, 2) := by decide +kernel
theorem dX3_indexOf_36 : decode cX3_indexOf 36 = .ok (.ireturn, 1) := by decide +kernel
theorem dX3_indexOf_37 : decode cX3_indexOf 37 = .ok (.iinc 4 1, 3) := by decide +kernel
theorem dX3_indexOf_40 : decode cX3_indexOf 40 = .ok (.goto (-37), 3) := by decide +kernel
theorem dX3_indexOf_43 : decode cX3_indexOf 43 = .ok (.iconst (-1), 1) := by decide +kernel
theorem dX3_indexOf_44 : decode cX3_indexOf 44 = .ok (.ireturn, 1) := by decide +kernel
theorem dX3_matches_0 : decode cX3_matches 0 = .ok (.iconst 0, 1) := by decide +kernel
theorem dX3_matches_1 : decode cX3_matches 1 = .ok (.istore 4, 2) := by decide +kernel
theorem dX3_matches_3 : decode cX3_matches 3 = .ok (.iload 4, 2) := by decide +kernel
theorem dX3_matches_5 : decode cX3_matches 5 = .ok (.aload_n 0, 1) := by decide +kernel
theorem dX3_matches_6 : decode cX3_matches 6 = .ok (.getfield 16, 3) := by decide +kernel
theorem dX3_matches_9 : decode cX3_matches 9 = .ok (.iload_n 1, 1) := by decide +kernel
theorem dX3_matches_10 : decode cX3_matches 10 = .ok (.iaload, 1) := by decide +kernel
theorem dX3_matches_11 : decode cX3_matches 11 = .ok (.if_icmp .ge 29, 3) := by decide +kernel
theorem dX3_matches_14 : decode cX3_matches 14 = .ok (.aload_n 0, 1) := by decide +kernel
theorem dX3_matches_15 : decode cX3_matches 15 = .ok (.getfield 11, 3) := by decide +kernel
theorem dX3_matches_18 : decode cX3_matches 18 = .ok (.iload_n 1, 1) := by decide +kernel
theorem dX3_matches_19 : decode cX3_matches 19 = .ok (.aaload, 1) := by decide +kernel
theorem dX3_matches_20 : decode cX3_matches 20 = .ok (.iload 4, 2) := by decide +kernel
theorem dX3_matches_22 : decode cX3_matches 22 = .ok (.baload, 1) := by decide +kernel
theorem dX3_matches_23 : decode cX3_matches 23 = .ok (.aload_n 2, 1) := by decide +kernel
theorem dX3_matches_24 : decode cX3_matches 24 = .ok (.iload_n 3, 1) := by decide +kernel
theorem dX3_matches_25 : decode cX3_matches 25 = .ok (.iload 4, 2) := by decide +kernel
theorem dX3_matches_27 : decode cX3_matches 27 = .ok (.iadd, 1) := by decide +kernel
theorem dX3_matches_28 : decode cX3_matches 28 = .ok (.baload, 1) := by decide +kernel
theorem dX3_matches_29 : decode cX3_matches 29 = .ok (.if_icmp .eq 5, 3) := by decide +kernel
theorem dX3_matches_32 : decode cX3_matches 32 = .ok (.iconst 0, 1) := by decide +kernel
theorem dX3_matches_33 : decode cX3_matches 33 = .ok (.ireturn, 1) := by decide +kernel
theorem dX3_matches_34 : decode cX3_matches 34 = .ok (.iinc 4 1, 3) := by decide +kernel
theorem dX3_matches_37 : decode cX3_matches 37 = .ok (.goto (-34), 3) := by decide +kernel
theorem dX3_matches_40 : decode cX3_matches 40 = .ok (.iconst 1, 1) := by decide +kernel
theorem dX3_matches_41 : decode cX3_matches 41 = .ok (.ireturn, 1) := by decide +kernel
theorem dX3_putOn_0 : decode cX3_putOn 0 = .ok (.iconst 0, 1) := by decide +kernel
theorem dX3_putOn_1 : decode cX3_putOn 1 = .ok (.istore_n 3, 1) := by decide +kernel
theorem dX3_putOn_2 : decode cX3_putOn 2 = .ok (.iload_n 3, 1) := by decide +kernel
theorem dX3_putOn_3 : decode cX3_putOn 3 = .ok (.aload_n 0, 1) := by decide +kernel
theorem dX3_putOn_4 : decode cX3_putOn 4 = .ok (.getfield 16, 3) := by decide +kernel
theorem dX3_putOn_7 : decode cX3_putOn 7 = .ok (.iload_n 2, 1) := by decide +kernel
theorem dX3_putOn_8 : decode cX3_putOn 8 = .ok (.iaload, 1) := by decide +kernel
theorem dX3_putOn_9 : decode cX3_putOn 9 = .ok (.if_icmp .ge 22, 3) := by decide +kernel
theorem dX3_putOn_12 : decode cX3_putOn 12 = .ok (.aload_n 1, 1) := by decide +kernel
theorem dX3_putOn_13 : decode cX3_putOn 13 = .ok (.aload_n 0, 1) := by decide +kernel
theorem dX3_putOn_14 : decode cX3_putOn 14 = .ok (.getfield 11, 3) := by decide +kernel
theorem dX3_putOn_17 : decode cX3_putOn 17 = .ok (.iload_n 2, 1) := by decide +kernel
theorem dX3_putOn_18 : decode cX3_putOn 18 = .ok (.aaload, 1) := by decide +kernel
theorem dX3_putOn_19 : decode cX3_putOn 19 = .ok (.iload_n 3, 1) := by decide +kernel
theorem dX3_putOn_20 : decode cX3_putOn 20 = .ok (.baload, 1) := by decide +kernel
theorem dX3_putOn_21 : decode cX3_putOn 21 = .ok (.i2c, 1) := by decide +kernel
theorem dX3_putOn_22 : decode cX3_putOn 22 = .ok (.invokevirtual 34, 3) := by decide +kernel
theorem dX3_putOn_25 : decode cX3_putOn 25 = .ok (.iinc 3 1, 3) := by decide +kernel
theorem dX3_putOn_28 : decode cX3_putOn 28 = .ok (.goto (-26), 3) := by decide +kernel
theorem dX3_putOn_31 : decode cX3_putOn 31 = .ok (.return_, 1) := by decide +kernel
theorem dX4_init_0 : decode cX4_init 0 = .ok (.aload_n 0, 1) := by decide +kernel
theorem dX4_init_1 : decode cX4_init 1 = .ok (.invokespecial 3, 3) := by decide +kernel
theorem dX4_init_4 : decode cX4_init 4 = .ok (.aload_n 0, 1) := by decide +kernel
theorem dX4_init_5 : decode cX4_init 5 = .ok (.sipush 160, 3) := by decide +kernel
theorem dX4_init_8 : decode cX4_init 8 = .ok (.newarray .char, 2) := by decide +kernel
theorem dX4_init_10 : decode cX4_init 10 = .ok (.putfield 9, 3) := by decide +kernel
theorem dX4_init_13 : decode cX4_init 13 = .ok (.aload_n 0, 1) := by decide +kernel
theorem dX4_init_14 : decode cX4_init 14 = .ok (.iconst 0, 1) := by decide +kernel
theorem dX4_init_15 : decode cX4_init 15 = .ok (.putfield 15, 3) := by decide +kernel
theorem dX4_init_18 : decode cX4_init 18 = .ok (.return_, 1) := by decide +kernel
theorem dX4_clear_0 : decode cX4_clear 0 = .ok (.aload_n 0, 1) := by decide +kernel
theorem dX4_clear_1 : decode cX4_clear 1 = .ok (.iconst 0, 1) := by decide +kernel
theorem dX4_clear_2 : decode cX4_clear 2 = .ok (.putfield 15, 3) := by decide +kernel
theorem dX4_clear_5 : decode cX4_clear 5 = .ok (.return_, 1) := by decide +kernel
theorem dX4_put_0 : decode cX4_put 0 = .ok (.aload_n 0, 1) := by decide +kernel
theorem dX4_put_1 : decode cX4_put 1 = .ok (.getfield 15, 3) := by decide +kernel
theorem dX4_put_4 : decode cX4_put 4 = .ok (.sipush 160, 3) := by decide +kernel
theorem dX4_put_7 : decode cX4_put 7 = .ok (.if_icmp .ge 23, 3) := by decide +kernel
theorem dX4_put_10 : decode cX4_put 10 = .ok (.aload_n 0, 1) := by decide +kernel
theorem dX4_put_11 : decode cX4_put 11 = .ok (.getfield 9, 3) := by decide +kernel
theorem dX4_put_14 : decode cX4_put 14 = .ok (.aload_n 0, 1) := by decide +kernel
theorem dX4_put_15 : decode cX4_put 15 = .ok (.getfield 15, 3) := by decide +kernel
theorem dX4_put_18 : decode cX4_put 18 = .ok (.iload_n 1, 1) := by decide +kernel
theorem dX4_put_19 : decode cX4_put 19 = .ok (.castore, 1) := by decide +kernel
theorem dX4_put_20 : decode cX4_put 20 = .ok (.aload_n 0, 1) := by decide +kernel
theorem dX4_put_21 : decode cX4_put 21 = .ok (.dup, 1) := by decide +kernel
theorem dX4_put_22 : decode cX4_put 22 = .ok (.getfield 15, 3) := by decide +kernel
theorem dX4_put_25 : decode cX4_put 25 = .ok (.iconst 1, 1) := by decide +kernel
theorem dX4_put_26 : decode cX4_put 26 = .ok (.iadd, 1) := by decide +kernel
theorem dX4_put_27 : decode cX4_put 27 = .ok (.putfield 15, 3) := by decide +kernel
theorem dX4_put_30 : decode cX4_put 30 = .ok (.return_, 1) := by decide +kernel
theorem dX4_putNumber_0 : decode cX4_putNumber 0 = .ok (.iload_n 1, 1) := by decide +kernel
theorem dX4_putNumber_1 : decode cX4_putNumber 1 = .ok (.ifCond .ge 9, 3) := by decide +kernel
theorem dX4_putNumber_4 : decode cX4_putNumber 4 = .ok (.aload_n 0, 1) := by decide +kernel
theorem dX4_putNumber_5 : decode cX4_putNumber 5 = .ok (.bipush 45, 2) := by decide +kernel
theorem dX4_putNumber_7 : decode cX4_putNumber 7 = .ok (.invokevirtual 19, 3) := by decide +kernel
theorem dX4_putNumber_10 : decode cX4_putNumber 10 = .ok (.ldc 23, 2) := by decide +kernel
theorem dX4_putNumber_12 : decode cX4_putNumber 12 = .ok (.istore_n 2, 1) := by decide +kernel
theorem dX4_putNumber_13 : decode cX4_putNumber 13 = .ok (.iload_n 2, 1) := by decide +kernel
theorem dX4_putNumber_14 : decode cX4_putNumber 14 = .ok (.ifCond .le 51, 3) := by decide +kernel
theorem dX4_putNumber_17 : decode cX4_putNumber 17 = .ok (.iload_n 1, 1) := by decide +kernel
theorem dX4_putNumber_18 : decode cX4_putNumber 18 = .ok (.iload_n 2, 1) := by decide +kernel
theorem dX4_putNumber_19 : decode cX4_putNumber 19 = .ok (.idiv, 1) := by decide +kernel
theorem dX4_putNumber_20 : decode cX4_putNumber 20 = .ok (.istore_n 3, 1) := by decide +kernel
theorem dX4_putNumber_21 : decode cX4_putNumber 21 = .ok (.iload_n 3, 1) := by decide +kernel
theorem dX4_putNumber_22 : decode cX4_putNumber 22 = .ok (.ifCond .ne 8, 3) := by decide +kernel
theorem dX4_putNumber_25 : decode cX4_putNumber 25 = .ok (.iload_n 2, 1) := by decide +kernel
theorem dX4_putNumber_26 : decode cX4_putNumber 26 = .ok (.iconst 1, 1) := by decide +kernel
theorem dX4_putNumber_27 : decode cX4_putNumber 27 = .ok (.if_icmp .ne 30, 3) := by decide +kernel
theorem dX4_putNumber_30 : decode cX4_putNumber 30 = .ok (.iload_n 3, 1) := by decide +kernel
theorem dX4_putNumber_31 : decode cX4_putNumber 31 = .ok (.bipush 10, 2) := by decide +kernel
theorem dX4_putNumber_33 : decode cX4_putNumber 33 = .ok (.irem, 1) := by decide +kernel
theorem dX4_putNumber_34 : decode cX4_putNumber 34 = .ok (.istore 4, 2) := by decide +kernel
theorem dX4_putNumber_36 : decode cX4_putNumber 36 = .ok (.aload_n 0, 1) := by decide +kernel
theorem dX4_putNumber_37 : decode cX4_putNumber 37 = .ok (.bipush 48, 2) := by decide +kernel
theorem dX4_putNumber_39 : decode cX4_putNumber 39 = .ok (.iload 4, 2) := by decide +kernel
theorem dX4_putNumber_41 : decode cX4_putNumber 41 = .ok (.ifCond .ge 9, 3) := by decide +kernel
theorem dX4_putNumber_44 : decode cX4_putNumber 44 = .ok (.iload 4, 2) := by decide +kernel
theorem dX4_putNumber_46 : decode cX4_putNumber 46 = .ok (.ineg, 1) := by decide +kernel
theorem dX4_putNumber_47 : decode cX4_putNumber 47 = .ok (.goto 5, 3) := by decide +kernel
theorem dX4_putNumber_50 : decode cX4_putNumber 50 = .ok (.iload 4, 2) := by decide +kernel
theorem dX4_putNumber_52 : decode cX4_putNumber 52 = .ok (.iadd, 1) := by decide +kernel
theorem dX4_putNumber_53 : decode cX4_putNumber 53 = .ok (.i2c, 1) := by decide +kernel
theorem dX4_putNumber_54 : decode cX4_putNumber 54 = .ok (.invokevirtual 19, 3) := by decide +kernel
theorem dX4_putNumber_57 : decode cX4_putNumber 57 = .ok (.iload_n 2, 1) := by decide +kernel
theorem dX4_putNumber_58 : decode cX4_putNumber 58 = .ok (.bipush 10, 2) := by decide +kernel
theorem dX4_putNumber_60 : decode cX4_putNumber 60 = .ok (.idiv, 1) := by decide +kernel
theorem dX4_putNumber_61 : decode cX4_putNumber 61 = .ok (.istore_n 2, 1) := by decide +kernel
theorem dX4_putNumber_62 : decode cX4_putNumber 62 = .ok (.goto (-49), 3) := by decide +kernel
theorem dX4_putNumber_65 : decode cX4_putNumber 65 = .ok (.return_, 1) := by decide +kernel
theorem dX5_init_0 : decode cX5_init 0 = .ok (.aload_n 0, 1) := by decide +kernel
theorem dX5_init_1 : decode cX5_init 1 = .ok (.invokespecial 3, 3) := by decide +kernel
theorem dX5_init_4 : decode cX5_init 4 = .ok (.aload_n 0, 1) := by decide +kernel
theorem dX5_init_5 : decode cX5_init 5 = .ok (.bipush 12, 2) := by decide +kernel
theorem dX5_init_7 : decode cX5_init 7 = .ok (.putfield 9, 3) := by decide +kernel
theorem dX5_init_10 : decode cX5_init 10 = .ok (.aload_n 0, 1) := by decide +kernel
theorem dX5_init_11 : decode cX5_init 11 = .ok (.iconst 0, 1) := by decide +kernel
theorem dX5_init_12 : decode cX5_init 12 = .ok (.putfield 15, 3) := by decide +kernel
theorem dX5_init_15 : decode cX5_init 15 = .ok (.aload_n 0, 1) := by decide +kernel
theorem dX5_init_16 : decode cX5_init 16 = .ok (.iconst 0, 1) := by decide +kernel
theorem dX5_init_17 : decode cX5_init 17 = .ok (.putfield 18, 3) := by decide +kernel
theorem dX5_init_20 : decode cX5_init 20 = .ok (.aload_n 0, 1) := by decide +kernel
theorem dX5_init_21 : decode cX5_init 21 = .ok (.bipush 6, 2) := by decide +kernel
theorem dX5_init_23 : decode cX5_init 23 = .ok (.newarray .int, 2) := by decide +kernel
theorem dX5_init_25 : decode cX5_init 25 = .ok (.putfield 21, 3) := by decide +kernel
theorem dX5_init_28 : decode cX5_init 28 = .ok (.aload_n 0, 1) := by decide +kernel
theorem dX5_init_29 : decode cX5_init 29 = .ok (.bipush 14, 2) := by decide +kernel
theorem dX5_init_31 : decode cX5_init 31 = .ok (.newarray .int, 2) := by decide +kernel
theorem dX5_init_33 : decode cX5_init 33 = .ok (.putfield 25, 3) := by decide +kernel
theorem dX5_init_36 : decode cX5_init 36 = .ok (.aload_n 0, 1) := by decide +kernel
theorem dX5_init_37 : decode cX5_init 37 = .ok (.bipush 14, 2) := by decide +kernel
theorem dX5_init_39 : decode cX5_init 39 = .ok (.newarray .int, 2) := by decide +kernel
theorem dX5_init_41 : decode cX5_init 41 = .ok (.putfield 28, 3) := by decide +kernel
theorem dX5_init_44 : decode cX5_init 44 = .ok (.aload_n 0, 1) := by decide +kernel
theorem dX5_init_45 : decode cX5_init 45 = .ok (.bipush 14, 2) := by decide +kernel
theorem dX5_init_47 : decode cX5_init 47 = .ok (.newarray .int, 2) := by decide +kernel
theorem dX5_init_49 : decode cX5_init 49 = .ok (.putfield 31, 3) := by decide +kernel
theorem dX5_init_52 : decode cX5_init 52 = .ok (.aload_n 0, 1) := by decide +kernel
theorem dX5_init_53 : decode cX5_init 53 = .ok (.bipush 14, 2) := by decide +kernel
theorem dX5_init_55 : decode cX5_init 55 = .ok (.newarray .int, 2) := by decide +kernel
theorem dX5_init_57 : decode cX5_init 57 = .ok (.putfield 34, 3) := by decide +kernel
theorem dX5_init_60 : decode cX5_init 60 = .ok (.aload_n 0, 1) := by decide +kernel
theorem dX5_init_61 : decode cX5_init 61 = .ok (.bipush 14, 2) := by decide +kernel
theorem dX5_init_63 : decode cX5_init 63 = .ok (.newarray .int, 2) := by decide +kernel
theorem dX5_init_65 : decode cX5_init 65 = .ok (.putfield 37, 3) := by decide +kernel
theorem dX5_init_68 : decode cX5_init 68 = .ok (.return_, 1) := by decide +kernel
theorem dX5_startWith_0 : decode cX5_startWith 0 = .ok (.aload_n 0, 1) := by decide +kernel
theorem dX5_startWith_1 : decode cX5_startWith 1 = .ok (.iload_n 1, 1) := by decide +kernel
theorem dX5_startWith_2 : decode cX5_startWith 2 = .ok (.putfield 9, 3) := by decide +kernel
theorem dX5_startWith_5 : decode cX5_startWith 5 = .ok (.aload_n 0, 1) := by decide +kernel
theorem dX5_startWith_6 : decode cX5_startWith 6 = .ok (.iconst 0, 1) := by decide +kernel
theorem dX5_startWith_7 : decode cX5_startWith 7 = .ok (.putfield 15, 3) := by decide +kernel
theorem dX5_startWith_10 : decode cX5_startWith 10 = .ok (.aload_n 0, 1) := by decide +kernel
theorem dX5_startWith_11 : decode cX5_startWith 11 = .ok (.iconst 0, 1) := by decide +kernel
theorem dX5_startWith_12 : decode cX5_startWith 12 = .ok (.putfield 18, 3) := by decide +kernel
theorem dX5_startWith_15 : decode cX5_startWith 15 = .ok (.return_, 1) := by decide +kernel
theorem dX5_copyFrom_0 : decode cX5_copyFrom 0 = .ok (.aload_n 0, 1) := by decide +kernel
theorem dX5_copyFrom_1 : decode cX5_copyFrom 1 = .ok (.aload_n 1, 1) := by decide +kernel
theorem dX5_copyFrom_2 : decode cX5_copyFrom 2 = .ok (.getfield 9, 3) := by decide +kernel
theorem dX5_copyFrom_5 : decode cX5_copyFrom 5 = .ok (.putfield 9, 3) := by decide +kernel
theorem dX5_copyFrom_8 : decode cX5_copyFrom 8 = .ok (.aload_n 0, 1) := by decide +kernel
theorem dX5_copyFrom_9 : decode cX5_copyFrom 9 = .ok (.aload_n 1, 1) := by decide +kernel
theorem dX5_copyFrom_10 : decode cX5_copyFrom 10 = .ok (.getfield 15, 3) := by decide +kernel
theorem dX5_copyFrom_13 : decode cX5_copyFrom 13 = .ok (.putfield 15, 3) := by decide +kernel
theorem dX5_copyFrom_16 : decode cX5_copyFrom 16 = .ok (.aload_n 0, 1) := by decide +kernel
theorem dX5_copyFrom_17 : decode cX5_copyFrom 17 = .ok (.aload_n 1, 1) := by decide +kernel
theorem dX5_copyFrom_18 : decode cX5_copyFrom 18 = .ok (.getfield 18, 3) := by decide +kernel
theorem dX5_copyFrom_21 : decode cX5_copyFrom 21 = .ok (.putfield 18, 3) := by decide +kernel
theorem dX5_copyFrom_24 : decode cX5_copyFrom 24 = .ok (.aload_n 1, 1) := by decide +kernel
theorem dX5_copyFrom_25 : decode cX5_copyFrom 25 = .ok (.getfield 21, 3) := by decide +kernel
theorem dX5_copyFrom_28 : decode cX5_copyFrom 28 = .ok (.iconst 0, 1) := by decide +kernel
theorem dX5_copyFrom_29 : decode cX5_copyFrom 29 = .ok (.aload_n 0, 1) := by decide +kernel
theorem dX5_copyFrom_30 : decode cX5_copyFrom 30 = .ok (.getfield 21, 3) := by decide +kernel
theorem dX5_copyFrom_33 : decode cX5_copyFrom 33 = .ok (.iconst 0, 1) := by decide +kernel
theorem dX5_copyFrom_34 : decode cX5_copyFrom 34 = .ok (.bipush 6, 2) := by decide +kernel
theorem dX5_copyFrom_36 : decode cX5_copyFrom 36 = .ok (.invokestatic 40, 3) := by decide +kernel
theorem dX5_copyFrom_39 : decode cX5_copyFrom 39 = .ok (.aload_n 1, 1) := by decide +kernel
theorem dX5_copyFrom_40 : decode cX5_copyFrom 40 = .ok (.getfield 25, 3) := by decide +kernel
theorem dX5_copyFrom_43 : decode cX5_copyFrom 43 = .ok (.iconst 0, 1) := by decide +kernel
theorem dX5_copyFrom_44 : decode cX5_copyFrom 44 = .ok (.aload_n 0, 1) := by decide +kernel
theorem dX5_copyFrom_45 : decode cX5_copyFrom 45 = .ok (.getfield 25, 3) := by decide +kernel
theorem dX5_copyFrom_48 : decode cX5_copyFrom 48 = .ok (.iconst 0, 1) := by decide +kernel
theorem dX5_copyFrom_49 : decode cX5_copyFrom 49 = .ok (.bipush 14, 2) := by decide +kernel
theorem dX5_copyFrom_51 : decode cX5_copyFrom 51 = .ok (.invokestatic 40, 3) := by decide +kernel
theorem dX5_copyFrom_54 : decode cX5_copyFrom 54 = .ok (.aload_n 1, 1) := by decide +kernel
theorem dX5_copyFrom_55 : decode cX5_copyFrom 55 = .ok (.getfield 28, 3) := by decide +kernel
theorem dX5_copyFrom_58 : decode cX5_copyFrom 58 = .ok (.iconst 0, 1) := by decide +kernel
theorem dX5_copyFrom_59 : decode cX5_copyFrom 59 = .ok (.aload_n 0, 1) := by decide +kernel
theorem dX5_copyFrom_60 : decode cX5_copyFrom 60 = .ok (.getfield 28, 3) := by decide +kernel
theorem dX5_copyFrom_63 : decode cX5_copyFrom 63 = .ok (.iconst 0, 1) := by decide +kernel
theorem dX5_copyFrom_64 : decode cX5_copyFrom 64 = .ok (.bipush 14, 2) := by decide +kernel
theorem dX5_copyFrom_66 : decode cX5_copyFrom 66 = .ok (.invokestatic 40, 3) := by decide +kernel
theorem dX5_copyFrom_69 : decode cX5_copyFrom 69 = .ok (.aload_n 1, 1) := by decide +kernel
theorem dX5_copyFrom_70 : decode cX5_copyFrom 70 = .ok (.getfield 31, 3) := by decide +kernel
theorem dX5_copyFrom_73 : decode cX5_copyFrom 73 = .ok (.iconst 0, 1) := by decide +kernel
theorem dX5_copyFrom_74 : decode cX5_copyFrom 74 = .ok (.aload_n 0, 1) := by decide +kernel
theorem dX5_copyFrom_75 : decode cX5_copyFrom 75 = .ok (.getfield 31, 3) := by decide +kernel
theorem dX5_copyFrom_78 : decode cX5_copyFrom 78 = .ok (.iconst 0, 1) := by decide +kernel
theorem dX5_copyFrom_79 : decode cX5_copyFrom 79 = .ok (.bipush 14, 2) := by decide +kernel
theorem dX5_copyFrom_81 : decode cX5_copyFrom 81 = .ok (.invokestatic 40, 3) := by decide +kernel
theorem dX5_copyFrom_84 : decode cX5_copyFrom 84 = .ok (.aload_n 1, 1) := by decide +kernel
theorem dX5_copyFrom_85 : decode cX5_copyFrom 85 = .ok (.getfield 34, 3) := by decide +kernel
theorem dX5_copyFrom_88 : decode cX5_copyFrom 88 = .ok (.iconst 0, 1) := by decide +kernel
theorem dX5_copyFrom_89 : decode cX5_copyFrom 89 = .ok (.aload_n 0, 1) := by decide +kernel
theorem dX5_copyFrom_90 : decode cX5_copyFrom 90 = .ok (.getfield 34, 3) := by decide +kernel
theorem dX5_copyFrom_93 : decode cX5_copyFrom 93 = .ok (.iconst 0, 1) := by decide +kernel
theorem dX5_copyFrom_94 : decode cX5_copyFrom 94 = .ok (.bipush 14, 2) := by decide +kernel
theorem dX5_copyFrom_96 : decode cX5_copyFrom 96 = .ok (.invokestatic 40, 3) := by decide +kernel
theorem dX5_copyFrom_99 : decode cX5_copyFrom 99 = .ok (.aload_n 1, 1) := by decide +kernel
theorem dX5_copyFrom_100 : decode cX5_copyFrom 100 = .ok (.getfield 37, 3) := by decide +kernel
theorem dX5_copyFrom_103 : decode cX5_copyFrom 103 = .ok (.iconst 0, 1) := by decide +kernel
theorem dX5_copyFrom_104 : decode cX5_copyFrom 104 = .ok (.aload_n 0, 1) := by decide +kernel
theorem dX5_copyFrom_105 : decode cX5_copyFrom 105 = .ok (.getfield 37, 3) := by decide +kernel
theorem dX5_copyFrom_108 : decode cX5_copyFrom 108 = .ok (.iconst 0, 1) := by decide +kernel
theorem dX5_copyFrom_109 : decode cX5_copyFrom 109 = .ok (.bipush 14, 2) := by decide +kernel
theorem dX5_copyFrom_111 : decode cX5_copyFrom 111 = .ok (.invokestatic 40, 3) := by decide +kernel
theorem dX5_copyFrom_114 : decode cX5_copyFrom 114 = .ok (.return_, 1) := by decide +kernel
theorem dX5_appendEvent_0 : decode cX5_appendEvent 0 = .ok (.aload_n 0, 1) := by decide +kernel
theorem dX5_appendEvent_1 : decode cX5_appendEvent 1 = .ok (.getfield 15, 3) := by decide +kernel
theorem dX5_appendEvent_4 : decode cX5_appendEvent 4 = .ok (.bipush 6, 2) := by decide +kernel
theorem dX5_appendEvent_6 : decode cX5_appendEvent 6 = .ok (.if_icmp .ge 23, 3) := by decide +kernel
theorem dX5_appendEvent_9 : decode cX5_appendEvent 9 = .ok (.aload_n 0, 1) := by decide +kernel
theorem dX5_appendEvent_10 : decode cX5_appendEvent 10 = .ok (.getfield 21, 3) := by decide +kernel
theorem dX5_appendEvent_13 : decode cX5_appendEvent 13 = .ok (.aload_n 0, 1) := by decide +kernel
theorem dX5_appendEvent_14 : decode cX5_appendEvent 14 = .ok (.getfield 15, 3) := by decide +kernel
theorem dX5_appendEvent_17 : decode cX5_appendEvent 17 = .ok (.iload_n 1, 1) := by decide +kernel
theorem dX5_appendEvent_18 : decode cX5_appendEvent 18 = .ok (.iastore, 1) := by decide +kernel
theorem dX5_appendEvent_19 : decode cX5_appendEvent 19 = .ok (.aload_n 0, 1) := by decide +kernel
theorem dX5_appendEvent_20 : decode cX5_appendEvent 20 = .ok (.dup, 1) := by decide +kernel
theorem dX5_appendEvent_21 : decode cX5_appendEvent 21 = .ok (.getfield 15, 3) := by decide +kernel
theorem dX5_appendEvent_24 : decode cX5_appendEvent 24 = .ok (.iconst 1, 1) := by decide +kernel
theorem dX5_appendEvent_25 : decode cX5_appendEvent 25 = .ok (.iadd, 1) := by decide +kernel
theorem dX5_appendEvent_26 : decode cX5_appendEvent 26 = .ok (.putfield 15, 3) := by decide +kernel
theorem dX5_appendEvent_29 : decode cX5_appendEvent 29 = .ok (.return_, 1) := by decide +kernel
theorem dX5_appendSpan_0 : decode cX5_appendSpan 0 = .ok (.aload_n 0, 1) := by decide +kernel
theorem dX5_appendSpan_1 : decode cX5_appendSpan 1 = .ok (.getfield 18, 3) := by decide +kernel
theorem dX5_appendSpan_4 : decode cX5_appendSpan 4 = .ok (.bipush 14, 2) := by decide +kernel
theorem dX5_appendSpan_6 : decode cX5_appendSpan 6 = .ok (.if_icmp .ge 65, 3) := by decide +kernel
theorem dX5_appendSpan_9 : decode cX5_appendSpan 9 = .ok (.aload_n 0, 1) := by decide +kernel
theorem dX5_appendSpan_10 : decode cX5_appendSpan 10 = .ok (.getfield 25, 3) := by decide +kernel
theorem dX5_appendSpan_13 : decode cX5_appendSpan 13 = .ok (.aload_n 0, 1) := by decide +kernel
theorem dX5_appendSpan_14 : decode cX5_appendSpan 14 = .ok (.getfield 18, 3) := by decide +kernel
theorem dX5_appendSpan_17 : decode cX5_appendSpan 17 = .ok (.iload_n 1, 1) := by decide +kernel
theorem dX5_appendSpan_18 : decode cX5_appendSpan 18 = .ok (.iastore, 1) := by decide +kernel
theorem dX5_appendSpan_19 : decode cX5_appendSpan 19 = .ok (.aload_n 0, 1) := by decide +kernel
theorem dX5_appendSpan_20 : decode cX5_appendSpan 20 = .ok (.getfield 28, 3) := by decide +kernel
theorem dX5_appendSpan_23 : decode cX5_appendSpan 23 = .ok (.aload_n 0, 1) := by decide +kernel
theorem dX5_appendSpan_24 : decode cX5_appendSpan 24 = .ok (.getfield 18, 3) := by decide +kernel
theorem dX5_appendSpan_27 : decode cX5_appendSpan 27 = .ok (.iload_n 2, 1) := by decide +kernel
theorem dX5_appendSpan_28 : decode cX5_appendSpan 28 = .ok (.iastore, 1) := by decide +kernel
theorem dX5_appendSpan_29 : decode cX5_appendSpan 29 = .ok (.aload_n 0, 1) := by decide +kernel
theorem dX5_appendSpan_30 : decode cX5_appendSpan 30 = .ok (.getfield 31, 3) := by decide +kernel
theorem dX5_appendSpan_33 : decode cX5_appendSpan 33 = .ok (.aload_n 0, 1) := by decide +kernel
theorem dX5_appendSpan_34 : decode cX5_appendSpan 34 = .ok (.getfield 18, 3) := by decide +kernel
theorem dX5_appendSpan_37 : decode cX5_appendSpan 37 = .ok (.iload_n 3, 1) := by decide +kernel
theorem dX5_appendSpan_38 : decode cX5_appendSpan 38 = .ok (.iastore, 1) := by decide +kernel
theorem dX5_appendSpan_39 : decode cX5_appendSpan 39 = .ok (.aload_n 0, 1) := by decide +kernel
theorem dX5_appendSpan_40 : decode cX5_appendSpan 40 = .ok (.getfield 34, 3) := by decide +kernel
theorem dX5_appendSpan_43 : decode cX5_appendSpan 43 = .ok (.aload_n 0, 1) := by decide +kernel
theorem dX5_appendSpan_44 : decode cX5_appendSpan 44 = .ok (.getfield 18, 3) := by decide +kernel
theorem dX5_appendSpan_47 : decode cX5_appendSpan 47 = .ok (.iload 4, 2) := by decide +kernel
theorem dX5_appendSpan_49 : decode cX5_appendSpan 49 = .ok (.iastore, 1) := by decide +kernel
theorem dX5_appendSpan_50 : decode cX5_appendSpan 50 = .ok (.aload_n 0, 1) := by decide +kernel
theorem dX5_appendSpan_51 : decode cX5_appendSpan 51 = .ok (.getfield 37, 3) := by decide +kernel
theorem dX5_appendSpan_54 : decode cX5_appendSpan 54 = .ok (.aload_n 0, 1) := by decide +kernel
theorem dX5_appendSpan_55 : decode cX5_appendSpan 55 = .ok (.getfield 18, 3) := by decide +kernel
theorem dX5_appendSpan_58 : decode cX5_appendSpan 58 = .ok (.iload 5, 2) := by decide +kernel
theorem dX5_appendSpan_60 : decode cX5_appendSpan 60 = .ok (.iastore, 1) := by decide +kernel
theorem dX5_appendSpan_61 : decode cX5_appendSpan 61 = .ok (.aload_n 0, 1) := by decide +kernel
theorem dX5_appendSpan_62 : decode cX5_appendSpan 62 = .ok (.dup, 1) := by decide +kernel
theorem dX5_appendSpan_63 : decode cX5_appendSpan 63 = .ok (.getfield 18, 3) := by decide +kernel
theorem dX5_appendSpan_66 : decode cX5_appendSpan 66 = .ok (.iconst 1, 1) := by decide +kernel
theorem dX5_appendSpan_67 : decode cX5_appendSpan 67 = .ok (.iadd, 1) := by decide +kernel
theorem dX5_appendSpan_68 : decode cX5_appendSpan 68 = .ok (.putfield 18, 3) := by decide +kernel
theorem dX5_appendSpan_71 : decode cX5_appendSpan 71 = .ok (.return_, 1) := by decide +kernel
theorem dX5_dropSpan_0 : decode cX5_dropSpan 0 = .ok (.aload_n 0, 1) := by decide +kernel
theorem dX5_dropSpan_1 : decode cX5_dropSpan 1 = .ok (.dup, 1) := by decide +kernel
theorem dX5_dropSpan_2 : decode cX5_dropSpan 2 = .ok (.getfield 18, 3) := by decide +kernel
theorem dX5_dropSpan_5 : decode cX5_dropSpan 5 = .ok (.iconst 1, 1) := by decide +kernel
theorem dX5_dropSpan_6 : decode cX5_dropSpan 6 = .ok (.isub, 1) := by decide +kernel
theorem dX5_dropSpan_7 : decode cX5_dropSpan 7 = .ok (.putfield 18, 3) := by decide +kernel
theorem dX5_dropSpan_10 : decode cX5_dropSpan 10 = .ok (.iload_n 1, 1) := by decide +kernel
theorem dX5_dropSpan_11 : decode cX5_dropSpan 11 = .ok (.istore_n 2, 1) := by decide +kernel
theorem dX5_dropSpan_12 : decode cX5_dropSpan 12 = .ok (.iload_n 2, 1) := by decide +kernel
theorem dX5_dropSpan_13 : decode cX5_dropSpan 13 = .ok (.aload_n 0, 1) := by decide +kernel
theorem dX5_dropSpan_14 : decode cX5_dropSpan 14 = .ok (.getfield 18, 3) := by decide +kernel
theorem dX5_dropSpan_17 : decode cX5_dropSpan 17 = .ok (.if_icmp .ge 79, 3) := by decide +kernel
theorem dX5_dropSpan_20 : decode cX5_dropSpan 20 = .ok (.aload_n 0, 1) := by decide +kernel
theorem dX5_dropSpan_21 : decode cX5_dropSpan 21 = .ok (.getfield 25, 3) := by decide +kernel
theorem dX5_dropSpan_24 : decode cX5_dropSpan 24 = .ok (.iload_n 2, 1) := by decide +kernel
theorem dX5_dropSpan_25 : decode cX5_dropSpan 25 = .ok (.aload_n 0, 1) := by decide +kernel
theorem dX5_dropSpan_26 : decode cX5_dropSpan 26 = .ok (.getfield 25, 3) := by decide +kernel
theorem dX5_dropSpan_29 : decode cX5_dropSpan 29 = .ok (.iload_n 2, 1) := by decide +kernel
theorem dX5_dropSpan_30 : decode cX5_dropSpan 30 = .ok (.iconst 1, 1) := by decide +kernel
theorem dX5_dropSpan_31 : decode cX5_dropSpan 31 = .ok (.iadd, 1) := by decide +kernel
theorem dX5_dropSpan_32 : decode cX5_dropSpan 32 = .ok (.iaload, 1) := by decide +kernel
theorem dX5_dropSpan_33 : decode cX5_dropSpan 33 = .ok (.iastore, 1) := by decide +kernel
theorem dX5_dropSpan_34 : decode cX5_dropSpan 34 = .ok (.aload_n 0, 1) := by decide +kernel
theorem dX5_dropSpan_35 : decode cX5_dropSpan 35 = .ok (.getfield 28, 3) := by decide +kernel
theorem dX5_dropSpan_38 : decode cX5_dropSpan 38 = .ok (.iload_n 2, 1) := by decide +kernel
theorem dX5_dropSpan_39 : decode cX5_dropSpan 39 = .ok (.aload_n 0, 1) := by decide +kernel
theorem dX5_dropSpan_40 : decode cX5_dropSpan 40 = .ok (.getfield 28, 3) := by decide +kernel
theorem dX5_dropSpan_43 : decode cX5_dropSpan 43 = .ok (.iload_n 2, 1) := by decide +kernel
theorem dX5_dropSpan_44 : decode cX5_dropSpan 44 = .ok (.iconst 1, 1) := by decide +kernel
theorem dX5_dropSpan_45 : decode cX5_dropSpan 45 = .ok (.iadd, 1) := by decide +kernel
theorem dX5_dropSpan_46 : decode cX5_dropSpan 46 = .ok (.iaload, 1) := by decide +kernel
theorem dX5_dropSpan_47 : decode cX5_dropSpan 47 = .ok (.iastore, 1) := by decide +kernel
theorem dX5_dropSpan_48 : decode cX5_dropSpan 48 = .ok (.aload_n 0, 1) := by decide +kernel
theorem dX5_dropSpan_49 : decode cX5_dropSpan 49 = .ok (.getfield 31, 3) := by decide +kernel
theorem dX5_dropSpan_52 : decode cX5_dropSpan 52 = .ok (.iload_n 2, 1) := by decide +kernel
theorem dX5_dropSpan_53 : decode cX5_dropSpan 53 = .ok (.aload_n 0, 1) := by decide +kernel
theorem dX5_dropSpan_54 : decode cX5_dropSpan 54 = .ok (.getfield 31, 3) := by decide +kernel
theorem dX5_dropSpan_57 : decode cX5_dropSpan 57 = .ok (.iload_n 2, 1) := by decide +kernel
theorem dX5_dropSpan_58 : decode cX5_dropSpan 58 = .ok (.iconst 1, 1) := by decide +kernel
theorem dX5_dropSpan_59 : decode cX5_dropSpan 59 = .ok (.iadd, 1) := by decide +kernel
theorem dX5_dropSpan_60 : decode cX5_dropSpan 60 = .ok (.iaload, 1) := by decide +kernel
theorem dX5_dropSpan_61 : decode cX5_dropSpan 61 = .ok (.iastore, 1) := by decide +kernel
theorem dX5_dropSpan_62 : decode cX5_dropSpan 62 = .ok (.aload_n 0, 1) := by decide +kernel
theorem dX5_dropSpan_63 : decode cX5_dropSpan 63 = .ok (.getfield 34, 3) := by decide +kernel
theorem dX5_dropSpan_66 : decode cX5_dropSpan 66 = .ok (.iload_n 2, 1) := by decide +kernel
theorem dX5_dropSpan_67 : decode cX5_dropSpan 67 = .ok (.aload_n 0, 1) := by decide +kernel
theorem dX5_dropSpan_68 : decode cX5_dropSpan 68 = .ok (.getfield 34, 3) := by decide +kernel
theorem dX5_dropSpan_71 : decode cX5_dropSpan 71 = .ok (.iload_n 2, 1) := by decide +kernel
theorem dX5_dropSpan_72 : decode cX5_dropSpan 72 = .ok (.iconst 1, 1) := by decide +kernel
theorem dX5_dropSpan_73 : decode cX5_dropSpan 73 = .ok (.iadd, 1) := by decide +kernel
theorem dX5_dropSpan_74 : decode cX5_dropSpan 74 = .ok (.iaload, 1) := by decide +kernel
theorem dX5_dropSpan_75 : decode cX5_dropSpan 75 = .ok (.iastore, 1) := by decide +kernel
theorem dX5_dropSpan_76 : decode cX5_dropSpan 76 = .ok (.aload_n 0, 1) := by decide +kernel
theorem dX5_dropSpan_77 : decode cX5_dropSpan 77 = .ok (.getfield 37, 3) := by decide +kernel
theorem dX5_dropSpan_80 : decode cX5_dropSpan 80 = .ok (.iload_n 2, 1) := by decide +kernel
theorem dX5_dropSpan_81 : decode cX5_dropSpan 81 = .ok (.aload_n 0, 1) := by decide +kernel
theorem dX5_dropSpan_82 : decode cX5_dropSpan 82 = .ok (.getfield 37, 3) := by decide +kernel
theorem dX5_dropSpan_85 : decode cX5_dropSpan 85 = .ok (.iload_n 2, 1) := by decide +kernel
theorem dX5_dropSpan_86 : decode cX5_dropSpan 86 = .ok (.iconst 1, 1) := by decide +kernel
theorem dX5_dropSpan_87 : decode cX5_dropSpan 87 = .ok (.iadd, 1) := by decide +kernel
theorem dX5_dropSpan_88 : decode cX5_dropSpan 88 = .ok (.iaload, 1) := by decide +kernel
theorem dX5_dropSpan_89 : decode cX5_dropSpan 89 = .ok (.iastore, 1) := by decide +kernel
theorem dX5_dropSpan_90 : decode cX5_dropSpan 90 = .ok (.iinc 2 1, 3) := by decide +kernel
theorem dX5_dropSpan_93 : decode cX5_dropSpan 93 = .ok (.goto (-81), 3) := by decide +kernel
theorem dX5_dropSpan_96 : decode cX5_dropSpan 96 = .ok (.return_, 1) := by decide +kernel
theorem dX5_slackOf_0 : decode cX5_slackOf 0 = .ok (.aload_n 0, 1) := by decide +kernel
theorem dX5_slackOf_1 : decode cX5_slackOf 1 = .ok (.iload_n 1, 1) := by decide +kernel
theorem dX5_slackOf_2 : decode cX5_slackOf 2 = .ok (.aload_n 0, 1) := by decide +kernel
theorem dX5_slackOf_3 : decode cX5_slackOf 3 = .ok (.getfield 21, 3) := by decide +kernel
theorem dX5_slackOf_6 : decode cX5_slackOf 6 = .ok (.aload_n 0, 1) := by decide +kernel
theorem dX5_slackOf_7 : decode cX5_slackOf 7 = .ok (.getfield 28, 3) := by decide +kernel
theorem dX5_slackOf_10 : decode cX5_slackOf 10 = .ok (.iload_n 1, 1) := by decide +kernel
theorem dX5_slackOf_11 : decode cX5_slackOf 11 = .ok (.iaload, 1) := by decide +kernel
theorem dX5_slackOf_12 : decode cX5_slackOf 12 = .ok (.iaload, 1) := by decide +kernel
theorem dX5_slackOf_13 : decode cX5_slackOf 13 = .ok (.aload_n 0, 1) := by decide +kernel
theorem dX5_slackOf_14 : decode cX5_slackOf 14 = .ok (.getfield 21, 3) := by decide +kernel
theorem dX5_slackOf_17 : decode cX5_slackOf 17 = .ok (.aload_n 0, 1) := by decide +kernel
theorem dX5_slackOf_18 : decode cX5_slackOf 18 = .ok (.getfield 25, 3) := by decide +kernel
theorem dX5_slackOf_21 : decode cX5_slackOf 21 = .ok (.iload_n 1, 1) := by decide +kernel
theorem dX5_slackOf_22 : decode cX5_slackOf 22 = .ok (.iaload, 1) := by decide +kernel
theorem dX5_slackOf_23 : decode cX5_slackOf 23 = .ok (.iaload, 1) := by decide +kernel
theorem dX5_slackOf_24 : decode cX5_slackOf 24 = .ok (.isub, 1) := by decide +kernel
theorem dX5_slackOf_25 : decode cX5_slackOf 25 = .ok (.invokevirtual 46, 3) := by decide +kernel
theorem dX5_slackOf_28 : decode cX5_slackOf 28 = .ok (.ireturn, 1) := by decide +kernel
theorem dX5_slackWith_0 : decode cX5_slackWith 0 = .ok (.iload_n 2, 1) := by decide +kernel
theorem dX5_slackWith_1 : decode cX5_slackWith 1 = .ok (.aload_n 0, 1) := by decide +kernel
theorem dX5_slackWith_2 : decode cX5_slackWith 2 = .ok (.getfield 31, 3) := by decide +kernel
theorem dX5_slackWith_5 : decode cX5_slackWith 5 = .ok (.iload_n 1, 1) := by decide +kernel
theorem dX5_slackWith_6 : decode cX5_slackWith 6 = .ok (.iaload, 1) := by decide +kernel
theorem dX5_slackWith_7 : decode cX5_slackWith 7 = .ok (.isub, 1) := by decide +kernel
theorem dX5_slackWith_8 : decode cX5_slackWith 8 = .ok (.aload_n 0, 1) := by decide +kernel
theorem dX5_slackWith_9 : decode cX5_slackWith 9 = .ok (.getfield 9, 3) := by decide +kernel
theorem dX5_slackWith_12 : decode cX5_slackWith 12 = .ok (.invokestatic 50, 3) := by decide +kernel
theorem dX5_slackWith_15 : decode cX5_slackWith 15 = .ok (.ireturn, 1) := by decide +kernel
theorem dX5_keeps_0 : decode cX5_keeps 0 = .ok (.aload_n 0, 1) := by decide +kernel
theorem dX5_keeps_1 : decode cX5_keeps 1 = .ok (.getfield 31, 3) := by decide +kernel
theorem dX5_keeps_4 : decode cX5_keeps 4 = .ok (.iload_n 1, 1) := by decide +kernel
theorem dX5_keeps_5 : decode cX5_keeps 5 = .ok (.iaload, 1) := by decide +kernel
theorem dX5_keeps_6 : decode cX5_keeps 6 = .ok (.aload_n 0, 1) := by decide +kernel
theorem dX5_keeps_7 : decode cX5_keeps 7 = .ok (.iload_n 1, 1) := by decide +kernel
theorem dX5_keeps_8 : decode cX5_keeps 8 = .ok (.invokevirtual 53, 3) := by decide +kernel
theorem dX5_keeps_11 : decode cX5_keeps 11 = .ok (.iadd, 1) := by decide +kernel
theorem dX5_keeps_12 : decode cX5_keeps 12 = .ok (.aload_n 0, 1) := by decide +kernel
theorem dX5_keeps_13 : decode cX5_keeps 13 = .ok (.getfield 34, 3) := by decide +kernel
theorem dX5_keeps_16 : decode cX5_keeps 16 = .ok (.iload_n 1, 1) := by decide +kernel
theorem dX5_keeps_17 : decode cX5_keeps 17 = .ok (.iaload, 1) := by decide +kernel
theorem dX5_keeps_18 : decode cX5_keeps 18 = .ok (.if_icmp .gt 7, 3) := by decide +kernel
theorem dX5_keeps_21 : decode cX5_keeps 21 = .ok (.iconst 1, 1) := by decide +kernel
theorem dX5_keeps_22 : decode cX5_keeps 22 = .ok (.goto 4, 3) := by decide +kernel
theorem dX5_keeps_25 : decode cX5_keeps 25 = .ok (.iconst 0, 1) := by decide +kernel
theorem dX5_keeps_26 : decode cX5_keeps 26 = .ok (.ireturn, 1) := by decide +kernel
theorem dX5_countBroken_0 : decode cX5_countBroken 0 = .ok (.iconst 0, 1) := by decide +kernel
theorem dX5_countBroken_1 : decode cX5_countBroken 1 = .ok (.istore_n 1, 1) := by decide +kernel
theorem dX5_countBroken_2 : decode cX5_countBroken 2 = .ok (.iconst 0, 1) := by decide +kernel
theorem dX5_countBroken_3 : decode cX5_countBroken 3 = .ok (.istore_n 2, 1) := by decide +kernel
theorem dX5_countBroken_4 : decode cX5_countBroken 4 = .ok (.iload_n 2, 1) := by decide +kernel
theorem dX5_countBroken_5 : decode cX5_countBroken 5 = .ok (.aload_n 0, 1) := by decide +kernel
theorem dX5_countBroken_6 : decode cX5_countBroken 6 = .ok (.getfield 18, 3) := by decide +kernel
theorem dX5_countBroken_9 : decode cX5_countBroken 9 = .ok (.if_icmp .ge 20, 3) := by decide +kernel
theorem dX5_countBroken_12 : decode cX5_countBroken 12 = .ok (.aload_n 0, 1) := by decide +kernel
theorem dX5_countBroken_13 : decode cX5_countBroken 13 = .ok (.iload_n 2, 1) := by decide +kernel
theorem dX5_countBroken_14 : decode cX5_countBroken 14 = .ok (.invokevirtual 57, 3) := by decide +kernel
theorem dX5_countBroken_17 : decode cX5_countBroken 17 = .ok (.ifCond .ne 6, 3) := by decide +kernel
theorem dX5_countBroken_20 : decode cX5_countBroken 20 = .ok (.iinc 1 1, 3) := by decide +kernel
theorem dX5_countBroken_23 : decode cX5_countBroken 23 = .ok (.iinc 2 1, 3) := by decide +kernel
theorem dX5_countBroken_26 : decode cX5_countBroken 26 = .ok (.goto (-22), 3) := by decide +kernel
theorem dX5_countBroken_29 : decode cX5_countBroken 29 = .ok (.iload_n 1, 1) := by decide +kernel
theorem dX5_countBroken_30 : decode cX5_countBroken 30 = .ok (.ireturn, 1) := by decide +kernel
theorem dX5_sumCosts_0 : decode cX5_sumCosts 0 = .ok (.iconst 0, 1) := by decide +kernel
theorem dX5_sumCosts_1 : decode cX5_sumCosts 1 = .ok (.istore_n 1, 1) := by decide +kernel
theorem dX5_sumCosts_2 : decode cX5_sumCosts 2 = .ok (.iconst 0, 1) := by decide +kernel
theorem dX5_sumCosts_3 : decode cX5_sumCosts 3 = .ok (.istore_n 2, 1) := by decide +kernel
theorem dX5_sumCosts_4 : decode cX5_sumCosts 4 = .ok (.iload_n 2, 1) := by decide +kernel
theorem dX5_sumCosts_5 : decode cX5_sumCosts 5 = .ok (.aload_n 0, 1) := by decide +kernel
theorem dX5_sumCosts_6 : decode cX5_sumCosts 6 = .ok (.getfield 18, 3) := by decide +kernel
theorem dX5_sumCosts_9 : decode cX5_sumCosts 9 = .ok (.if_icmp .ge 24, 3) := by decide +kernel
theorem dX5_sumCosts_12 : decode cX5_sumCosts 12 = .ok (.iload_n 1, 1) := by decide +kernel
theorem dX5_sumCosts_13 : decode cX5_sumCosts 13 = .ok (.aload_n 0, 1) := by decide +kernel
theorem dX5_sumCosts_14 : decode cX5_sumCosts 14 = .ok (.getfield 37, 3) := by decide +kernel
theorem dX5_sumCosts_17 : decode cX5_sumCosts 17 = .ok (.iload_n 2, 1) := by decide +kernel
theorem dX5_sumCosts_18 : decode cX5_sumCosts 18 = .ok (.iaload, 1) := by decide +kernel
theorem dX5_sumCosts_19 : decode cX5_sumCosts 19 = .ok (.aload_n 0, 1) := by decide +kernel
theorem dX5_sumCosts_20 : decode cX5_sumCosts 20 = .ok (.iload_n 2, 1) := by decide +kernel
theorem dX5_sumCosts_21 : decode cX5_sumCosts 21 = .ok (.invokevirtual 53, 3) := by decide +kernel
theorem dX5_sumCosts_24 : decode cX5_sumCosts 24 = .ok (.imul, 1) := by decide +kernel
theorem dX5_sumCosts_25 : decode cX5_sumCosts 25 = .ok (.iadd, 1) := by decide +kernel
theorem dX5_sumCosts_26 : decode cX5_sumCosts 26 = .ok (.istore_n 1, 1) := by decide +kernel
theorem dX5_sumCosts_27 : decode cX5_sumCosts 27 = .ok (.iinc 2 1, 3) := by decide +kernel
theorem dX5_sumCosts_30 : decode cX5_sumCosts 30 = .ok (.goto (-26), 3) := by decide +kernel
theorem dX5_sumCosts_33 : decode cX5_sumCosts 33 = .ok (.iload_n 1, 1) := by decide +kernel
theorem dX5_sumCosts_34 : decode cX5_sumCosts 34 = .ok (.ireturn, 1) := by decide +kernel
theorem dX5_sumWeights_0 : decode cX5_sumWeights 0 = .ok (.iconst 0, 1) := by decide +kernel
theorem dX5_sumWeights_1 : decode cX5_sumWeights 1 = .ok (.istore_n 1, 1) := by decide +kernel
theorem dX5_sumWeights_2 : decode cX5_sumWeights 2 = .ok (.iconst 0, 1) := by decide +kernel
theorem dX5_sumWeights_3 : decode cX5_sumWeights 3 = .ok (.istore_n 2, 1) := by decide +kernel
theorem dX5_sumWeights_4 : decode cX5_sumWeights 4 = .ok (.iload_n 2, 1) := by decide +kernel
theorem dX5_sumWeights_5 : decode cX5_sumWeights 5 = .ok (.aload_n 0, 1) := by decide +kernel
theorem dX5_sumWeights_6 : decode cX5_sumWeights 6 = .ok (.getfield 18, 3) := by decide +kernel
theorem dX5_sumWeights_9 : decode cX5_sumWeights 9 = .ok (.if_icmp .ge 18, 3) := by decide +kernel
theorem dX5_sumWeights_12 : decode cX5_sumWeights 12 = .ok (.iload_n 1, 1) := by decide +kernel
theorem dX5_sumWeights_13 : decode cX5_sumWeights 13 = .ok (.aload_n 0, 1) := by decide +kernel
theorem dX5_sumWeights_14 : decode cX5_sumWeights 14 = .ok (.getfield 37, 3) := by decide +kernel
theorem dX5_sumWeights_17 : decode cX5_sumWeights 17 = .ok (.iload_n 2, 1) := by decide +kernel
theorem dX5_sumWeights_18 : decode cX5_sumWeights 18 = .ok (.iaload, 1) := by decide +kernel
theorem dX5_sumWeights_19 : decode cX5_sumWeights 19 = .ok (.iadd, 1) := by decide +kernel
theorem dX5_sumWeights_20 : decode cX5_sumWeights 20 = .ok (.istore_n 1, 1) := by decide +kernel
theorem dX5_sumWeights_21 : decode cX5_sumWeights 21 = .ok (.iinc 2 1, 3) := by decide +kernel
theorem dX5_sumWeights_24 : decode cX5_sumWeights 24 = .ok (.goto (-20), 3) := by decide +kernel
theorem dX5_sumWeights_27 : decode cX5_sumWeights 27 = .ok (.iload_n 1, 1) := by decide +kernel
theorem dX5_sumWeights_28 : decode cX5_sumWeights 28 = .ok (.ireturn, 1) := by decide +kernel
theorem dX5_moveBest_0 : decode cX5_moveBest 0 = .ok (.aload_n 0, 1) := by decide +kernel
theorem dX5_moveBest_1 : decode cX5_moveBest 1 = .ok (.invokevirtual 61, 3) := by decide +kernel
theorem dX5_moveBest_4 : decode cX5_moveBest 4 = .ok (.istore_n 1, 1) := by decide +kernel
theorem dX5_moveBest_5 : decode cX5_moveBest 5 = .ok (.aload_n 0, 1) := by decide +kernel
theorem dX5_moveBest_6 : decode cX5_moveBest 6 = .ok (.invokevirtual 65, 3) := by decide +kernel
theorem dX5_moveBest_9 : decode cX5_moveBest 9 = .ok (.istore_n 2, 1) := by decide +kernel
theorem dX5_moveBest_10 : decode cX5_moveBest 10 = .ok (.iconst (-1), 1) := by decide +kernel
theorem dX5_moveBest_11 : decode cX5_moveBest 11 = .ok (.istore_n 3, 1) := by decide +kernel
theorem dX5_moveBest_12 : decode cX5_moveBest 12 = .ok (.iconst (-1), 1) := by decide +kernel
theorem dX5_moveBest_13 : decode cX5_moveBest 13 = .ok (.istore 4, 2) := by decide +kernel
theorem dX5_moveBest_15 : decode cX5_moveBest 15 = .ok (.iconst 0, 1) := by decide +kernel
theorem dX5_moveBest_16 : decode cX5_moveBest 16 = .ok (.istore 5, 2) := by decide +kernel
theorem dX5_moveBest_18 : decode cX5_moveBest 18 = .ok (.iload 5, 2) := by decide +kernel
theorem dX5_moveBest_20 : decode cX5_moveBest 20 = .ok (.aload_n 0, 1) := by decide +kernel
theorem dX5_moveBest_21 : decode cX5_moveBest 21 = .ok (.getfield 15, 3) := by decide +kernel
theorem dX5_moveBest_24 : decode cX5_moveBest 24 = .ok (.if_icmp .ge 97, 3) := by decide +kernel
theorem dX5_moveBest_27 : decode cX5_moveBest 27 = .ok (.aload_n 0, 1) := by decide +kernel
theorem dX5_moveBest_28 : decode cX5_moveBest 28 = .ok (.getfield 21, 3) := by decide +kernel
theorem dX5_moveBest_31 : decode cX5_moveBest 31 = .ok (.iload 5, 2) := by decide +kernel
theorem dX5_moveBest_33 : decode cX5_moveBest 33 = .ok (.iaload, 1) := by decide +kernel
theorem dX5_moveBest_34 : decode cX5_moveBest 34 = .ok (.istore 6, 2) := by decide +kernel
theorem dX5_moveBest_36 : decode cX5_moveBest 36 = .ok (.iconst 0, 1) := by decide +kernel
theorem dX5_moveBest_37 : decode cX5_moveBest 37 = .ok (.istore 7, 2) := by decide +kernel
theorem dX5_moveBest_39 : decode cX5_moveBest 39 = .ok (.iload 7, 2) := by decide +kernel
theorem dX5_moveBest_41 : decode cX5_moveBest 41 = .ok (.aload_n 0, 1) := by decide +kernel
theorem dX5_moveBest_42 : decode cX5_moveBest 42 = .ok (.getfield 9, 3) := by decide +kernel
theorem dX5_moveBest_45 : decode cX5_moveBest 45 = .ok (.if_icmp .ge 61, 3) := by decide +kernel
theorem dX5_moveBest_48 : decode cX5_moveBest 48 = .ok (.aload_n 0, 1) := by decide +kernel
theorem dX5_moveBest_49 : decode cX5_moveBest 49 = .ok (.getfield 21, 3) := by decide +kernel
theorem dX5_moveBest_52 : decode cX5_moveBest 52 = .ok (.iload 5, 2) := by decide +kernel
theorem dX5_moveBest_54 : decode cX5_moveBest 54 = .ok (.iload 7, 2) := by decide +kernel
theorem dX5_moveBest_56 : decode cX5_moveBest 56 = .ok (.iastore, 1) := by decide +kernel
theorem dX5_moveBest_57 : decode cX5_moveBest 57 = .ok (.aload_n 0, 1) := by decide +kernel
theorem dX5_moveBest_58 : decode cX5_moveBest 58 = .ok (.invokevirtual 61, 3) := by decide +kernel
theorem dX5_moveBest_61 : decode cX5_moveBest 61 = .ok (.istore 8, 2) := by decide +kernel
theorem dX5_moveBest_63 : decode cX5_moveBest 63 = .ok (.aload_n 0, 1) := by decide +kernel
theorem dX5_moveBest_64 : decode cX5_moveBest 64 = .ok (.invokevirtual 65, 3) := by decide +kernel
theorem dX5_moveBest_67 : decode cX5_moveBest 67 = .ok (.istore 9, 2) := by decide +kernel
theorem dX5_moveBest_69 : decode cX5_moveBest 69 = .ok (.iload 8, 2) := by decide +kernel
theorem dX5_moveBest_71 : decode cX5_moveBest 71 = .ok (.iload_n 1, 1) := by decide +kernel
theorem dX5_moveBest_72 : decode cX5_moveBest 72 = .ok (.if_icmp .lt 15, 3) := by decide +kernel
theorem dX5_moveBest_75 : decode cX5_moveBest 75 = .ok (.iload 8, 2) := by decide +kernel
theorem dX5_moveBest_77 : decode cX5_moveBest 77 = .ok (.iload_n 1, 1) := by decide +kernel
theorem dX5_moveBest_78 : decode cX5_moveBest 78 = .ok (.if_icmp .ne 22, 3) := by decide +kernel
theorem dX5_moveBest_81 : decode cX5_moveBest 81 = .ok (.iload 9, 2) := by decide +kernel
theorem dX5_moveBest_83 : decode cX5_moveBest 83 = .ok (.iload_n 2, 1) := by decide +kernel
theorem dX5_moveBest_84 : decode cX5_moveBest 84 = .ok (.if_icmp .ge 16, 3) := by decide +kernel
theorem dX5_moveBest_87 : decode cX5_moveBest 87 = .ok (.iload 8, 2) := by decide +kernel
theorem dX5_moveBest_89 : decode cX5_moveBest 89 = .ok (.istore_n 1, 1) := by decide +kernel
theorem dX5_moveBest_90 : decode cX5_moveBest 90 = .ok (.iload 9, 2) := by decide +kernel
theorem dX5_moveBest_92 : decode cX5_moveBest 92 = .ok (.istore_n 2, 1) := by decide +kernel
theorem dX5_moveBest_93 : decode cX5_moveBest 93 = .ok (.iload 5, 2) := by decide +kernel
theorem dX5_moveBest_95 : decode cX5_moveBest 95 = .ok (.istore_n 3, 1) := by decide +kernel
theorem dX5_moveBest_96 : decode cX5_moveBest 96 = .ok (.iload 7, 2) := by decide +kernel
theorem dX5_moveBest_98 : decode cX5_moveBest 98 = .ok (.istore 4, 2) := by decide +kernel
theorem dX5_moveBest_100 : decode cX5_moveBest 100 = .ok (.iinc 7 1, 3) := by decide +kernel
theorem dX5_moveBest_103 : decode cX5_moveBest 103 = .ok (.goto (-64), 3) := by decide +kernel
theorem dX5_moveBest_106 : decode cX5_moveBest 106 = .ok (.aload_n 0, 1) := by decide +kernel
theorem dX5_moveBest_107 : decode cX5_moveBest 107 = .ok (.getfield 21, 3) := by decide +kernel
theorem dX5_moveBest_110 : decode cX5_moveBest 110 = .ok (.iload 5, 2) := by decide +kernel
theorem dX5_moveBest_112 : decode cX5_moveBest 112 = .ok (.iload 6, 2) := by decide +kernel
theorem dX5_moveBest_114 : decode cX5_moveBest 114 = .ok (.iastore, 1) := by decide +kernel
theorem dX5_moveBest_115 : decode cX5_moveBest 115 = .ok (.iinc 5 1, 3) := by decide +kernel
theorem dX5_moveBest_118 : decode cX5_moveBest 118 = .ok (.goto (-100), 3) := by decide +kernel
theorem dX5_moveBest_121 : decode cX5_moveBest 121 = .ok (.iload_n 3, 1) := by decide +kernel
theorem dX5_moveBest_122 : decode cX5_moveBest 122 = .ok (.iconst (-1), 1) := by decide +kernel
theorem dX5_moveBest_123 : decode cX5_moveBest 123 = .ok (.if_icmp .ne 5, 3) := by decide +kernel
theorem dX5_moveBest_126 : decode cX5_moveBest 126 = .ok (.iconst 0, 1) := by decide +kernel
theorem dX5_moveBest_127 : decode cX5_moveBest 127 = .ok (.ireturn, 1) := by decide +kernel
theorem dX5_moveBest_128 : decode cX5_moveBest 128 = .ok (.aload_n 0, 1) := by decide +kernel
theorem dX5_moveBest_129 : decode cX5_moveBest 129 = .ok (.getfield 21, 3) := by decide +kernel
theorem dX5_moveBest_132 : decode cX5_moveBest 132 = .ok (.iload_n 3, 1) := by decide +kernel
theorem dX5_moveBest_133 : decode cX5_moveBest 133 = .ok (.iload 4, 2) := by decide +kernel
theorem dX5_moveBest_135 : decode cX5_moveBest 135 = .ok (.iastore, 1) := by decide +kernel
theorem dX5_moveBest_136 : decode cX5_moveBest 136 = .ok (.iconst 1, 1) := by decide +kernel
theorem dX5_moveBest_137 : decode cX5_moveBest 137 = .ok (.ireturn, 1) := by decide +kernel
theorem dX6_init_0 : decode cX6_init 0 = .ok (.aload_n 0, 1) := by decide +kernel
theorem dX6_init_1 : decode cX6_init 1 = .ok (.invokespecial 3, 3) := by decide +kernel
theorem dX6_init_4 : decode cX6_init 4 = .ok (.aload_n 0, 1) := by decide +kernel
theorem dX6_init_5 : decode cX6_init 5 = .ok (.new 9, 3) := by decide +kernel
theorem dX6_init_8 : decode cX6_init 8 = .ok (.dup, 1) := by decide +kernel
theorem dX6_init_9 : decode cX6_init 9 = .ok (.invokespecial 11, 3) := by decide +kernel
theorem dX6_init_12 : decode cX6_init 12 = .ok (.putfield 12, 3) := by decide +kernel
theorem dX6_init_15 : decode cX6_init 15 = .ok (.aload_n 0, 1) := by decide +kernel
theorem dX6_init_16 : decode cX6_init 16 = .ok (.new 18, 3) := by decide +kernel
theorem dX6_init_19 : decode cX6_init 19 = .ok (.dup, 1) := by decide +kernel
theorem dX6_init_20 : decode cX6_init 20 = .ok (.invokespecial 20, 3) := by decide +kernel
theorem dX6_init_23 : decode cX6_init 23 = .ok (.putfield 21, 3) := by decide +kernel
theorem dX6_init_26 : decode cX6_init 26 = .ok (.aload_n 0, 1) := by decide +kernel
theorem dX6_init_27 : decode cX6_init 27 = .ok (.iconst 0, 1) := by decide +kernel
theorem dX6_init_28 : decode cX6_init 28 = .ok (.putfield 25, 3) := by decide +kernel
theorem dX6_init_31 : decode cX6_init 31 = .ok (.aload_n 0, 1) := by decide +kernel
theorem dX6_init_32 : decode cX6_init 32 = .ok (.iconst (-1), 1) := by decide +kernel
theorem dX6_init_33 : decode cX6_init 33 = .ok (.putfield 29, 3) := by decide +kernel
theorem dX6_init_36 : decode cX6_init 36 = .ok (.aload_n 0, 1) := by decide +kernel
theorem dX6_init_37 : decode cX6_init 37 = .ok (.iconst 0, 1) := by decide +kernel
theorem dX6_init_38 : decode cX6_init 38 = .ok (.newarray .byte, 2) := by decide +kernel
theorem dX6_init_40 : decode cX6_init 40 = .ok (.putfield 32, 3) := by decide +kernel
theorem dX6_init_43 : decode cX6_init 43 = .ok (.aload_n 0, 1) := by decide +kernel
theorem dX6_init_44 : decode cX6_init 44 = .ok (.iconst 0, 1) := by decide +kernel
theorem dX6_init_45 : decode cX6_init 45 = .ok (.putfield 36, 3) := by decide +kernel
theorem dX6_init_48 : decode cX6_init 48 = .ok (.aload_n 0, 1) := by decide +kernel
theorem dX6_init_49 : decode cX6_init 49 = .ok (.iconst 0, 1) := by decide +kernel
theorem dX6_init_50 : decode cX6_init 50 = .ok (.putfield 39, 3) := by decide +kernel
theorem dX6_init_53 : decode cX6_init 53 = .ok (.aload_n 0, 1) := by decide +kernel
theorem dX6_init_54 : decode cX6_init 54 = .ok (.iconst 0, 1) := by decide +kernel
theorem dX6_init_55 : decode cX6_init 55 = .ok (.putfield 42, 3) := by decide +kernel
theorem dX6_init_58 : decode cX6_init 58 = .ok (.aload_n 0, 1) := by decide +kernel
theorem dX6_init_59 : decode cX6_init 59 = .ok (.iconst 0, 1) := by decide +kernel
theorem dX6_init_60 : decode cX6_init 60 = .ok (.putfield 45, 3) := by decide +kernel
theorem dX6_init_63 : decode cX6_init 63 = .ok (.aload_n 0, 1) := by decide +kernel
theorem dX6_init_64 : decode cX6_init 64 = .ok (.iconst 0, 1) := by decide +kernel
theorem dX6_init_65 : decode cX6_init 65 = .ok (.putfield 48, 3) := by decide +kernel
theorem dX6_init_68 : decode cX6_init 68 = .ok (.return_, 1) := by decide +kernel
theorem dX6_accepts_0 : decode cX6_accepts 0 = .ok (.aload_n 0, 1) := by decide +kernel
theorem dX6_accepts_1 : decode cX6_accepts 1 = .ok (.aload_n 1, 1) := by decide +kernel
theorem dX6_accepts_2 : decode cX6_accepts 2 = .ok (.putfield 32, 3) := by decide +kernel
theorem dX6_accepts_5 : decode cX6_accepts 5 = .ok (.aload_n 0, 1) := by decide +kernel
theorem dX6_accepts_6 : decode cX6_accepts 6 = .ok (.iload_n 2, 1) := by decide +kernel
theorem dX6_accepts_7 : decode cX6_accepts 7 = .ok (.aload_n 1, 1) := by decide +kernel
theorem dX6_accepts_8 : decode cX6_accepts 8 = .ok (.arraylength, 1) := by decide +kernel
theorem dX6_accepts_9 : decode cX6_accepts 9 = .ok (.invokestatic 51, 3) := by decide +kernel
theorem dX6_accepts_12 : decode cX6_accepts 12 = .ok (.putfield 36, 3) := by decide +kernel
theorem dX6_accepts_15 : decode cX6_accepts 15 = .ok (.aload_n 0, 1) := by decide +kernel
theorem dX6_accepts_16 : decode cX6_accepts 16 = .ok (.iconst 0, 1) := by decide +kernel
theorem dX6_accepts_17 : decode cX6_accepts 17 = .ok (.putfield 45, 3) := by decide +kernel
theorem dX6_accepts_20 : decode cX6_accepts 20 = .ok (.aload_n 0, 1) := by decide +kernel
theorem dX6_accepts_21 : decode cX6_accepts 21 = .ok (.iconst 0, 1) := by decide +kernel
theorem dX6_accepts_22 : decode cX6_accepts 22 = .ok (.putfield 25, 3) := by decide +kernel
theorem dX6_accepts_25 : decode cX6_accepts 25 = .ok (.aload_n 0, 1) := by decide +kernel
theorem dX6_accepts_26 : decode cX6_accepts 26 = .ok (.iconst (-1), 1) := by decide +kernel
theorem dX6_accepts_27 : decode cX6_accepts 27 = .ok (.putfield 29, 3) := by decide +kernel
theorem dX6_accepts_30 : decode cX6_accepts 30 = .ok (.aload_n 0, 1) := by decide +kernel
theorem dX6_accepts_31 : decode cX6_accepts 31 = .ok (.getfield 21, 3) := by decide +kernel
theorem dX6_accepts_34 : decode cX6_accepts 34 = .ok (.invokevirtual 57, 3) := by decide +kernel
theorem dX6_accepts_37 : decode cX6_accepts 37 = .ok (.aload_n 0, 1) := by decide +kernel
theorem dX6_accepts_38 : decode cX6_accepts 38 = .ok (.getfield 12, 3) := by decide +kernel
theorem dX6_accepts_41 : decode cX6_accepts 41 = .ok (.bipush 12, 2) := by decide +kernel
theorem dX6_accepts_43 : decode cX6_accepts 43 = .ok (.invokevirtual 60, 3) := by decide +kernel
theorem dX6_accepts_46 : decode cX6_accepts 46 = .ok (.aload_n 0, 1) := by decide +kernel
theorem dX6_accepts_47 : decode cX6_accepts 47 = .ok (.invokevirtual 64, 3) := by decide +kernel
theorem dX6_accepts_50 : decode cX6_accepts 50 = .ok (.aload_n 0, 1) := by decide +kernel
theorem dX6_accepts_51 : decode cX6_accepts 51 = .ok (.getfield 39, 3) := by decide +kernel
theorem dX6_accepts_54 : decode cX6_accepts 54 = .ok (.ifCond .eq 10, 3) := by decide +kernel
theorem dX6_accepts_57 : decode cX6_accepts 57 = .ok (.aload_n 0, 1) := by decide +kernel
theorem dX6_accepts_58 : decode cX6_accepts 58 = .ok (.invokevirtual 67, 3) := by decide +kernel
theorem dX6_accepts_61 : decode cX6_accepts 61 = .ok (.ifCond .eq 7, 3) := by decide +kernel
theorem dX6_accepts_64 : decode cX6_accepts 64 = .ok (.iconst 1, 1) := by decide +kernel
theorem dX6_accepts_65 : decode cX6_accepts 65 = .ok (.goto 4, 3) := by decide +kernel
theorem dX6_accepts_68 : decode cX6_accepts 68 = .ok (.iconst 0, 1) := by decide +kernel
theorem dX6_accepts_69 : decode cX6_accepts 69 = .ok (.istore_n 3, 1) := by decide +kernel
theorem dX6_accepts_70 : decode cX6_accepts 70 = .ok (.iconst 0, 1) := by decide +kernel
theorem dX6_accepts_71 : decode cX6_accepts 71 = .ok (.istore 4, 2) := by decide +kernel
theorem dX6_accepts_73 : decode cX6_accepts 73 = .ok (.iload 4, 2) := by decide +kernel
theorem dX6_accepts_75 : decode cX6_accepts 75 = .ok (.sipush 500, 3) := by decide +kernel
theorem dX6_accepts_78 : decode cX6_accepts 78 = .ok (.if_icmp .ge 44, 3) := by decide +kernel
theorem dX6_accepts_81 : decode cX6_accepts 81 = .ok (.iload_n 3, 1) := by decide +kernel
theorem dX6_accepts_82 : decode cX6_accepts 82 = .ok (.ifCond .eq 40, 3) := by decide +kernel
theorem dX6_accepts_85 : decode cX6_accepts 85 = .ok (.aload_n 0, 1) := by decide +kernel
theorem dX6_accepts_86 : decode cX6_accepts 86 = .ok (.getfield 39, 3) := by decide +kernel
theorem dX6_accepts_89 : decode cX6_accepts 89 = .ok (.ifCond .eq 33, 3) := by decide +kernel
theorem dX6_accepts_92 : decode cX6_accepts 92 = .ok (.aload_n 0, 1) := by decide +kernel
theorem dX6_accepts_93 : decode cX6_accepts 93 = .ok (.invokevirtual 64, 3) := by decide +kernel
theorem dX6_accepts_96 : decode cX6_accepts 96 = .ok (.aload_n 0, 1) := by decide +kernel
theorem dX6_accepts_97 : decode cX6_accepts 97 = .ok (.getfield 39, 3) := by decide +kernel
theorem dX6_accepts_100 : decode cX6_accepts 100 = .ok (.ifCond .eq 10, 3) := by decide +kernel
theorem dX6_accepts_103 : decode cX6_accepts 103 = .ok (.aload_n 0, 1) := by decide +kernel
theorem dX6_accepts_104 : decode cX6_accepts 104 = .ok (.invokevirtual 71, 3) := by decide +kernel
theorem dX6_accepts_107 : decode cX6_accepts 107 = .ok (.ifCond .eq 7, 3) := by decide +kernel
theorem dX6_accepts_110 : decode cX6_accepts 110 = .ok (.iconst 1, 1) := by decide +kernel
theorem dX6_accepts_111 : decode cX6_accepts 111 = .ok (.goto 4, 3) := by decide +kernel
theorem dX6_accepts_114 : decode cX6_accepts 114 = .ok (.iconst 0, 1) := by decide +kernel
theorem dX6_accepts_115 : decode cX6_accepts 115 = .ok (.istore_n 3, 1) := by decide +kernel
theorem dX6_accepts_116 : decode cX6_accepts 116 = .ok (.iinc 4 1, 3) := by decide +kernel
theorem dX6_accepts_119 : decode cX6_accepts 119 = .ok (.goto (-46), 3) := by decide +kernel
theorem dX6_accepts_122 : decode cX6_accepts 122 = .ok (.iload_n 3, 1) := by decide +kernel
theorem dX6_accepts_123 : decode cX6_accepts 123 = .ok (.ireturn, 1) := by decide +kernel
theorem dX6_readPeriod_0 : decode cX6_readPeriod 0 = .ok (.aload_n 0, 1) := by decide +kernel
theorem dX6_readPeriod_1 : decode cX6_readPeriod 1 = .ok (.ldc 74, 2) := by decide +kernel
theorem dX6_readPeriod_3 : decode cX6_readPeriod 3 = .ok (.invokevirtual 76, 3) := by decide +kernel
theorem dX6_readPeriod_6 : decode cX6_readPeriod 6 = .ok (.ifCond .ne 8, 3) := by decide +kernel
theorem dX6_readPeriod_9 : decode cX6_readPeriod 9 = .ok (.aload_n 0, 1) := by decide +kernel
theorem dX6_readPeriod_10 : decode cX6_readPeriod 10 = .ok (.invokevirtual 80, 3) := by decide +kernel
theorem dX6_readPeriod_13 : decode cX6_readPeriod 13 = .ok (.ireturn, 1) := by decide +kernel
theorem dX6_readPeriod_14 : decode cX6_readPeriod 14 = .ok (.aload_n 0, 1) := by decide +kernel
theorem dX6_readPeriod_15 : decode cX6_readPeriod 15 = .ok (.iconst 2, 1) := by decide +kernel
theorem dX6_readPeriod_16 : decode cX6_readPeriod 16 = .ok (.bipush 24, 2) := by decide +kernel
theorem dX6_readPeriod_18 : decode cX6_readPeriod 18 = .ok (.invokevirtual 83, 3) := by decide +kernel
theorem dX6_readPeriod_21 : decode cX6_readPeriod 21 = .ok (.istore_n 1, 1) := by decide +kernel
theorem dX6_readPeriod_22 : decode cX6_readPeriod 22 = .ok (.iload_n 1, 1) := by decide +kernel
theorem dX6_readPeriod_23 : decode cX6_readPeriod 23 = .ok (.iconst (-1), 1) := by decide +kernel
theorem dX6_readPeriod_24 : decode cX6_readPeriod 24 = .ok (.if_icmp .eq 10, 3) := by decide +kernel
theorem dX6_readPeriod_27 : decode cX6_readPeriod 27 = .ok (.aload_n 0, 1) := by decide +kernel
theorem dX6_readPeriod_28 : decode cX6_readPeriod 28 = .ok (.invokevirtual 86, 3) := by decide +kernel
theorem dX6_readPeriod_31 : decode cX6_readPeriod 31 = .ok (.ifCond .ne 5, 3) := by decide +kernel
theorem dX6_readPeriod_34 : decode cX6_readPeriod 34 = .ok (.iconst 0, 1) := by decide +kernel
theorem dX6_readPeriod_35 : decode cX6_readPeriod 35 = .ok (.ireturn, 1) := by decide +kernel
theorem dX6_readPeriod_36 : decode cX6_readPeriod 36 = .ok (.aload_n 0, 1) := by decide +kernel
theorem dX6_readPeriod_37 : decode cX6_readPeriod 37 = .ok (.getfield 12, 3) := by decide +kernel
theorem dX6_readPeriod_40 : decode cX6_readPeriod 40 = .ok (.iload_n 1, 1) := by decide +kernel
theorem dX6_readPeriod_41 : decode cX6_readPeriod 41 = .ok (.invokevirtual 60, 3) := by decide +kernel
theorem dX6_readPeriod_44 : decode cX6_readPeriod 44 = .ok (.iconst 1, 1) := by decide +kernel
theorem dX6_readPeriod_45 : decode cX6_readPeriod 45 = .ok (.ireturn, 1) := by decide +kernel
theorem dX6_readStatement_0 : decode cX6_readStatement 0 = .ok (.aload_n 0, 1) := by decide +kernel
theorem dX6_readStatement_1 : decode cX6_readStatement 1 = .ok (.ldc 89, 2) := by decide +kernel
theorem dX6_readStatement_3 : decode cX6_readStatement 3 = .ok (.invokevirtual 76, 3) := by decide +kernel
theorem dX6_readStatement_6 : decode cX6_readStatement 6 = .ok (.ifCond .eq 28, 3) := by decide +kernel
theorem dX6_readStatement_9 : decode cX6_readStatement 9 = .ok (.aload_n 0, 1) := by decide +kernel
theorem dX6_readStatement_10 : decode cX6_readStatement 10 = .ok (.getfield 12, 3) := by decide +kernel
theorem dX6_readStatement_13 : decode cX6_readStatement 13 = .ok (.getfield 91, 3) := by decide +kernel
theorem dX6_readStatement_16 : decode cX6_readStatement 16 = .ok (.bipush 6, 2) := by decide +kernel
theorem dX6_readStatement_18 : decode cX6_readStatement 18 = .ok (.if_icmp .ge 10, 3) := by decide +kernel
theorem dX6_readStatement_21 : decode cX6_readStatement 21 = .ok (.aload_n 0, 1) := by decide +kernel
theorem dX6_readStatement_22 : decode cX6_readStatement 22 = .ok (.invokevirtual 94, 3) := by decide +kernel
theorem dX6_readStatement_25 : decode cX6_readStatement 25 = .ok (.goto 8, 3) := by decide +kernel
theorem dX6_readStatement_28 : decode cX6_readStatement 28 = .ok (.aload_n 0, 1) := by decide +kernel
theorem dX6_readStatement_29 : decode cX6_readStatement 29 = .ok (.iconst 5, 1) := by decide +kernel
theorem dX6_readStatement_30 : decode cX6_readStatement 30 = .ok (.invokevirtual 97, 3) := by decide +kernel
theorem dX6_readStatement_33 : decode cX6_readStatement 33 = .ok (.ireturn, 1) := by decide +kernel
theorem dX6_readStatement_34 : decode cX6_readStatement 34 = .ok (.aload_n 0, 1) := by decide +kernel
theorem dX6_readStatement_35 : decode cX6_readStatement 35 = .ok (.ldc 101, 2) := by decide +kernel
theorem dX6_readStatement_37 : decode cX6_readStatement 37 = .ok (.invokevirtual 76, 3) := by decide +kernel
theorem dX6_readStatement_40 : decode cX6_readStatement 40 = .ok (.ifCond .eq 28, 3) := by decide +kernel
theorem dX6_readStatement_43 : decode cX6_readStatement 43 = .ok (.aload_n 0, 1) := by decide +kernel
theorem dX6_readStatement_44 : decode cX6_readStatement 44 = .ok (.getfield 12, 3) := by decide +kernel
theorem dX6_readStatement_47 : decode cX6_readStatement 47 = .ok (.getfield 103, 3) := by decide +kernel
theorem dX6_readStatement_50 : decode cX6_readStatement 50 = .ok (.bipush 14, 2) := by decide +kernel
theorem dX6_readStatement_52 : decode cX6_readStatement 52 = .ok (.if_icmp .ge 10, 3) := by decide +kernel
theorem dX6_readStatement_55 : decode cX6_readStatement 55 = .ok (.aload_n 0, 1) := by decide +kernel
theorem dX6_readStatement_56 : decode cX6_readStatement 56 = .ok (.invokevirtual 106, 3) := by decide +kernel
theorem dX6_readStatement_59 : decode cX6_readStatement 59 = .ok (.goto 8, 3) := by decide +kernel
theorem dX6_readStatement_62 : decode cX6_readStatement 62 = .ok (.aload_n 0, 1) := by decide +kernel
theorem dX6_readStatement_63 : decode cX6_readStatement 63 = .ok (.iconst 5, 1) := by decide +kernel
theorem dX6_readStatement_64 : decode cX6_readStatement 64 = .ok (.invokevirtual 97, 3) := by decide +kernel
theorem dX6_readStatement_67 : decode cX6_readStatement 67 = .ok (.ireturn, 1) := by decide +kernel
theorem dX6_readStatement_68 : decode cX6_readStatement 68 = .ok (.aload_n 0, 1) := by decide +kernel
theorem dX6_readStatement_69 : decode cX6_readStatement 69 = .ok (.invokevirtual 80, 3) := by decide +kernel
theorem dX6_readStatement_72 : decode cX6_readStatement 72 = .ok (.ireturn, 1) := by decide +kernel
theorem dX6_readEvent_0 : decode cX6_readEvent 0 = .ok (.aload_n 0, 1) := by decide +kernel
theorem dX6_readEvent_1 : decode cX6_readEvent 1 = .ok (.invokevirtual 64, 3) := by decide +kernel
theorem dX6_readEvent_4 : decode cX6_readEvent 4 = .ok (.aload_n 0, 1) := by decide +kernel
theorem dX6_readEvent_5 : decode cX6_readEvent 5 = .ok (.getfield 39, 3) := by decide +kernel
theorem dX6_readEvent_8 : decode cX6_readEvent 8 = .ok (.iconst 2, 1) := by decide +kernel
theorem dX6_readEvent_9 : decode cX6_readEvent 9 = .ok (.if_icmp .eq 8, 3) := by decide +kernel
theorem dX6_readEvent_12 : decode cX6_readEvent 12 = .ok (.aload_n 0, 1) := by decide +kernel
theorem dX6_readEvent_13 : decode cX6_readEvent 13 = .ok (.invokevirtual 80, 3) := by decide +kernel
theorem dX6_readEvent_16 : decode cX6_readEvent 16 = .ok (.ireturn, 1) := by decide +kernel
theorem dX6_readEvent_17 : decode cX6_readEvent 17 = .ok (.aload_n 0, 1) := by decide +kernel
theorem dX6_readEvent_18 : decode cX6_readEvent 18 = .ok (.getfield 21, 3) := by decide +kernel
theorem dX6_readEvent_21 : decode cX6_readEvent 21 = .ok (.aload_n 0, 1) := by decide +kernel
theorem dX6_readEvent_22 : decode cX6_readEvent 22 = .ok (.getfield 32, 3) := by decide +kernel
theorem dX6_readEvent_25 : decode cX6_readEvent 25 = .ok (.aload_n 0, 1) := by decide +kernel
theorem dX6_readEvent_26 : decode cX6_readEvent 26 = .ok (.getfield 42, 3) := by decide +kernel
theorem dX6_readEvent_29 : decode cX6_readEvent 29 = .ok (.aload_n 0, 1) := by decide +kernel
theorem dX6_readEvent_30 : decode cX6_readEvent 30 = .ok (.getfield 45, 3) := by decide +kernel
theorem dX6_readEvent_33 : decode cX6_readEvent 33 = .ok (.aload_n 0, 1) := by decide +kernel
theorem dX6_readEvent_34 : decode cX6_readEvent 34 = .ok (.getfield 42, 3) := by decide +kernel
theorem dX6_readEvent_37 : decode cX6_readEvent 37 = .ok (.isub, 1) := by decide +kernel
theorem dX6_readEvent_38 : decode cX6_readEvent 38 = .ok (.invokevirtual 109, 3) := by decide +kernel
theorem dX6_readEvent_41 : decode cX6_readEvent 41 = .ok (.iconst (-1), 1) := by decide +kernel
theorem dX6_readEvent_42 : decode cX6_readEvent 42 = .ok (.if_icmp .eq 9, 3) := by decide +kernel
theorem dX6_readEvent_45 : decode cX6_readEvent 45 = .ok (.aload_n 0, 1) := by decide +kernel
theorem dX6_readEvent_46 : decode cX6_readEvent 46 = .ok (.iconst 4, 1) := by decide +kernel
theorem dX6_readEvent_47 : decode cX6_readEvent 47 = .ok (.invokevirtual 97, 3) := by decide +kernel
theorem dX6_readEvent_50 : decode cX6_readEvent 50 = .ok (.ireturn, 1) := by decide +kernel
theorem dX6_readEvent_51 : decode cX6_readEvent 51 = .ok (.aload_n 0, 1) := by decide +kernel
theorem dX6_readEvent_52 : decode cX6_readEvent 52 = .ok (.getfield 21, 3) := by decide +kernel
theorem dX6_readEvent_55 : decode cX6_readEvent 55 = .ok (.aload_n 0, 1) := by decide +kernel
theorem dX6_readEvent_56 : decode cX6_readEvent 56 = .ok (.getfield 32, 3) := by decide +kernel
theorem dX6_readEvent_59 : decode cX6_readEvent 59 = .ok (.aload_n 0, 1) := by decide +kernel
theorem dX6_readEvent_60 : decode cX6_readEvent 60 = .ok (.getfield 42, 3) := by decide +kernel
theorem dX6_readEvent_63 : decode cX6_readEvent 63 = .ok (.aload_n 0, 1) := by decide +kernel
theorem dX6_readEvent_64 : decode cX6_readEvent 64 = .ok (.getfield 45, 3) := by decide +kernel
theorem dX6_readEvent_67 : decode cX6_readEvent 67 = .ok (.aload_n 0, 1) := by decide +kernel
theorem dX6_readEvent_68 : decode cX6_readEvent 68 = .ok (.getfield 42, 3) := by decide +kernel
theorem dX6_readEvent_71 : decode cX6_readEvent 71 = .ok (.isub, 1) := by decide +kernel
theorem dX6_readEvent_72 : decode cX6_readEvent 72 = .ok (.invokevirtual 113, 3) := by decide +kernel
theorem dX6_readEvent_75 : decode cX6_readEvent 75 = .ok (.aload_n 0, 1) := by decide +kernel
theorem dX6_readEvent_76 : decode cX6_readEvent 76 = .ok (.iconst 0, 1) := by decide +kernel
theorem dX6_readEvent_77 : decode cX6_readEvent 77 = .ok (.aload_n 0, 1) := by decide +kernel
theorem dX6_readEvent_78 : decode cX6_readEvent 78 = .ok (.getfield 12, 3) := by decide +kernel
theorem dX6_readEvent_81 : decode cX6_readEvent 81 = .ok (.getfield 117, 3) := by decide +kernel
theorem dX6_readEvent_84 : decode cX6_readEvent 84 = .ok (.iconst 1, 1) := by decide +kernel
theorem dX6_readEvent_85 : decode cX6_readEvent 85 = .ok (.isub, 1) := by decide +kernel
theorem dX6_readEvent_86 : decode cX6_readEvent 86 = .ok (.invokevirtual 83, 3) := by decide +kernel
theorem dX6_readEvent_89 : decode cX6_readEvent 89 = .ok (.istore_n 1, 1) := by decide +kernel
theorem dX6_readEvent_90 : decode cX6_readEvent 90 = .ok (.iload_n 1, 1) := by decide +kernel
theorem dX6_readEvent_91 : decode cX6_readEvent 91 = .ok (.iconst (-1), 1) := by decide +kernel
theorem dX6_readEvent_92 : decode cX6_readEvent 92 = .ok (.if_icmp .ne 5, 3) := by decide +kernel
theorem dX6_readEvent_95 : decode cX6_readEvent 95 = .ok (.iconst 0, 1) := by decide +kernel
theorem dX6_readEvent_96 : decode cX6_readEvent 96 = .ok (.ireturn, 1) := by decide +kernel
theorem dX6_readEvent_97 : decode cX6_readEvent 97 = .ok (.aload_n 0, 1) := by decide +kernel
theorem dX6_readEvent_98 : decode cX6_readEvent 98 = .ok (.getfield 12, 3) := by decide +kernel
theorem dX6_readEvent_101 : decode cX6_readEvent 101 = .ok (.iload_n 1, 1) := by decide +kernel
theorem dX6_readEvent_102 : decode cX6_readEvent 102 = .ok (.invokevirtual 119, 3) := by decide +kernel
theorem dX6_readEvent_105 : decode cX6_readEvent 105 = .ok (.aload_n 0, 1) := by decide +kernel
theorem dX6_readEvent_106 : decode cX6_readEvent 106 = .ok (.invokevirtual 86, 3) := by decide +kernel
theorem dX6_readEvent_109 : decode cX6_readEvent 109 = .ok (.ireturn, 1) := by decide +kernel
theorem dX6_readSpan_0 : decode cX6_readSpan 0 = .ok (.aload_n 0, 1) := by decide +kernel
theorem dX6_readSpan_1 : decode cX6_readSpan 1 = .ok (.iconst (-1), 1) := by decide +kernel
theorem dX6_readSpan_2 : decode cX6_readSpan 2 = .ok (.invokevirtual 122, 3) := by decide +kernel
theorem dX6_readSpan_5 : decode cX6_readSpan 5 = .ok (.istore_n 1, 1) := by decide +kernel
theorem dX6_readSpan_6 : decode cX6_readSpan 6 = .ok (.iload_n 1, 1) := by decide +kernel
theorem dX6_readSpan_7 : decode cX6_readSpan 7 = .ok (.iconst (-1), 1) := by decide +kernel
theorem dX6_readSpan_8 : decode cX6_readSpan 8 = .ok (.if_icmp .ne 7, 3) := by decide +kernel
theorem dX6_readSpan_11 : decode cX6_readSpan 11 = .ok (.iconst (-1), 1) := by decide +kernel
theorem dX6_readSpan_12 : decode cX6_readSpan 12 = .ok (.goto 8, 3) := by decide +kernel
theorem dX6_readSpan_15 : decode cX6_readSpan 15 = .ok (.aload_n 0, 1) := by decide +kernel
theorem dX6_readSpan_16 : decode cX6_readSpan 16 = .ok (.iload_n 1, 1) := by decide +kernel
theorem dX6_readSpan_17 : decode cX6_readSpan 17 = .ok (.invokevirtual 122, 3) := by decide +kernel
theorem dX6_readSpan_20 : decode cX6_readSpan 20 = .ok (.istore_n 2, 1) := by decide +kernel
theorem dX6_readSpan_21 : decode cX6_readSpan 21 = .ok (.iload_n 2, 1) := by decide +kernel
theorem dX6_readSpan_22 : decode cX6_readSpan 22 = .ok (.iconst (-1), 1) := by decide +kernel
theorem dX6_readSpan_23 : decode cX6_readSpan 23 = .ok (.if_icmp .ne 7, 3) := by decide +kernel
theorem dX6_readSpan_26 : decode cX6_readSpan 26 = .ok (.iconst (-1), 1) := by decide +kernel
theorem dX6_readSpan_27 : decode cX6_readSpan 27 = .ok (.goto 10, 3) := by decide +kernel
theorem dX6_readSpan_30 : decode cX6_readSpan 30 = .ok (.aload_n 0, 1) := by decide +kernel
theorem dX6_readSpan_31 : decode cX6_readSpan 31 = .ok (.iconst 0, 1) := by decide +kernel
theorem dX6_readSpan_32 : decode cX6_readSpan 32 = .ok (.bipush 48, 2) := by decide +kernel
theorem dX6_readSpan_34 : decode cX6_readSpan 34 = .ok (.invokevirtual 83, 3) := by decide +kernel
theorem dX6_readSpan_37 : decode cX6_readSpan 37 = .ok (.istore_n 3, 1) := by decide +kernel
theorem dX6_readSpan_38 : decode cX6_readSpan 38 = .ok (.iload_n 3, 1) := by decide +kernel
theorem dX6_readSpan_39 : decode cX6_readSpan 39 = .ok (.iconst (-1), 1) := by decide +kernel
theorem dX6_readSpan_40 : decode cX6_readSpan 40 = .ok (.if_icmp .ne 7, 3) := by decide +kernel
theorem dX6_readSpan_43 : decode cX6_readSpan 43 = .ok (.iconst (-1), 1) := by decide +kernel
theorem dX6_readSpan_44 : decode cX6_readSpan 44 = .ok (.goto 19, 3) := by decide +kernel
theorem dX6_readSpan_47 : decode cX6_readSpan 47 = .ok (.aload_n 0, 1) := by decide +kernel
theorem dX6_readSpan_48 : decode cX6_readSpan 48 = .ok (.iload_n 3, 1) := by decide +kernel
theorem dX6_readSpan_49 : decode cX6_readSpan 49 = .ok (.iload_n 3, 1) := by decide +kernel
theorem dX6_readSpan_50 : decode cX6_readSpan 50 = .ok (.aload_n 0, 1) := by decide +kernel
theorem dX6_readSpan_51 : decode cX6_readSpan 51 = .ok (.getfield 12, 3) := by decide +kernel
theorem dX6_readSpan_54 : decode cX6_readSpan 54 = .ok (.getfield 117, 3) := by decide +kernel
theorem dX6_readSpan_57 : decode cX6_readSpan 57 = .ok (.iadd, 1) := by decide +kernel
theorem dX6_readSpan_58 : decode cX6_readSpan 58 = .ok (.iconst 1, 1) := by decide +kernel
theorem dX6_readSpan_59 : decode cX6_readSpan 59 = .ok (.isub, 1) := by decide +kernel
theorem dX6_readSpan_60 : decode cX6_readSpan 60 = .ok (.invokevirtual 83, 3) := by decide +kernel
theorem dX6_readSpan_63 : decode cX6_readSpan 63 = .ok (.istore 4, 2) := by decide +kernel
theorem dX6_readSpan_65 : decode cX6_readSpan 65 = .ok (.iload 4, 2) := by decide +kernel
theorem dX6_readSpan_67 : decode cX6_readSpan 67 = .ok (.iconst (-1), 1) := by decide +kernel
theorem dX6_readSpan_68 : decode cX6_readSpan 68 = .ok (.if_icmp .ne 5, 3) := by decide +kernel
theorem dX6_readSpan_71 : decode cX6_readSpan 71 = .ok (.iconst 0, 1) := by decide +kernel
theorem dX6_readSpan_72 : decode cX6_readSpan 72 = .ok (.ireturn, 1) := by decide +kernel
theorem dX6_readSpan_73 : decode cX6_readSpan 73 = .ok (.iconst 1, 1) := by decide +kernel
theorem dX6_readSpan_74 : decode cX6_readSpan 74 = .ok (.istore 5, 2) := by decide +kernel
theorem dX6_readSpan_76 : decode cX6_readSpan 76 = .ok (.aload_n 0, 1) := by decide +kernel
theorem dX6_readSpan_77 : decode cX6_readSpan 77 = .ok (.invokevirtual 64, 3) := by decide +kernel
theorem dX6_readSpan_80 : decode cX6_readSpan 80 = .ok (.aload_n 0, 1) := by decide +kernel
theorem dX6_readSpan_81 : decode cX6_readSpan 81 = .ok (.getfield 39, 3) := by decide +kernel
theorem dX6_readSpan_84 : decode cX6_readSpan 84 = .ok (.iconst 3, 1) := by decide +kernel
theorem dX6_readSpan_85 : decode cX6_readSpan 85 = .ok (.if_icmp .ne 28, 3) := by decide +kernel
theorem dX6_readSpan_88 : decode cX6_readSpan 88 = .ok (.aload_n 0, 1) := by decide +kernel
theorem dX6_readSpan_89 : decode cX6_readSpan 89 = .ok (.getfield 48, 3) := by decide +kernel
theorem dX6_readSpan_92 : decode cX6_readSpan 92 = .ok (.bipush 20, 2) := by decide +kernel
theorem dX6_readSpan_94 : decode cX6_readSpan 94 = .ok (.if_icmp .le 9, 3) := by decide +kernel
theorem dX6_readSpan_97 : decode cX6_readSpan 97 = .ok (.aload_n 0, 1) := by decide +kernel
theorem dX6_readSpan_98 : decode cX6_readSpan 98 = .ok (.iconst 3, 1) := by decide +kernel
theorem dX6_readSpan_99 : decode cX6_readSpan 99 = .ok (.invokevirtual 97, 3) := by decide +kernel
theorem dX6_readSpan_102 : decode cX6_readSpan 102 = .ok (.ireturn, 1) := by decide +kernel
theorem dX6_readSpan_103 : decode cX6_readSpan 103 = .ok (.aload_n 0, 1) := by decide +kernel
theorem dX6_readSpan_104 : decode cX6_readSpan 104 = .ok (.getfield 48, 3) := by decide +kernel
theorem dX6_readSpan_107 : decode cX6_readSpan 107 = .ok (.istore 5, 2) := by decide +kernel
theorem dX6_readSpan_109 : decode cX6_readSpan 109 = .ok (.aload_n 0, 1) := by decide +kernel
theorem dX6_readSpan_110 : decode cX6_readSpan 110 = .ok (.invokevirtual 64, 3) := by decide +kernel
theorem dX6_readSpan_113 : decode cX6_readSpan 113 = .ok (.aload_n 0, 1) := by decide +kernel
theorem dX6_readSpan_114 : decode cX6_readSpan 114 = .ok (.getfield 39, 3) := by decide +kernel
theorem dX6_readSpan_117 : decode cX6_readSpan 117 = .ok (.iconst 4, 1) := by decide +kernel
theorem dX6_readSpan_118 : decode cX6_readSpan 118 = .ok (.if_icmp .eq 8, 3) := by decide +kernel
theorem dX6_readSpan_121 : decode cX6_readSpan 121 = .ok (.aload_n 0, 1) := by decide +kernel
theorem dX6_readSpan_122 : decode cX6_readSpan 122 = .ok (.invokevirtual 80, 3) := by decide +kernel
theorem dX6_readSpan_125 : decode cX6_readSpan 125 = .ok (.ireturn, 1) := by decide +kernel
theorem dX6_readSpan_126 : decode cX6_readSpan 126 = .ok (.aload_n 0, 1) := by decide +kernel
theorem dX6_readSpan_127 : decode cX6_readSpan 127 = .ok (.getfield 12, 3) := by decide +kernel
theorem dX6_readSpan_130 : decode cX6_readSpan 130 = .ok (.iload_n 1, 1) := by decide +kernel
theorem dX6_readSpan_131 : decode cX6_readSpan 131 = .ok (.iload_n 2, 1) := by decide +kernel
theorem dX6_readSpan_132 : decode cX6_readSpan 132 = .ok (.iload_n 3, 1) := by decide +kernel
theorem dX6_readSpan_133 : decode cX6_readSpan 133 = .ok (.iload 4, 2) := by decide +kernel
theorem dX6_readSpan_135 : decode cX6_readSpan 135 = .ok (.iload 5, 2) := by decide +kernel
theorem dX6_readSpan_137 : decode cX6_readSpan 137 = .ok (.invokevirtual 126, 3) := by decide +kernel
theorem dX6_readSpan_140 : decode cX6_readSpan 140 = .ok (.iconst 1, 1) := by decide +kernel
theorem dX6_readSpan_141 : decode cX6_readSpan 141 = .ok (.ireturn, 1) := by decide +kernel
theorem dX6_readKnownEvent_0 : decode cX6_readKnownEvent 0 = .ok (.aload_n 0, 1) := by decide +kernel
theorem dX6_readKnownEvent_1 : decode cX6_readKnownEvent 1 = .ok (.invokevirtual 64, 3) := by decide +kernel
theorem dX6_readKnownEvent_4 : decode cX6_readKnownEvent 4 = .ok (.aload_n 0, 1) := by decide +kernel
theorem dX6_readKnownEvent_5 : decode cX6_readKnownEvent 5 = .ok (.getfield 39, 3) := by decide +kernel
theorem dX6_readKnownEvent_8 : decode cX6_readKnownEvent 8 = .ok (.iconst 2, 1) := by decide +kernel
theorem dX6_readKnownEvent_9 : decode cX6_readKnownEvent 9 = .ok (.if_icmp .eq 10, 3) := by decide +kernel
theorem dX6_readKnownEvent_12 : decode cX6_readKnownEvent 12 = .ok (.aload_n 0, 1) := by decide +kernel
theorem dX6_readKnownEvent_13 : decode cX6_readKnownEvent 13 = .ok (.invokevirtual 80, 3) := by decide +kernel
theorem dX6_readKnownEvent_16 : decode cX6_readKnownEvent 16 = .ok (.pop, 1) := by decide +kernel
theorem dX6_readKnownEvent_17 : decode cX6_readKnownEvent 17 = .ok (.iconst (-1), 1) := by decide +kernel
theorem dX6_readKnownEvent_18 : decode cX6_readKnownEvent 18 = .ok (.ireturn, 1) := by decide +kernel
theorem dX6_readKnownEvent_19 : decode cX6_readKnownEvent 19 = .ok (.aload_n 0, 1) := by decide +kernel
theorem dX6_readKnownEvent_20 : decode cX6_readKnownEvent 20 = .ok (.getfield 21, 3) := by decide +kernel
theorem dX6_readKnownEvent_23 : decode cX6_readKnownEvent 23 = .ok (.aload_n 0, 1) := by decide +kernel
theorem dX6_readKnownEvent_24 : decode cX6_readKnownEvent 24 = .ok (.getfield 32, 3) := by decide +kernel
theorem dX6_readKnownEvent_27 : decode cX6_readKnownEvent 27 = .ok (.aload_n 0, 1) := by decide +kernel
theorem dX6_readKnownEvent_28 : decode cX6_readKnownEvent 28 = .ok (.getfield 42, 3) := by decide +kernel
theorem dX6_readKnownEvent_31 : decode cX6_readKnownEvent 31 = .ok (.aload_n 0, 1) := by decide +kernel
theorem dX6_readKnownEvent_32 : decode cX6_readKnownEvent 32 = .ok (.getfield 45, 3) := by decide +kernel
theorem dX6_readKnownEvent_35 : decode cX6_readKnownEvent 35 = .ok (.aload_n 0, 1) := by decide +kernel
theorem dX6_readKnownEvent_36 : decode cX6_readKnownEvent 36 = .ok (.getfield 42, 3) := by decide +kernel
theorem dX6_readKnownEvent_39 : decode cX6_readKnownEvent 39 = .ok (.isub, 1) := by decide +kernel
theorem dX6_readKnownEvent_40 : decode cX6_readKnownEvent 40 = .ok (.invokevirtual 109, 3) := by decide +kernel
theorem dX6_readKnownEvent_43 : decode cX6_readKnownEvent 43 = .ok (.istore_n 2, 1) := by decide +kernel
theorem dX6_readKnownEvent_44 : decode cX6_readKnownEvent 44 = .ok (.iload_n 2, 1) := by decide +kernel
theorem dX6_readKnownEvent_45 : decode cX6_readKnownEvent 45 = .ok (.iconst (-1), 1) := by decide +kernel
theorem dX6_readKnownEvent_46 : decode cX6_readKnownEvent 46 = .ok (.if_icmp .eq 8, 3) := by decide +kernel
theorem dX6_readKnownEvent_49 : decode cX6_readKnownEvent 49 = .ok (.iload_n 2, 1) := by decide +kernel
theorem dX6_readKnownEvent_50 : decode cX6_readKnownEvent 50 = .ok (.iload_n 1, 1) := by decide +kernel
theorem dX6_readKnownEvent_51 : decode cX6_readKnownEvent 51 = .ok (.if_icmp .ne 11, 3) := by decide +kernel
theorem dX6_readKnownEvent_54 : decode cX6_readKnownEvent 54 = .ok (.aload_n 0, 1) := by decide +kernel
theorem dX6_readKnownEvent_55 : decode cX6_readKnownEvent 55 = .ok (.iconst 4, 1) := by decide +kernel
theorem dX6_readKnownEvent_56 : decode cX6_readKnownEvent 56 = .ok (.invokevirtual 97, 3) := by decide +kernel
theorem dX6_readKnownEvent_59 : decode cX6_readKnownEvent 59 = .ok (.pop, 1) := by decide +kernel
theorem dX6_readKnownEvent_60 : decode cX6_readKnownEvent 60 = .ok (.iconst (-1), 1) := by decide +kernel
theorem dX6_readKnownEvent_61 : decode cX6_readKnownEvent 61 = .ok (.ireturn, 1) := by decide +kernel
theorem dX6_readKnownEvent_62 : decode cX6_readKnownEvent 62 = .ok (.iload_n 2, 1) := by decide +kernel
theorem dX6_readKnownEvent_63 : decode cX6_readKnownEvent 63 = .ok (.ireturn, 1) := by decide +kernel
theorem dX6_readNumber_0 : decode cX6_readNumber 0 = .ok (.aload_n 0, 1) := by decide +kernel
theorem dX6_readNumber_1 : decode cX6_readNumber 1 = .ok (.invokevirtual 64, 3) := by decide +kernel
theorem dX6_readNumber_4 : decode cX6_readNumber 4 = .ok (.aload_n 0, 1) := by decide +kernel
theorem dX6_readNumber_5 : decode cX6_readNumber 5 = .ok (.getfield 39, 3) := by decide +kernel
theorem dX6_readNumber_8 : decode cX6_readNumber 8 = .ok (.iconst 3, 1) := by decide +kernel
theorem dX6_readNumber_9 : decode cX6_readNumber 9 = .ok (.if_icmp .eq 10, 3) := by decide +kernel
theorem dX6_readNumber_12 : decode cX6_readNumber 12 = .ok (.aload_n 0, 1) := by decide +kernel
theorem dX6_readNumber_13 : decode cX6_readNumber 13 = .ok (.invokevirtual 80, 3) := by decide +kernel
theorem dX6_readNumber_16 : decode cX6_readNumber 16 = .ok (.pop, 1) := by decide +kernel
theorem dX6_readNumber_17 : decode cX6_readNumber 17 = .ok (.iconst (-1), 1) := by decide +kernel
theorem dX6_readNumber_18 : decode cX6_readNumber 18 = .ok (.ireturn, 1) := by decide +kernel
theorem dX6_readNumber_19 : decode cX6_readNumber 19 = .ok (.aload_n 0, 1) := by decide +kernel
theorem dX6_readNumber_20 : decode cX6_readNumber 20 = .ok (.getfield 48, 3) := by decide +kernel
theorem dX6_readNumber_23 : decode cX6_readNumber 23 = .ok (.iload_n 1, 1) := by decide +kernel
theorem dX6_readNumber_24 : decode cX6_readNumber 24 = .ok (.if_icmp .lt 11, 3) := by decide +kernel
theorem dX6_readNumber_27 : decode cX6_readNumber 27 = .ok (.aload_n 0, 1) := by decide +kernel
theorem dX6_readNumber_28 : decode cX6_readNumber 28 = .ok (.getfield 48, 3) := by decide +kernel
theorem dX6_readNumber_31 : decode cX6_readNumber 31 = .ok (.iload_n 2, 1) := by decide +kernel
theorem dX6_readNumber_32 : decode cX6_readNumber 32 = .ok (.if_icmp .le 11, 3) := by decide +kernel
theorem dX6_readNumber_35 : decode cX6_readNumber 35 = .ok (.aload_n 0, 1) := by decide +kernel
theorem dX6_readNumber_36 : decode cX6_readNumber 36 = .ok (.iconst 3, 1) := by decide +kernel
theorem dX6_readNumber_37 : decode cX6_readNumber 37 = .ok (.invokevirtual 97, 3) := by decide +kernel
theorem dX6_readNumber_40 : decode cX6_readNumber 40 = .ok (.pop, 1) := by decide +kernel
theorem dX6_readNumber_41 : decode cX6_readNumber 41 = .ok (.iconst (-1), 1) := by decide +kernel
theorem dX6_readNumber_42 : decode cX6_readNumber 42 = .ok (.ireturn, 1) := by decide +kernel
theorem dX6_readNumber_43 : decode cX6_readNumber 43 = .ok (.aload_n 0, 1) := by decide +kernel
theorem dX6_readNumber_44 : decode cX6_readNumber 44 = .ok (.getfield 48, 3) := by decide +kernel
theorem dX6_readNumber_47 : decode cX6_readNumber 47 = .ok (.ireturn, 1) := by decide +kernel
theorem dX6_readSemicolon_0 : decode cX6_readSemicolon 0 = .ok (.aload_n 0, 1) := by decide +kernel
theorem dX6_readSemicolon_1 : decode cX6_readSemicolon 1 = .ok (.invokevirtual 64, 3) := by decide +kernel
theorem dX6_readSemicolon_4 : decode cX6_readSemicolon 4 = .ok (.aload_n 0, 1) := by decide +kernel
theorem dX6_readSemicolon_5 : decode cX6_readSemicolon 5 = .ok (.getfield 39, 3) := by decide +kernel
theorem dX6_readSemicolon_8 : decode cX6_readSemicolon 8 = .ok (.iconst 4, 1) := by decide +kernel
theorem dX6_readSemicolon_9 : decode cX6_readSemicolon 9 = .ok (.if_icmp .eq 10, 3) := by decide +kernel
theorem dX6_readSemicolon_12 : decode cX6_readSemicolon 12 = .ok (.aload_n 0, 1) := by decide +kernel
theorem dX6_readSemicolon_13 : decode cX6_readSemicolon 13 = .ok (.invokevirtual 80, 3) := by decide +kernel
theorem dX6_readSemicolon_16 : decode cX6_readSemicolon 16 = .ok (.ifCond .eq 7, 3) := by decide +kernel
theorem dX6_readSemicolon_19 : decode cX6_readSemicolon 19 = .ok (.iconst 1, 1) := by decide +kernel
theorem dX6_readSemicolon_20 : decode cX6_readSemicolon 20 = .ok (.goto 4, 3) := by decide +kernel
theorem dX6_readSemicolon_23 : decode cX6_readSemicolon 23 = .ok (.iconst 0, 1) := by decide +kernel
theorem dX6_readSemicolon_24 : decode cX6_readSemicolon 24 = .ok (.ireturn, 1) := by decide +kernel
theorem dX6_unexpected_0 : decode cX6_unexpected 0 = .ok (.aload_n 0, 1) := by decide +kernel
theorem dX6_unexpected_1 : decode cX6_unexpected 1 = .ok (.aload_n 0, 1) := by decide +kernel
theorem dX6_unexpected_2 : decode cX6_unexpected 2 = .ok (.getfield 39, 3) := by decide +kernel
theorem dX6_unexpected_5 : decode cX6_unexpected 5 = .ok (.iconst 1, 1) := by decide +kernel
theorem dX6_unexpected_6 : decode cX6_unexpected 6 = .ok (.if_icmp .ne 7, 3) := by decide +kernel
theorem dX6_unexpected_9 : decode cX6_unexpected 9 = .ok (.iconst 1, 1) := by decide +kernel
theorem dX6_unexpected_10 : decode cX6_unexpected 10 = .ok (.goto 4, 3) := by decide +kernel
theorem dX6_unexpected_13 : decode cX6_unexpected 13 = .ok (.iconst 2, 1) := by decide +kernel
theorem dX6_unexpected_14 : decode cX6_unexpected 14 = .ok (.invokevirtual 97, 3) := by decide +kernel
theorem dX6_unexpected_17 : decode cX6_unexpected 17 = .ok (.ireturn, 1) := by decide +kernel
theorem dX6_fail_0 : decode cX6_fail 0 = .ok (.aload_n 0, 1) := by decide +kernel
theorem dX6_fail_1 : decode cX6_fail 1 = .ok (.iload_n 1, 1) := by decide +kernel
theorem dX6_fail_2 : decode cX6_fail 2 = .ok (.putfield 25, 3) := by decide +kernel
theorem dX6_fail_5 : decode cX6_fail 5 = .ok (.aload_n 0, 1) := by decide +kernel
theorem dX6_fail_6 : decode cX6_fail 6 = .ok (.aload_n 0, 1) := by decide +kernel
theorem dX6_fail_7 : decode cX6_fail 7 = .ok (.getfield 42, 3) := by decide +kernel
theorem dX6_fail_10 : decode cX6_fail 10 = .ok (.putfield 29, 3) := by decide +kernel
theorem dX6_fail_13 : decode cX6_fail 13 = .ok (.iconst 0, 1) := by decide +kernel
theorem dX6_fail_14 : decode cX6_fail 14 = .ok (.ireturn, 1) := by decide +kernel
theorem dX6_isWord_0 : decode cX6_isWord 0 = .ok (.aload_n 1, 1) := by decide +kernel
theorem dX6_isWord_1 : decode cX6_isWord 1 = .ok (.invokevirtual 130, 3) := by decide +kernel
theorem dX6_isWord_4 : decode cX6_isWord 4 = .ok (.istore_n 2, 1) := by decide +kernel
theorem dX6_isWord_5 : decode cX6_isWord 5 = .ok (.aload_n 0, 1) := by decide +kernel
theorem dX6_isWord_6 : decode cX6_isWord 6 = .ok (.getfield 39, 3) := by decide +kernel
theorem dX6_isWord_9 : decode cX6_isWord 9 = .ok (.iconst 2, 1) := by decide +kernel
theorem dX6_isWord_10 : decode cX6_isWord 10 = .ok (.if_icmp .ne 16, 3) := by decide +kernel
theorem dX6_isWord_13 : decode cX6_isWord 13 = .ok (.aload_n 0, 1) := by decide +kernel
theorem dX6_isWord_14 : decode cX6_isWord 14 = .ok (.getfield 45, 3) := by decide +kernel
theorem dX6_isWord_17 : decode cX6_isWord 17 = .ok (.aload_n 0, 1) := by decide +kernel
theorem dX6_isWord_18 : decode cX6_isWord 18 = .ok (.getfield 42, 3) := by decide +kernel
theorem dX6_isWord_21 : decode cX6_isWord 21 = .ok (.isub, 1) := by decide +kernel
theorem dX6_isWord_22 : decode cX6_isWord 22 = .ok (.iload_n 2, 1) := by decide +kernel
theorem dX6_isWord_23 : decode cX6_isWord 23 = .ok (.if_icmp .eq 5, 3) := by decide +kernel
theorem dX6_isWord_26 : decode cX6_isWord 26 = .ok (.iconst 0, 1) := by decide +kernel
theorem dX6_isWord_27 : decode cX6_isWord 27 = .ok (.ireturn, 1) := by decide +kernel
theorem dX6_isWord_28 : decode cX6_isWord 28 = .ok (.iconst 0, 1) := by decide +kernel
theorem dX6_isWord_29 : decode cX6_isWord 29 = .ok (.istore_n 3, 1) := by decide +kernel
theorem dX6_isWord_30 : decode cX6_isWord 30 = .ok (.iload_n 3, 1) := by decide +kernel
theorem dX6_isWord_31 : decode cX6_isWord 31 = .ok (.iload_n 2, 1) := by decide +kernel
theorem dX6_isWord_32 : decode cX6_isWord 32 = .ok (.if_icmp .ge 30, 3) := by decide +kernel
theorem dX6_isWord_35 : decode cX6_isWord 35 = .ok (.aload_n 0, 1) := by decide +kernel
theorem dX6_isWord_36 : decode cX6_isWord 36 = .ok (.getfield 32, 3) := by decide +kernel
theorem dX6_isWord_39 : decode cX6_isWord 39 = .ok (.aload_n 0, 1) := by decide +kernel
theorem dX6_isWord_40 : decode cX6_isWord 40 = .ok (.getfield 42, 3) := by decide +kernel
theorem dX6_isWord_43 : decode cX6_isWord 43 = .ok (.iload_n 3, 1) := by decide +kernel
theorem dX6_isWord_44 : decode cX6_isWord 44 = .ok (.iadd, 1) := by decide +kernel
theorem dX6_isWord_45 : decode cX6_isWord 45 = .ok (.baload, 1) := by decide +kernel
theorem dX6_isWord_46 : decode cX6_isWord 46 = .ok (.aload_n 1, 1) := by decide +kernel
theorem dX6_isWord_47 : decode cX6_isWord 47 = .ok (.iload_n 3, 1) := by decide +kernel
theorem dX6_isWord_48 : decode cX6_isWord 48 = .ok (.invokevirtual 136, 3) := by decide +kernel
theorem dX6_isWord_51 : decode cX6_isWord 51 = .ok (.if_icmp .eq 5, 3) := by decide +kernel
theorem dX6_isWord_54 : decode cX6_isWord 54 = .ok (.iconst 0, 1) := by decide +kernel
theorem dX6_isWord_55 : decode cX6_isWord 55 = .ok (.ireturn, 1) := by decide +kernel
theorem dX6_isWord_56 : decode cX6_isWord 56 = .ok (.iinc 3 1, 3) := by decide +kernel
theorem dX6_isWord_59 : decode cX6_isWord 59 = .ok (.goto (-29), 3) := by decide +kernel
theorem dX6_isWord_62 : decode cX6_isWord 62 = .ok (.iconst 1, 1) := by decide +kernel
theorem dX6_isWord_63 : decode cX6_isWord 63 = .ok (.ireturn, 1) := by decide +kernel
theorem dX6_nextToken_0 : decode cX6_nextToken 0 = .ok (.aload_n 0, 1) := by decide +kernel
theorem dX6_nextToken_1 : decode cX6_nextToken 1 = .ok (.aload_n 0, 1) := by decide +kernel
theorem dX6_nextToken_2 : decode cX6_nextToken 2 = .ok (.getfield 45, 3) := by decide +kernel
theorem dX6_nextToken_5 : decode cX6_nextToken 5 = .ok (.putfield 42, 3) := by decide +kernel
theorem dX6_nextToken_8 : decode cX6_nextToken 8 = .ok (.aload_n 0, 1) := by decide +kernel
theorem dX6_nextToken_9 : decode cX6_nextToken 9 = .ok (.getfield 42, 3) := by decide +kernel
theorem dX6_nextToken_12 : decode cX6_nextToken 12 = .ok (.aload_n 0, 1) := by decide +kernel
theorem dX6_nextToken_13 : decode cX6_nextToken 13 = .ok (.getfield 36, 3) := by decide +kernel
theorem dX6_nextToken_16 : decode cX6_nextToken 16 = .ok (.if_icmp .ge 44, 3) := by decide +kernel
theorem dX6_nextToken_19 : decode cX6_nextToken 19 = .ok (.aload_n 0, 1) := by decide +kernel
theorem dX6_nextToken_20 : decode cX6_nextToken 20 = .ok (.getfield 32, 3) := by decide +kernel
theorem dX6_nextToken_23 : decode cX6_nextToken 23 = .ok (.aload_n 0, 1) := by decide +kernel
theorem dX6_nextToken_24 : decode cX6_nextToken 24 = .ok (.getfield 42, 3) := by decide +kernel
theorem dX6_nextToken_27 : decode cX6_nextToken 27 = .ok (.baload, 1) := by decide +kernel
theorem dX6_nextToken_28 : decode cX6_nextToken 28 = .ok (.bipush 32, 2) := by decide +kernel
theorem dX6_nextToken_30 : decode cX6_nextToken 30 = .ok (.if_icmp .eq 17, 3) := by decide +kernel
theorem dX6_nextToken_33 : decode cX6_nextToken 33 = .ok (.aload_n 0, 1) := by decide +kernel
theorem dX6_nextToken_34 : decode cX6_nextToken 34 = .ok (.getfield 32, 3) := by decide +kernel
theorem dX6_nextToken_37 : decode cX6_nextToken 37 = .ok (.aload_n 0, 1) := by decide +kernel
theorem dX6_nextToken_38 : decode cX6_nextToken 38 = .ok (.getfield 42, 3) := by decide +kernel
theorem dX6_nextToken_41 : decode cX6_nextToken 41 = .ok (.baload, 1) := by decide +kernel
theorem dX6_nextToken_42 : decode cX6_nextToken 42 = .ok (.bipush 10, 2) := by decide +kernel
theorem dX6_nextToken_44 : decode cX6_nextToken 44 = .ok (.if_icmp .ne 16, 3) := by decide +kernel
theorem dX6_nextToken_47 : decode cX6_nextToken 47 = .ok (.aload_n 0, 1) := by decide +kernel
theorem dX6_nextToken_48 : decode cX6_nextToken 48 = .ok (.dup, 1) := by decide +kernel
theorem dX6_nextToken_49 : decode cX6_nextToken 49 = .ok (.getfield 42, 3) := by decide +kernel
theorem dX6_nextToken_52 : decode cX6_nextToken 52 = .ok (.iconst 1, 1) := by decide +kernel
theorem dX6_nextToken_53 : decode cX6_nextToken 53 = .ok (.iadd, 1) := by decide +kernel
theorem dX6_nextToken_54 : decode cX6_nextToken 54 = .ok (.putfield 42, 3) := by decide +kernel
theorem dX6_nextToken_57 : decode cX6_nextToken 57 = .ok (.goto (-49), 3) := by decide +kernel
theorem dX6_nextToken_60 : decode cX6_nextToken 60 = .ok (.aload_n 0, 1) := by decide +kernel
theorem dX6_nextToken_61 : decode cX6_nextToken 61 = .ok (.getfield 42, 3) := by decide +kernel
theorem dX6_nextToken_64 : decode cX6_nextToken 64 = .ok (.aload_n 0, 1) := by decide +kernel
theorem dX6_nextToken_65 : decode cX6_nextToken 65 = .ok (.getfield 36, 3) := by decide +kernel
theorem dX6_nextToken_68 : decode cX6_nextToken 68 = .ok (.if_icmp .lt 17, 3) := by decide +kernel
theorem dX6_nextToken_71 : decode cX6_nextToken 71 = .ok (.aload_n 0, 1) := by decide +kernel
theorem dX6_nextToken_72 : decode cX6_nextToken 72 = .ok (.aload_n 0, 1) := by decide +kernel
theorem dX6_nextToken_73 : decode cX6_nextToken 73 = .ok (.getfield 42, 3) := by decide +kernel
theorem dX6_nextToken_76 : decode cX6_nextToken 76 = .ok (.putfield 45, 3) := by decide +kernel
theorem dX6_nextToken_79 : decode cX6_nextToken 79 = .ok (.aload_n 0, 1) := by decide +kernel
theorem dX6_nextToken_80 : decode cX6_nextToken 80 = .ok (.iconst 0, 1) := by decide +kernel
theorem dX6_nextToken_81 : decode cX6_nextToken 81 = .ok (.putfield 39, 3) := by decide +kernel
theorem dX6_nextToken_84 : decode cX6_nextToken 84 = .ok (.return_, 1) := by decide +kernel
theorem dX6_nextToken_85 : decode cX6_nextToken 85 = .ok (.aload_n 0, 1) := by decide +kernel
theorem dX6_nextToken_86 : decode cX6_nextToken 86 = .ok (.bipush 97, 2) := by decide +kernel
theorem dX6_nextToken_88 : decode cX6_nextToken 88 = .ok (.bipush 122, 2) := by decide +kernel
theorem dX6_nextToken_90 : decode cX6_nextToken 90 = .ok (.invokevirtual 140, 3) := by decide +kernel
theorem dX6_nextToken_93 : decode cX6_nextToken 93 = .ok (.istore_n 1, 1) := by decide +kernel
theorem dX6_nextToken_94 : decode cX6_nextToken 94 = .ok (.aload_n 0, 1) := by decide +kernel
theorem dX6_nextToken_95 : decode cX6_nextToken 95 = .ok (.bipush 48, 2) := by decide +kernel
theorem dX6_nextToken_97 : decode cX6_nextToken 97 = .ok (.bipush 57, 2) := by decide +kernel
theorem dX6_nextToken_99 : decode cX6_nextToken 99 = .ok (.invokevirtual 140, 3) := by decide +kernel
theorem dX6_nextToken_102 : decode cX6_nextToken 102 = .ok (.istore_n 2, 1) := by decide +kernel
theorem dX6_nextToken_103 : decode cX6_nextToken 103 = .ok (.iload_n 1, 1) := by decide +kernel
theorem dX6_nextToken_104 : decode cX6_nextToken 104 = .ok (.aload_n 0, 1) := by decide +kernel
theorem dX6_nextToken_105 : decode cX6_nextToken 105 = .ok (.getfield 42, 3) := by decide +kernel
theorem dX6_nextToken_108 : decode cX6_nextToken 108 = .ok (.if_icmp .le 31, 3) := by decide +kernel
theorem dX6_nextToken_111 : decode cX6_nextToken 111 = .ok (.aload_n 0, 1) := by decide +kernel
theorem dX6_nextToken_112 : decode cX6_nextToken 112 = .ok (.iload_n 1, 1) := by decide +kernel
theorem dX6_nextToken_113 : decode cX6_nextToken 113 = .ok (.putfield 45, 3) := by decide +kernel
theorem dX6_nextToken_116 : decode cX6_nextToken 116 = .ok (.aload_n 0, 1) := by decide +kernel
theorem dX6_nextToken_117 : decode cX6_nextToken 117 = .ok (.iload_n 1, 1) := by decide +kernel
theorem dX6_nextToken_118 : decode cX6_nextToken 118 = .ok (.aload_n 0, 1) := by decide +kernel
theorem dX6_nextToken_119 : decode cX6_nextToken 119 = .ok (.getfield 42, 3) := by decide +kernel
theorem dX6_nextToken_122 : decode cX6_nextToken 122 = .ok (.isub, 1) := by decide +kernel
theorem dX6_nextToken_123 : decode cX6_nextToken 123 = .ok (.bipush 8, 2) := by decide +kernel
theorem dX6_nextToken_125 : decode cX6_nextToken 125 = .ok (.if_icmp .gt 7, 3) := by decide +kernel
theorem dX6_nextToken_128 : decode cX6_nextToken 128 = .ok (.iconst 2, 1) := by decide +kernel
theorem dX6_nextToken_129 : decode cX6_nextToken 129 = .ok (.goto 4, 3) := by decide +kernel
theorem dX6_nextToken_132 : decode cX6_nextToken 132 = .ok (.iconst 1, 1) := by decide +kernel
theorem dX6_nextToken_133 : decode cX6_nextToken 133 = .ok (.putfield 39, 3) := by decide +kernel
theorem dX6_nextToken_136 : decode cX6_nextToken 136 = .ok (.goto 91, 3) := by decide +kernel
theorem dX6_nextToken_139 : decode cX6_nextToken 139 = .ok (.iload_n 2, 1) := by decide +kernel
theorem dX6_nextToken_140 : decode cX6_nextToken 140 = .ok (.aload_n 0, 1) := by decide +kernel
theorem dX6_nextToken_141 : decode cX6_nextToken 141 = .ok (.getfield 42, 3) := by decide +kernel
theorem dX6_nextToken_144 : decode cX6_nextToken 144 = .ok (.if_icmp .le 50, 3) := by decide +kernel
theorem dX6_nextToken_147 : decode cX6_nextToken 147 = .ok (.aload_n 0, 1) := by decide +kernel
theorem dX6_nextToken_148 : decode cX6_nextToken 148 = .ok (.iload_n 2, 1) := by decide +kernel
theorem dX6_nextToken_149 : decode cX6_nextToken 149 = .ok (.putfield 45, 3) := by decide +kernel
theorem dX6_nextToken_152 : decode cX6_nextToken 152 = .ok (.aload_n 0, 1) := by decide +kernel
theorem dX6_nextToken_153 : decode cX6_nextToken 153 = .ok (.iload_n 2, 1) := by decide +kernel
theorem dX6_nextToken_154 : decode cX6_nextToken 154 = .ok (.aload_n 0, 1) := by decide +kernel
theorem dX6_nextToken_155 : decode cX6_nextToken 155 = .ok (.getfield 42, 3) := by decide +kernel
theorem dX6_nextToken_158 : decode cX6_nextToken 158 = .ok (.isub, 1) := by decide +kernel
theorem dX6_nextToken_159 : decode cX6_nextToken 159 = .ok (.iconst 2, 1) := by decide +kernel
theorem dX6_nextToken_160 : decode cX6_nextToken 160 = .ok (.if_icmp .gt 7, 3) := by decide +kernel
theorem dX6_nextToken_163 : decode cX6_nextToken 163 = .ok (.iconst 3, 1) := by decide +kernel
theorem dX6_nextToken_164 : decode cX6_nextToken 164 = .ok (.goto 4, 3) := by decide +kernel
theorem dX6_nextToken_167 : decode cX6_nextToken 167 = .ok (.iconst 1, 1) := by decide +kernel
theorem dX6_nextToken_168 : decode cX6_nextToken 168 = .ok (.putfield 39, 3) := by decide +kernel
theorem dX6_nextToken_171 : decode cX6_nextToken 171 = .ok (.aload_n 0, 1) := by decide +kernel
theorem dX6_nextToken_172 : decode cX6_nextToken 172 = .ok (.aload_n 0, 1) := by decide +kernel
theorem dX6_nextToken_173 : decode cX6_nextToken 173 = .ok (.getfield 39, 3) := by decide +kernel
theorem dX6_nextToken_176 : decode cX6_nextToken 176 = .ok (.iconst 3, 1) := by decide +kernel
theorem dX6_nextToken_177 : decode cX6_nextToken 177 = .ok (.if_icmp .ne 10, 3) := by decide +kernel
theorem dX6_nextToken_180 : decode cX6_nextToken 180 = .ok (.aload_n 0, 1) := by decide +kernel
theorem dX6_nextToken_181 : decode cX6_nextToken 181 = .ok (.invokevirtual 143, 3) := by decide +kernel
theorem dX6_nextToken_184 : decode cX6_nextToken 184 = .ok (.goto 4, 3) := by decide +kernel
theorem dX6_nextToken_187 : decode cX6_nextToken 187 = .ok (.iconst 0, 1) := by decide +kernel
theorem dX6_nextToken_188 : decode cX6_nextToken 188 = .ok (.putfield 48, 3) := by decide +kernel
theorem dX6_nextToken_191 : decode cX6_nextToken 191 = .ok (.goto 36, 3) := by decide +kernel
theorem dX6_nextToken_194 : decode cX6_nextToken 194 = .ok (.aload_n 0, 1) := by decide +kernel
theorem dX6_nextToken_195 : decode cX6_nextToken 195 = .ok (.aload_n 0, 1) := by decide +kernel
theorem dX6_nextToken_196 : decode cX6_nextToken 196 = .ok (.getfield 42, 3) := by decide +kernel
theorem dX6_nextToken_199 : decode cX6_nextToken 199 = .ok (.iconst 1, 1) := by decide +kernel
theorem dX6_nextToken_200 : decode cX6_nextToken 200 = .ok (.iadd, 1) := by decide +kernel
theorem dX6_nextToken_201 : decode cX6_nextToken 201 = .ok (.putfield 45, 3) := by decide +kernel
theorem dX6_nextToken_204 : decode cX6_nextToken 204 = .ok (.aload_n 0, 1) := by decide +kernel
theorem dX6_nextToken_205 : decode cX6_nextToken 205 = .ok (.aload_n 0, 1) := by decide +kernel
theorem dX6_nextToken_206 : decode cX6_nextToken 206 = .ok (.getfield 32, 3) := by decide +kernel
theorem dX6_nextToken_209 : decode cX6_nextToken 209 = .ok (.aload_n 0, 1) := by decide +kernel
theorem dX6_nextToken_210 : decode cX6_nextToken 210 = .ok (.getfield 42, 3) := by decide +kernel
theorem dX6_nextToken_213 : decode cX6_nextToken 213 = .ok (.baload, 1) := by decide +kernel
theorem dX6_nextToken_214 : decode cX6_nextToken 214 = .ok (.bipush 59, 2) := by decide +kernel
theorem dX6_nextToken_216 : decode cX6_nextToken 216 = .ok (.if_icmp .ne 7, 3) := by decide +kernel
theorem dX6_nextToken_219 : decode cX6_nextToken 219 = .ok (.iconst 4, 1) := by decide +kernel
theorem dX6_nextToken_220 : decode cX6_nextToken 220 = .ok (.goto 4, 3) := by decide +kernel
theorem dX6_nextToken_223 : decode cX6_nextToken 223 = .ok (.iconst 1, 1) := by decide +kernel
theorem dX6_nextToken_224 : decode cX6_nextToken 224 = .ok (.putfield 39, 3) := by decide +kernel
theorem dX6_nextToken_227 : decode cX6_nextToken 227 = .ok (.return_, 1) := by decide +kernel
theorem dX6_endOfRun_0 : decode cX6_endOfRun 0 = .ok (.aload_n 0, 1) := by decide +kernel
theorem dX6_endOfRun_1 : decode cX6_endOfRun 1 = .ok (.getfield 42, 3) := by decide +kernel
theorem dX6_endOfRun_4 : decode cX6_endOfRun 4 = .ok (.istore_n 3, 1) := by decide +kernel
theorem dX6_endOfRun_5 : decode cX6_endOfRun 5 = .ok (.iload_n 3, 1) := by decide +kernel
theorem dX6_endOfRun_6 : decode cX6_endOfRun 6 = .ok (.aload_n 0, 1) := by decide +kernel
theorem dX6_endOfRun_7 : decode cX6_endOfRun 7 = .ok (.getfield 36, 3) := by decide +kernel
theorem dX6_endOfRun_10 : decode cX6_endOfRun 10 = .ok (.if_icmp .ge 29, 3) := by decide +kernel
theorem dX6_endOfRun_13 : decode cX6_endOfRun 13 = .ok (.aload_n 0, 1) := by decide +kernel
theorem dX6_endOfRun_14 : decode cX6_endOfRun 14 = .ok (.getfield 32, 3) := by decide +kernel
theorem dX6_endOfRun_17 : decode cX6_endOfRun 17 = .ok (.iload_n 3, 1) := by decide +kernel
theorem dX6_endOfRun_18 : decode cX6_endOfRun 18 = .ok (.baload, 1) := by decide +kernel
theorem dX6_endOfRun_19 : decode cX6_endOfRun 19 = .ok (.iload_n 1, 1) := by decide +kernel
theorem dX6_endOfRun_20 : decode cX6_endOfRun 20 = .ok (.if_icmp .lt 19, 3) := by decide +kernel
theorem dX6_endOfRun_23 : decode cX6_endOfRun 23 = .ok (.aload_n 0, 1) := by decide +kernel
theorem dX6_endOfRun_24 : decode cX6_endOfRun 24 = .ok (.getfield 32, 3) := by decide +kernel
theorem dX6_endOfRun_27 : decode cX6_endOfRun 27 = .ok (.iload_n 3, 1) := by decide +kernel
theorem dX6_endOfRun_28 : decode cX6_endOfRun 28 = .ok (.baload, 1) := by decide +kernel
theorem dX6_endOfRun_29 : decode cX6_endOfRun 29 = .ok (.iload_n 2, 1) := by decide +kernel
theorem dX6_endOfRun_30 : decode cX6_endOfRun 30 = .ok (.if_icmp .gt 9, 3) := by decide +kernel
theorem dX6_endOfRun_33 : decode cX6_endOfRun 33 = .ok (.iinc 3 1, 3) := by decide +kernel
theorem dX6_endOfRun_36 : decode cX6_endOfRun 36 = .ok (.goto (-31), 3) := by decide +kernel
theorem dX6_endOfRun_39 : decode cX6_endOfRun 39 = .ok (.iload_n 3, 1) := by decide +kernel
theorem dX6_endOfRun_40 : decode cX6_endOfRun 40 = .ok (.ireturn, 1) := by decide +kernel
theorem dX6_valueOfDigits_0 : decode cX6_valueOfDigits 0 = .ok (.iconst 0, 1) := by decide +kernel
theorem dX6_valueOfDigits_1 : decode cX6_valueOfDigits 1 = .ok (.istore_n 1, 1) := by decide +kernel
theorem dX6_valueOfDigits_2 : decode cX6_valueOfDigits 2 = .ok (.aload_n 0, 1) := by decide +kernel
theorem dX6_valueOfDigits_3 : decode cX6_valueOfDigits 3 = .ok (.getfield 42, 3) := by decide +kernel
theorem dX6_valueOfDigits_6 : decode cX6_valueOfDigits 6 = .ok (.istore_n 2, 1) := by decide +kernel
theorem dX6_valueOfDigits_7 : decode cX6_valueOfDigits 7 = .ok (.iload_n 2, 1) := by decide +kernel
theorem dX6_valueOfDigits_8 : decode cX6_valueOfDigits 8 = .ok (.aload_n 0, 1) := by decide +kernel
theorem dX6_valueOfDigits_9 : decode cX6_valueOfDigits 9 = .ok (.getfield 45, 3) := by decide +kernel
theorem dX6_valueOfDigits_12 : decode cX6_valueOfDigits 12 = .ok (.if_icmp .ge 24, 3) := by decide +kernel
theorem dX6_valueOfDigits_15 : decode cX6_valueOfDigits 15 = .ok (.iload_n 1, 1) := by decide +kernel
theorem dX6_valueOfDigits_16 : decode cX6_valueOfDigits 16 = .ok (.bipush 10, 2) := by decide +kernel
theorem dX6_valueOfDigits_18 : decode cX6_valueOfDigits 18 = .ok (.imul, 1) := by decide +kernel
theorem dX6_valueOfDigits_19 : decode cX6_valueOfDigits 19 = .ok (.aload_n 0, 1) := by decide +kernel
theorem dX6_valueOfDigits_20 : decode cX6_valueOfDigits 20 = .ok (.getfield 32, 3) := by decide +kernel
theorem dX6_valueOfDigits_23 : decode cX6_valueOfDigits 23 = .ok (.iload_n 2, 1) := by decide +kernel
theorem dX6_valueOfDigits_24 : decode cX6_valueOfDigits 24 = .ok (.baload, 1) := by decide +kernel
theorem dX6_valueOfDigits_25 : decode cX6_valueOfDigits 25 = .ok (.bipush 48, 2) := by decide +kernel
theorem dX6_valueOfDigits_27 : decode cX6_valueOfDigits 27 = .ok (.isub, 1) := by decide +kernel
theorem dX6_valueOfDigits_28 : decode cX6_valueOfDigits 28 = .ok (.iadd, 1) := by decide +kernel
theorem dX6_valueOfDigits_29 : decode cX6_valueOfDigits 29 = .ok (.istore_n 1, 1) := by decide +kernel
theorem dX6_valueOfDigits_30 : decode cX6_valueOfDigits 30 = .ok (.iinc 2 1, 3) := by decide +kernel
theorem dX6_valueOfDigits_33 : decode cX6_valueOfDigits 33 = .ok (.goto (-26), 3) := by decide +kernel
theorem dX6_valueOfDigits_36 : decode cX6_valueOfDigits 36 = .ok (.iload_n 1, 1) := by decide +kernel
theorem dX6_valueOfDigits_37 : decode cX6_valueOfDigits 37 = .ok (.ireturn, 1) := by decide +kernel
theorem dX7_init_0 : decode cX7_init 0 = .ok (.aload_n 0, 1) := by decide +kernel
theorem dX7_init_1 : decode cX7_init 1 = .ok (.invokespecial 3, 3) := by decide +kernel
theorem dX7_init_4 : decode cX7_init 4 = .ok (.aload_n 0, 1) := by decide +kernel
theorem dX7_init_5 : decode cX7_init 5 = .ok (.ldc 11, 2) := by decide +kernel
theorem dX7_init_7 : decode cX7_init 7 = .ok (.putfield 12, 3) := by decide +kernel
theorem dX7_init_10 : decode cX7_init 10 = .ok (.aload_n 0, 1) := by decide +kernel
theorem dX7_init_11 : decode cX7_init 11 = .ok (.bipush 6, 2) := by decide +kernel
theorem dX7_init_13 : decode cX7_init 13 = .ok (.newarray .int, 2) := by decide +kernel
theorem dX7_init_15 : decode cX7_init 15 = .ok (.putfield 16, 3) := by decide +kernel
theorem dX7_init_18 : decode cX7_init 18 = .ok (.aload_n 0, 1) := by decide +kernel
theorem dX7_init_19 : decode cX7_init 19 = .ok (.new 20, 3) := by decide +kernel
theorem dX7_init_22 : decode cX7_init 22 = .ok (.dup, 1) := by decide +kernel
theorem dX7_init_23 : decode cX7_init 23 = .ok (.invokespecial 22, 3) := by decide +kernel
theorem dX7_init_26 : decode cX7_init 26 = .ok (.putfield 23, 3) := by decide +kernel
theorem dX7_init_29 : decode cX7_init 29 = .ok (.aload_n 0, 1) := by decide +kernel
theorem dX7_init_30 : decode cX7_init 30 = .ok (.bipush 36, 2) := by decide +kernel
theorem dX7_init_32 : decode cX7_init 32 = .ok (.bipush 24, 2) := by decide +kernel
theorem dX7_init_34 : decode cX7_init 34 = .ok (.multianewarray 27 2, 4) := by decide +kernel
theorem dX7_init_38 : decode cX7_init 38 = .ok (.putfield 29, 3) := by decide +kernel
theorem dX7_init_41 : decode cX7_init 41 = .ok (.aload_n 0, 1) := by decide +kernel
theorem dX7_init_42 : decode cX7_init 42 = .ok (.bipush 6, 2) := by decide +kernel
theorem dX7_init_44 : decode cX7_init 44 = .ok (.sipush 144, 3) := by decide +kernel
theorem dX7_init_47 : decode cX7_init 47 = .ok (.multianewarray 27 2, 4) := by decide +kernel
theorem dX7_init_51 : decode cX7_init 51 = .ok (.putfield 32, 3) := by decide +kernel
theorem dX7_init_54 : decode cX7_init 54 = .ok (.aload_n 0, 1) := by decide +kernel
theorem dX7_init_55 : decode cX7_init 55 = .ok (.bipush 6, 2) := by decide +kernel
theorem dX7_init_57 : decode cX7_init 57 = .ok (.newarray .int, 2) := by decide +kernel
theorem dX7_init_59 : decode cX7_init 59 = .ok (.putfield 35, 3) := by decide +kernel
theorem dX7_init_62 : decode cX7_init 62 = .ok (.aload_n 0, 1) := by decide +kernel
theorem dX7_init_63 : decode cX7_init 63 = .ok (.bipush 6, 2) := by decide +kernel
theorem dX7_init_65 : decode cX7_init 65 = .ok (.newarray .int, 2) := by decide +kernel
theorem dX7_init_67 : decode cX7_init 67 = .ok (.putfield 38, 3) := by decide +kernel
theorem dX7_init_70 : decode cX7_init 70 = .ok (.aload_n 0, 1) := by decide +kernel
theorem dX7_init_71 : decode cX7_init 71 = .ok (.iconst 0, 1) := by decide +kernel
theorem dX7_init_72 : decode cX7_init 72 = .ok (.putfield 41, 3) := by decide +kernel
theorem dX7_init_75 : decode cX7_init 75 = .ok (.aload_n 0, 1) := by decide +kernel
theorem dX7_init_76 : decode cX7_init 76 = .ok (.bipush 12, 2) := by decide +kernel
theorem dX7_init_78 : decode cX7_init 78 = .ok (.putfield 44, 3) := by decide +kernel
theorem dX7_init_81 : decode cX7_init 81 = .ok (.aload_n 0, 1) := by decide +kernel
theorem dX7_init_82 : decode cX7_init 82 = .ok (.iconst 0, 1) := by decide +kernel
theorem dX7_init_83 : decode cX7_init 83 = .ok (.putfield 47, 3) := by decide +kernel
theorem dX7_init_86 : decode cX7_init 86 = .ok (.return_, 1) := by decide +kernel
theorem dX7_findGood_0 : decode cX7_findGood 0 = .ok (.aload_n 0, 1) := by decide +kernel
theorem dX7_findGood_1 : decode cX7_findGood 1 = .ok (.iload_n 2, 1) := by decide +kernel
theorem dX7_findGood_2 : decode cX7_findGood 2 = .ok (.putfield 47, 3) := by decide +kernel
theorem dX7_findGood_5 : decode cX7_findGood 5 = .ok (.aload_n 0, 1) := by decide +kernel
theorem dX7_findGood_6 : decode cX7_findGood 6 = .ok (.aload_n 1, 1) := by decide +kernel
theorem dX7_findGood_7 : decode cX7_findGood 7 = .ok (.getfield 51, 3) := by decide +kernel
theorem dX7_findGood_10 : decode cX7_findGood 10 = .ok (.putfield 41, 3) := by decide +kernel
theorem dX7_findGood_13 : decode cX7_findGood 13 = .ok (.aload_n 0, 1) := by decide +kernel
theorem dX7_findGood_14 : decode cX7_findGood 14 = .ok (.aload_n 1, 1) := by decide +kernel
theorem dX7_findGood_15 : decode cX7_findGood 15 = .ok (.getfield 56, 3) := by decide +kernel
theorem dX7_findGood_18 : decode cX7_findGood 18 = .ok (.putfield 44, 3) := by decide +kernel
theorem dX7_findGood_21 : decode cX7_findGood 21 = .ok (.aload_n 0, 1) := by decide +kernel
theorem dX7_findGood_22 : decode cX7_findGood 22 = .ok (.ldc 11, 2) := by decide +kernel
theorem dX7_findGood_24 : decode cX7_findGood 24 = .ok (.putfield 12, 3) := by decide +kernel
theorem dX7_findGood_27 : decode cX7_findGood 27 = .ok (.aload_n 0, 1) := by decide +kernel
theorem dX7_findGood_28 : decode cX7_findGood 28 = .ok (.getfield 23, 3) := by decide +kernel
theorem dX7_findGood_31 : decode cX7_findGood 31 = .ok (.aload_n 1, 1) := by decide +kernel
theorem dX7_findGood_32 : decode cX7_findGood 32 = .ok (.invokevirtual 57, 3) := by decide +kernel
theorem dX7_findGood_35 : decode cX7_findGood 35 = .ok (.aload_n 0, 1) := by decide +kernel
theorem dX7_findGood_36 : decode cX7_findGood 36 = .ok (.getfield 23, 3) := by decide +kernel
theorem dX7_findGood_39 : decode cX7_findGood 39 = .ok (.invokevirtual 61, 3) := by decide +kernel
theorem dX7_findGood_42 : decode cX7_findGood 42 = .ok (.aload_n 0, 1) := by decide +kernel
theorem dX7_findGood_43 : decode cX7_findGood 43 = .ok (.getfield 23, 3) := by decide +kernel
theorem dX7_findGood_46 : decode cX7_findGood 46 = .ok (.invokevirtual 64, 3) := by decide +kernel
theorem dX7_findGood_49 : decode cX7_findGood 49 = .ok (.ifCond .ne 23, 3) := by decide +kernel
theorem dX7_findGood_52 : decode cX7_findGood 52 = .ok (.aload_n 0, 1) := by decide +kernel
theorem dX7_findGood_53 : decode cX7_findGood 53 = .ok (.aload_n 1, 1) := by decide +kernel
theorem dX7_findGood_54 : decode cX7_findGood 54 = .ok (.invokevirtual 68, 3) := by decide +kernel
theorem dX7_findGood_57 : decode cX7_findGood 57 = .ok (.aload_n 0, 1) := by decide +kernel
theorem dX7_findGood_58 : decode cX7_findGood 58 = .ok (.invokevirtual 71, 3) := by decide +kernel
theorem dX7_findGood_61 : decode cX7_findGood 61 = .ok (.aload_n 0, 1) := by decide +kernel
theorem dX7_findGood_62 : decode cX7_findGood 62 = .ok (.aload_n 1, 1) := by decide +kernel
theorem dX7_findGood_63 : decode cX7_findGood 63 = .ok (.invokevirtual 74, 3) := by decide +kernel
theorem dX7_findGood_66 : decode cX7_findGood 66 = .ok (.aload_n 0, 1) := by decide +kernel
theorem dX7_findGood_67 : decode cX7_findGood 67 = .ok (.iconst 0, 1) := by decide +kernel
theorem dX7_findGood_68 : decode cX7_findGood 68 = .ok (.iconst 0, 1) := by decide +kernel
theorem dX7_findGood_69 : decode cX7_findGood 69 = .ok (.invokevirtual 77, 3) := by decide +kernel
theorem dX7_findGood_72 : decode cX7_findGood 72 = .ok (.aload_n 0, 1) := by decide +kernel
theorem dX7_findGood_73 : decode cX7_findGood 73 = .ok (.getfield 12, 3) := by decide +kernel
theorem dX7_findGood_76 : decode cX7_findGood 76 = .ok (.ldc 11, 2) := by decide +kernel
theorem dX7_findGood_78 : decode cX7_findGood 78 = .ok (.if_icmp .ge 7, 3) := by decide +kernel
theorem dX7_findGood_81 : decode cX7_findGood 81 = .ok (.iconst 1, 1) := by decide +kernel
theorem dX7_findGood_82 : decode cX7_findGood 82 = .ok (.goto 4, 3) := by decide +kernel
theorem dX7_findGood_85 : decode cX7_findGood 85 = .ok (.iconst 0, 1) := by decide +kernel
theorem dX7_findGood_86 : decode cX7_findGood 86 = .ok (.ireturn, 1) := by decide +kernel
theorem dX7_priceDifferences_0 : decode cX7_priceDifferences 0 = .ok (.iconst 0, 1) := by decide +kernel
theorem dX7_priceDifferences_1 : decode cX7_priceDifferences 1 = .ok (.istore_n 2, 1) := by decide +kernel
theorem dX7_priceDifferences_2 : decode cX7_priceDifferences 2 = .ok (.iload_n 2, 1) := by decide +kernel
theorem dX7_priceDifferences_3 : decode cX7_priceDifferences 3 = .ok (.aload_n 0, 1) := by decide +kernel
theorem dX7_priceDifferences_4 : decode cX7_priceDifferences 4 = .ok (.getfield 41, 3) := by decide +kernel
theorem dX7_priceDifferences_7 : decode cX7_priceDifferences 7 = .ok (.if_icmp .ge 83, 3) := by decide +kernel
theorem dX7_priceDifferences_10 : decode cX7_priceDifferences 10 = .ok (.iload_n 2, 1) := by decide +kernel
theorem dX7_priceDifferences_11 : decode cX7_priceDifferences 11 = .ok (.iconst 1, 1) := by decide +kernel
theorem dX7_priceDifferences_12 : decode cX7_priceDifferences 12 = .ok (.iadd, 1) := by decide +kernel
theorem dX7_priceDifferences_13 : decode cX7_priceDifferences 13 = .ok (.istore_n 3, 1) := by decide +kernel
theorem dX7_priceDifferences_14 : decode cX7_priceDifferences 14 = .ok (.iload_n 3, 1) := by decide +kernel
theorem dX7_priceDifferences_15 : decode cX7_priceDifferences 15 = .ok (.aload_n 0, 1) := by decide +kernel
theorem dX7_priceDifferences_16 : decode cX7_priceDifferences 16 = .ok (.getfield 41, 3) := by decide +kernel
theorem dX7_priceDifferences_19 : decode cX7_priceDifferences 19 = .ok (.if_icmp .ge 65, 3) := by decide +kernel
theorem dX7_priceDifferences_22 : decode cX7_priceDifferences 22 = .ok (.iconst 0, 1) := by decide +kernel
theorem dX7_priceDifferences_23 : decode cX7_priceDifferences 23 = .ok (.istore 4, 2) := by decide +kernel
theorem dX7_priceDifferences_25 : decode cX7_priceDifferences 25 = .ok (.iload 4, 2) := by decide +kernel
theorem dX7_priceDifferences_27 : decode cX7_priceDifferences 27 = .ok (.aload_n 0, 1) := by decide +kernel
theorem dX7_priceDifferences_28 : decode cX7_priceDifferences 28 = .ok (.getfield 44, 3) := by decide +kernel
theorem dX7_priceDifferences_31 : decode cX7_priceDifferences 31 = .ok (.if_icmp .ge 47, 3) := by decide +kernel
theorem dX7_priceDifferences_34 : decode cX7_priceDifferences 34 = .ok (.aload_n 0, 1) := by decide +kernel
theorem dX7_priceDifferences_35 : decode cX7_priceDifferences 35 = .ok (.getfield 23, 3) := by decide +kernel
theorem dX7_priceDifferences_38 : decode cX7_priceDifferences 38 = .ok (.iload_n 2, 1) := by decide +kernel
theorem dX7_priceDifferences_39 : decode cX7_priceDifferences 39 = .ok (.iload_n 3, 1) := by decide +kernel
theorem dX7_priceDifferences_40 : decode cX7_priceDifferences 40 = .ok (.iload 4, 2) := by decide +kernel
theorem dX7_priceDifferences_42 : decode cX7_priceDifferences 42 = .ok (.invokevirtual 81, 3) := by decide +kernel
theorem dX7_priceDifferences_45 : decode cX7_priceDifferences 45 = .ok (.istore 5, 2) := by decide +kernel
theorem dX7_priceDifferences_47 : decode cX7_priceDifferences 47 = .ok (.aload_n 0, 1) := by decide +kernel
theorem dX7_priceDifferences_48 : decode cX7_priceDifferences 48 = .ok (.getfield 29, 3) := by decide +kernel
theorem dX7_priceDifferences_51 : decode cX7_priceDifferences 51 = .ok (.iload_n 2, 1) := by decide +kernel
theorem dX7_priceDifferences_52 : decode cX7_priceDifferences 52 = .ok (.bipush 6, 2) := by decide +kernel
theorem dX7_priceDifferences_54 : decode cX7_priceDifferences 54 = .ok (.imul, 1) := by decide +kernel
theorem dX7_priceDifferences_55 : decode cX7_priceDifferences 55 = .ok (.iload_n 3, 1) := by decide +kernel
theorem dX7_priceDifferences_56 : decode cX7_priceDifferences 56 = .ok (.iadd, 1) := by decide +kernel
theorem dX7_priceDifferences_57 : decode cX7_priceDifferences 57 = .ok (.aaload, 1) := by decide +kernel
theorem dX7_priceDifferences_58 : decode cX7_priceDifferences 58 = .ok (.iload 4, 2) := by decide +kernel
theorem dX7_priceDifferences_60 : decode cX7_priceDifferences 60 = .ok (.iload 5, 2) := by decide +kernel
theorem dX7_priceDifferences_62 : decode cX7_priceDifferences 62 = .ok (.ifCond .eq 7, 3) := by decide +kernel
theorem dX7_priceDifferences_65 : decode cX7_priceDifferences 65 = .ok (.iconst 0, 1) := by decide +kernel
theorem dX7_priceDifferences_66 : decode cX7_priceDifferences 66 = .ok (.goto 5, 3) := by decide +kernel
theorem dX7_priceDifferences_69 : decode cX7_priceDifferences 69 = .ok (.ldc 11, 2) := by decide +kernel
theorem dX7_priceDifferences_71 : decode cX7_priceDifferences 71 = .ok (.iastore, 1) := by decide +kernel
theorem dX7_priceDifferences_72 : decode cX7_priceDifferences 72 = .ok (.iinc 4 1, 3) := by decide +kernel
theorem dX7_priceDifferences_75 : decode cX7_priceDifferences 75 = .ok (.goto (-50), 3) := by decide +kernel
theorem dX7_priceDifferences_78 : decode cX7_priceDifferences 78 = .ok (.iinc 3 1, 3) := by decide +kernel
theorem dX7_priceDifferences_81 : decode cX7_priceDifferences 81 = .ok (.goto (-67), 3) := by decide +kernel
theorem dX7_priceDifferences_84 : decode cX7_priceDifferences 84 = .ok (.iinc 2 1, 3) := by decide +kernel
theorem dX7_priceDifferences_87 : decode cX7_priceDifferences 87 = .ok (.goto (-85), 3) := by decide +kernel
theorem dX7_priceDifferences_90 : decode cX7_priceDifferences 90 = .ok (.iconst 0, 1) := by decide +kernel
theorem dX7_priceDifferences_91 : decode cX7_priceDifferences 91 = .ok (.istore_n 2, 1) := by decide +kernel
theorem dX7_priceDifferences_92 : decode cX7_priceDifferences 92 = .ok (.iload_n 2, 1) := by decide +kernel
theorem dX7_priceDifferences_93 : decode cX7_priceDifferences 93 = .ok (.aload_n 1, 1) := by decide +kernel
theorem dX7_priceDifferences_94 : decode cX7_priceDifferences 94 = .ok (.getfield 85, 3) := by decide +kernel
theorem dX7_priceDifferences_97 : decode cX7_priceDifferences 97 = .ok (.if_icmp .ge 15, 3) := by decide +kernel
theorem dX7_priceDifferences_100 : decode cX7_priceDifferences 100 = .ok (.aload_n 0, 1) := by decide +kernel
theorem dX7_priceDifferences_101 : decode cX7_priceDifferences 101 = .ok (.aload_n 1, 1) := by decide +kernel
theorem dX7_priceDifferences_102 : decode cX7_priceDifferences 102 = .ok (.iload_n 2, 1) := by decide +kernel
theorem dX7_priceDifferences_103 : decode cX7_priceDifferences 103 = .ok (.invokevirtual 88, 3) := by decide +kernel
theorem dX7_priceDifferences_106 : decode cX7_priceDifferences 106 = .ok (.iinc 2 1, 3) := by decide +kernel
theorem dX7_priceDifferences_109 : decode cX7_priceDifferences 109 = .ok (.goto (-17), 3) := by decide +kernel
theorem dX7_priceDifferences_112 : decode cX7_priceDifferences 112 = .ok (.return_, 1) := by decide +kernel
theorem dX7_priceSpan_0 : decode cX7_priceSpan 0 = .ok (.aload_n 1, 1) := by decide +kernel
theorem dX7_priceSpan_1 : decode cX7_priceSpan 1 = .ok (.getfield 92, 3) := by decide +kernel
theorem dX7_priceSpan_4 : decode cX7_priceSpan 4 = .ok (.iload_n 2, 1) := by decide +kernel
theorem dX7_priceSpan_5 : decode cX7_priceSpan 5 = .ok (.iaload, 1) := by decide +kernel
theorem dX7_priceSpan_6 : decode cX7_priceSpan 6 = .ok (.aload_n 1, 1) := by decide +kernel
theorem dX7_priceSpan_7 : decode cX7_priceSpan 7 = .ok (.getfield 95, 3) := by decide +kernel
theorem dX7_priceSpan_10 : decode cX7_priceSpan 10 = .ok (.iload_n 2, 1) := by decide +kernel
theorem dX7_priceSpan_11 : decode cX7_priceSpan 11 = .ok (.iaload, 1) := by decide +kernel
theorem dX7_priceSpan_12 : decode cX7_priceSpan 12 = .ok (.invokestatic 98, 3) := by decide +kernel
theorem dX7_priceSpan_15 : decode cX7_priceSpan 15 = .ok (.istore_n 3, 1) := by decide +kernel
theorem dX7_priceSpan_16 : decode cX7_priceSpan 16 = .ok (.aload_n 1, 1) := by decide +kernel
theorem dX7_priceSpan_17 : decode cX7_priceSpan 17 = .ok (.getfield 92, 3) := by decide +kernel
theorem dX7_priceSpan_20 : decode cX7_priceSpan 20 = .ok (.iload_n 2, 1) := by decide +kernel
theorem dX7_priceSpan_21 : decode cX7_priceSpan 21 = .ok (.iaload, 1) := by decide +kernel
theorem dX7_priceSpan_22 : decode cX7_priceSpan 22 = .ok (.aload_n 1, 1) := by decide +kernel
theorem dX7_priceSpan_23 : decode cX7_priceSpan 23 = .ok (.getfield 95, 3) := by decide +kernel
theorem dX7_priceSpan_26 : decode cX7_priceSpan 26 = .ok (.iload_n 2, 1) := by decide +kernel
theorem dX7_priceSpan_27 : decode cX7_priceSpan 27 = .ok (.iaload, 1) := by decide +kernel
theorem dX7_priceSpan_28 : decode cX7_priceSpan 28 = .ok (.invokestatic 104, 3) := by decide +kernel
theorem dX7_priceSpan_31 : decode cX7_priceSpan 31 = .ok (.istore 4, 2) := by decide +kernel
theorem dX7_priceSpan_33 : decode cX7_priceSpan 33 = .ok (.iload_n 3, 1) := by decide +kernel
theorem dX7_priceSpan_34 : decode cX7_priceSpan 34 = .ok (.aload_n 1, 1) := by decide +kernel
theorem dX7_priceSpan_35 : decode cX7_priceSpan 35 = .ok (.getfield 92, 3) := by decide +kernel
theorem dX7_priceSpan_38 : decode cX7_priceSpan 38 = .ok (.iload_n 2, 1) := by decide +kernel
theorem dX7_priceSpan_39 : decode cX7_priceSpan 39 = .ok (.iaload, 1) := by decide +kernel
theorem dX7_priceSpan_40 : decode cX7_priceSpan 40 = .ok (.if_icmp .ne 7, 3) := by decide +kernel
theorem dX7_priceSpan_43 : decode cX7_priceSpan 43 = .ok (.iconst 1, 1) := by decide +kernel
theorem dX7_priceSpan_44 : decode cX7_priceSpan 44 = .ok (.goto 4, 3) := by decide +kernel
theorem dX7_priceSpan_47 : decode cX7_priceSpan 47 = .ok (.iconst (-1), 1) := by decide +kernel
theorem dX7_priceSpan_48 : decode cX7_priceSpan 48 = .ok (.istore 5, 2) := by decide +kernel
theorem dX7_priceSpan_50 : decode cX7_priceSpan 50 = .ok (.iconst 0, 1) := by decide +kernel
theorem dX7_priceSpan_51 : decode cX7_priceSpan 51 = .ok (.istore 6, 2) := by decide +kernel
theorem dX7_priceSpan_53 : decode cX7_priceSpan 53 = .ok (.iload 6, 2) := by decide +kernel
theorem dX7_priceSpan_55 : decode cX7_priceSpan 55 = .ok (.aload_n 0, 1) := by decide +kernel
theorem dX7_priceSpan_56 : decode cX7_priceSpan 56 = .ok (.getfield 44, 3) := by decide +kernel
theorem dX7_priceSpan_59 : decode cX7_priceSpan 59 = .ok (.if_icmp .ge 44, 3) := by decide +kernel
theorem dX7_priceSpan_62 : decode cX7_priceSpan 62 = .ok (.aload_n 0, 1) := by decide +kernel
theorem dX7_priceSpan_63 : decode cX7_priceSpan 63 = .ok (.getfield 29, 3) := by decide +kernel
theorem dX7_priceSpan_66 : decode cX7_priceSpan 66 = .ok (.iload_n 3, 1) := by decide +kernel
theorem dX7_priceSpan_67 : decode cX7_priceSpan 67 = .ok (.bipush 6, 2) := by decide +kernel
theorem dX7_priceSpan_69 : decode cX7_priceSpan 69 = .ok (.imul, 1) := by decide +kernel
theorem dX7_priceSpan_70 : decode cX7_priceSpan 70 = .ok (.iload 4, 2) := by decide +kernel
theorem dX7_priceSpan_72 : decode cX7_priceSpan 72 = .ok (.iadd, 1) := by decide +kernel
theorem dX7_priceSpan_73 : decode cX7_priceSpan 73 = .ok (.aaload, 1) := by decide +kernel
theorem dX7_priceSpan_74 : decode cX7_priceSpan 74 = .ok (.iload 6, 2) := by decide +kernel
theorem dX7_priceSpan_76 : decode cX7_priceSpan 76 = .ok (.dup2, 1) := by decide +kernel
theorem dX7_priceSpan_77 : decode cX7_priceSpan 77 = .ok (.iaload, 1) := by decide +kernel
theorem dX7_priceSpan_78 : decode cX7_priceSpan 78 = .ok (.aload_n 1, 1) := by decide +kernel
theorem dX7_priceSpan_79 : decode cX7_priceSpan 79 = .ok (.getfield 107, 3) := by decide +kernel
theorem dX7_priceSpan_82 : decode cX7_priceSpan 82 = .ok (.iload_n 2, 1) := by decide +kernel
theorem dX7_priceSpan_83 : decode cX7_priceSpan 83 = .ok (.iaload, 1) := by decide +kernel
theorem dX7_priceSpan_84 : decode cX7_priceSpan 84 = .ok (.aload_n 1, 1) := by decide +kernel
theorem dX7_priceSpan_85 : decode cX7_priceSpan 85 = .ok (.iload_n 2, 1) := by decide +kernel
theorem dX7_priceSpan_86 : decode cX7_priceSpan 86 = .ok (.iload 5, 2) := by decide +kernel
theorem dX7_priceSpan_88 : decode cX7_priceSpan 88 = .ok (.iload 6, 2) := by decide +kernel
theorem dX7_priceSpan_90 : decode cX7_priceSpan 90 = .ok (.imul, 1) := by decide +kernel
theorem dX7_priceSpan_91 : decode cX7_priceSpan 91 = .ok (.invokevirtual 110, 3) := by decide +kernel
theorem dX7_priceSpan_94 : decode cX7_priceSpan 94 = .ok (.imul, 1) := by decide +kernel
theorem dX7_priceSpan_95 : decode cX7_priceSpan 95 = .ok (.iadd, 1) := by decide +kernel
theorem dX7_priceSpan_96 : decode cX7_priceSpan 96 = .ok (.iastore, 1) := by decide +kernel
theorem dX7_priceSpan_97 : decode cX7_priceSpan 97 = .ok (.iinc 6 1, 3) := by decide +kernel
theorem dX7_priceSpan_100 : decode cX7_priceSpan 100 = .ok (.goto (-47), 3) := by decide +kernel
theorem dX7_priceSpan_103 : decode cX7_priceSpan 103 = .ok (.return_, 1) := by decide +kernel
theorem dX7_sumLeastPrices_0 : decode cX7_sumLeastPrices 0 = .ok (.iconst 0, 1) := by decide +kernel
theorem dX7_sumLeastPrices_1 : decode cX7_sumLeastPrices 1 = .ok (.istore_n 1, 1) := by decide +kernel
theorem dX7_sumLeastPrices_2 : decode cX7_sumLeastPrices 2 = .ok (.aload_n 0, 1) := by decide +kernel
theorem dX7_sumLeastPrices_3 : decode cX7_sumLeastPrices 3 = .ok (.getfield 41, 3) := by decide +kernel
theorem dX7_sumLeastPrices_6 : decode cX7_sumLeastPrices 6 = .ok (.iconst 1, 1) := by decide +kernel
theorem dX7_sumLeastPrices_7 : decode cX7_sumLeastPrices 7 = .ok (.isub, 1) := by decide +kernel
theorem dX7_sumLeastPrices_8 : decode cX7_sumLeastPrices 8 = .ok (.istore_n 2, 1) := by decide +kernel
theorem dX7_sumLeastPrices_9 : decode cX7_sumLeastPrices 9 = .ok (.iload_n 2, 1) := by decide +kernel
theorem dX7_sumLeastPrices_10 : decode cX7_sumLeastPrices 10 = .ok (.ifCond .lt 52, 3) := by decide +kernel
theorem dX7_sumLeastPrices_13 : decode cX7_sumLeastPrices 13 = .ok (.aload_n 0, 1) := by decide +kernel
theorem dX7_sumLeastPrices_14 : decode cX7_sumLeastPrices 14 = .ok (.getfield 35, 3) := by decide +kernel
theorem dX7_sumLeastPrices_17 : decode cX7_sumLeastPrices 17 = .ok (.iload_n 2, 1) := by decide +kernel
theorem dX7_sumLeastPrices_18 : decode cX7_sumLeastPrices 18 = .ok (.iload_n 1, 1) := by decide +kernel
theorem dX7_sumLeastPrices_19 : decode cX7_sumLeastPrices 19 = .ok (.iastore, 1) := by decide +kernel
theorem dX7_sumLeastPrices_20 : decode cX7_sumLeastPrices 20 = .ok (.iload_n 2, 1) := by decide +kernel
theorem dX7_sumLeastPrices_21 : decode cX7_sumLeastPrices 21 = .ok (.iconst 1, 1) := by decide +kernel
theorem dX7_sumLeastPrices_22 : decode cX7_sumLeastPrices 22 = .ok (.iadd, 1) := by decide +kernel
theorem dX7_sumLeastPrices_23 : decode cX7_sumLeastPrices 23 = .ok (.istore_n 3, 1) := by decide +kernel
theorem dX7_sumLeastPrices_24 : decode cX7_sumLeastPrices 24 = .ok (.iload_n 3, 1) := by decide +kernel
theorem dX7_sumLeastPrices_25 : decode cX7_sumLeastPrices 25 = .ok (.aload_n 0, 1) := by decide +kernel
theorem dX7_sumLeastPrices_26 : decode cX7_sumLeastPrices 26 = .ok (.getfield 41, 3) := by decide +kernel
theorem dX7_sumLeastPrices_29 : decode cX7_sumLeastPrices 29 = .ok (.if_icmp .ge 27, 3) := by decide +kernel
theorem dX7_sumLeastPrices_32 : decode cX7_sumLeastPrices 32 = .ok (.iload_n 1, 1) := by decide +kernel
theorem dX7_sumLeastPrices_33 : decode cX7_sumLeastPrices 33 = .ok (.aload_n 0, 1) := by decide +kernel
theorem dX7_sumLeastPrices_34 : decode cX7_sumLeastPrices 34 = .ok (.aload_n 0, 1) := by decide +kernel
theorem dX7_sumLeastPrices_35 : decode cX7_sumLeastPrices 35 = .ok (.getfield 29, 3) := by decide +kernel
theorem dX7_sumLeastPrices_38 : decode cX7_sumLeastPrices 38 = .ok (.iload_n 2, 1) := by decide +kernel
theorem dX7_sumLeastPrices_39 : decode cX7_sumLeastPrices 39 = .ok (.bipush 6, 2) := by decide +kernel
theorem dX7_sumLeastPrices_41 : decode cX7_sumLeastPrices 41 = .ok (.imul, 1) := by decide +kernel
theorem dX7_sumLeastPrices_42 : decode cX7_sumLeastPrices 42 = .ok (.iload_n 3, 1) := by decide +kernel
theorem dX7_sumLeastPrices_43 : decode cX7_sumLeastPrices 43 = .ok (.iadd, 1) := by decide +kernel
theorem dX7_sumLeastPrices_44 : decode cX7_sumLeastPrices 44 = .ok (.aaload, 1) := by decide +kernel
theorem dX7_sumLeastPrices_45 : decode cX7_sumLeastPrices 45 = .ok (.invokevirtual 113, 3) := by decide +kernel
theorem dX7_sumLeastPrices_48 : decode cX7_sumLeastPrices 48 = .ok (.iadd, 1) := by decide +kernel
theorem dX7_sumLeastPrices_49 : decode cX7_sumLeastPrices 49 = .ok (.istore_n 1, 1) := by decide +kernel
theorem dX7_sumLeastPrices_50 : decode cX7_sumLeastPrices 50 = .ok (.iinc 3 1, 3) := by decide +kernel
theorem dX7_sumLeastPrices_53 : decode cX7_sumLeastPrices 53 = .ok (.goto (-29), 3) := by decide +kernel
theorem dX7_sumLeastPrices_56 : decode cX7_sumLeastPrices 56 = .ok (.iinc 2 (-1), 3) := by decide +kernel
theorem dX7_sumLeastPrices_59 : decode cX7_sumLeastPrices 59 = .ok (.goto (-50), 3) := by decide +kernel
theorem dX7_sumLeastPrices_62 : decode cX7_sumLeastPrices 62 = .ok (.return_, 1) := by decide +kernel
theorem dX7_leastPrice_0 : decode cX7_leastPrice 0 = .ok (.ldc 11, 2) := by decide +kernel
theorem dX7_leastPrice_2 : decode cX7_leastPrice 2 = .ok (.istore_n 2, 1) := by decide +kernel
theorem dX7_leastPrice_3 : decode cX7_leastPrice 3 = .ok (.iconst 0, 1) := by decide +kernel
theorem dX7_leastPrice_4 : decode cX7_leastPrice 4 = .ok (.istore_n 3, 1) := by decide +kernel
theorem dX7_leastPrice_5 : decode cX7_leastPrice 5 = .ok (.iload_n 3, 1) := by decide +kernel
theorem dX7_leastPrice_6 : decode cX7_leastPrice 6 = .ok (.aload_n 0, 1) := by decide +kernel
theorem dX7_leastPrice_7 : decode cX7_leastPrice 7 = .ok (.getfield 44, 3) := by decide +kernel
theorem dX7_leastPrice_10 : decode cX7_leastPrice 10 = .ok (.if_icmp .ge 17, 3) := by decide +kernel
theorem dX7_leastPrice_13 : decode cX7_leastPrice 13 = .ok (.iload_n 2, 1) := by decide +kernel
theorem dX7_leastPrice_14 : decode cX7_leastPrice 14 = .ok (.aload_n 1, 1) := by decide +kernel
theorem dX7_leastPrice_15 : decode cX7_leastPrice 15 = .ok (.iload_n 3, 1) := by decide +kernel
theorem dX7_leastPrice_16 : decode cX7_leastPrice 16 = .ok (.iaload, 1) := by decide +kernel
theorem dX7_leastPrice_17 : decode cX7_leastPrice 17 = .ok (.invokestatic 98, 3) := by decide +kernel
theorem dX7_leastPrice_20 : decode cX7_leastPrice 20 = .ok (.istore_n 2, 1) := by decide +kernel
theorem dX7_leastPrice_21 : decode cX7_leastPrice 21 = .ok (.iinc 3 1, 3) := by decide +kernel
theorem dX7_leastPrice_24 : decode cX7_leastPrice 24 = .ok (.goto (-19), 3) := by decide +kernel
theorem dX7_leastPrice_27 : decode cX7_leastPrice 27 = .ok (.iload_n 2, 1) := by decide +kernel
theorem dX7_leastPrice_28 : decode cX7_leastPrice 28 = .ok (.ireturn, 1) := by decide +kernel
theorem dX7_holdFirstEvent_0 : decode cX7_holdFirstEvent 0 = .ok (.iconst 0, 1) := by decide +kernel
theorem dX7_holdFirstEvent_1 : decode cX7_holdFirstEvent 1 = .ok (.istore_n 2, 1) := by decide +kernel
theorem dX7_holdFirstEvent_2 : decode cX7_holdFirstEvent 2 = .ok (.iload_n 2, 1) := by decide +kernel
theorem dX7_holdFirstEvent_3 : decode cX7_holdFirstEvent 3 = .ok (.aload_n 0, 1) := by decide +kernel
theorem dX7_holdFirstEvent_4 : decode cX7_holdFirstEvent 4 = .ok (.getfield 41, 3) := by decide +kernel
theorem dX7_holdFirstEvent_7 : decode cX7_holdFirstEvent 7 = .ok (.if_icmp .ge 70, 3) := by decide +kernel
theorem dX7_holdFirstEvent_10 : decode cX7_holdFirstEvent 10 = .ok (.iconst 0, 1) := by decide +kernel
theorem dX7_holdFirstEvent_11 : decode cX7_holdFirstEvent 11 = .ok (.istore_n 3, 1) := by decide +kernel
theorem dX7_holdFirstEvent_12 : decode cX7_holdFirstEvent 12 = .ok (.iload_n 3, 1) := by decide +kernel
theorem dX7_holdFirstEvent_13 : decode cX7_holdFirstEvent 13 = .ok (.aload_n 0, 1) := by decide +kernel
theorem dX7_holdFirstEvent_14 : decode cX7_holdFirstEvent 14 = .ok (.getfield 44, 3) := by decide +kernel
theorem dX7_holdFirstEvent_17 : decode cX7_holdFirstEvent 17 = .ok (.if_icmp .ge 54, 3) := by decide +kernel
theorem dX7_holdFirstEvent_20 : decode cX7_holdFirstEvent 20 = .ok (.iload_n 2, 1) := by decide +kernel
theorem dX7_holdFirstEvent_21 : decode cX7_holdFirstEvent 21 = .ok (.ifCond .gt 13, 3) := by decide +kernel
theorem dX7_holdFirstEvent_24 : decode cX7_holdFirstEvent 24 = .ok (.iload_n 3, 1) := by decide +kernel
theorem dX7_holdFirstEvent_25 : decode cX7_holdFirstEvent 25 = .ok (.aload_n 1, 1) := by decide +kernel
theorem dX7_holdFirstEvent_26 : decode cX7_holdFirstEvent 26 = .ok (.getfield 117, 3) := by decide +kernel
theorem dX7_holdFirstEvent_29 : decode cX7_holdFirstEvent 29 = .ok (.iconst 0, 1) := by decide +kernel
theorem dX7_holdFirstEvent_30 : decode cX7_holdFirstEvent 30 = .ok (.iaload, 1) := by decide +kernel
theorem dX7_holdFirstEvent_31 : decode cX7_holdFirstEvent 31 = .ok (.if_icmp .ne 7, 3) := by decide +kernel
theorem dX7_holdFirstEvent_34 : decode cX7_holdFirstEvent 34 = .ok (.iconst 1, 1) := by decide +kernel
theorem dX7_holdFirstEvent_35 : decode cX7_holdFirstEvent 35 = .ok (.goto 4, 3) := by decide +kernel
theorem dX7_holdFirstEvent_38 : decode cX7_holdFirstEvent 38 = .ok (.iconst 0, 1) := by decide +kernel
theorem dX7_holdFirstEvent_39 : decode cX7_holdFirstEvent 39 = .ok (.istore 4, 2) := by decide +kernel
theorem dX7_holdFirstEvent_41 : decode cX7_holdFirstEvent 41 = .ok (.aload_n 0, 1) := by decide +kernel
theorem dX7_holdFirstEvent_42 : decode cX7_holdFirstEvent 42 = .ok (.getfield 32, 3) := by decide +kernel
theorem dX7_holdFirstEvent_45 : decode cX7_holdFirstEvent 45 = .ok (.iconst 0, 1) := by decide +kernel
theorem dX7_holdFirstEvent_46 : decode cX7_holdFirstEvent 46 = .ok (.aaload, 1) := by decide +kernel
theorem dX7_holdFirstEvent_47 : decode cX7_holdFirstEvent 47 = .ok (.iload_n 2, 1) := by decide +kernel
theorem dX7_holdFirstEvent_48 : decode cX7_holdFirstEvent 48 = .ok (.bipush 24, 2) := by decide +kernel
theorem dX7_holdFirstEvent_50 : decode cX7_holdFirstEvent 50 = .ok (.imul, 1) := by decide +kernel
theorem dX7_holdFirstEvent_51 : decode cX7_holdFirstEvent 51 = .ok (.iload_n 3, 1) := by decide +kernel
theorem dX7_holdFirstEvent_52 : decode cX7_holdFirstEvent 52 = .ok (.iadd, 1) := by decide +kernel
theorem dX7_holdFirstEvent_53 : decode cX7_holdFirstEvent 53 = .ok (.iload 4, 2) := by decide +kernel
theorem dX7_holdFirstEvent_55 : decode cX7_holdFirstEvent 55 = .ok (.ifCond .eq 7, 3) := by decide +kernel
theorem dX7_holdFirstEvent_58 : decode cX7_holdFirstEvent 58 = .ok (.iconst 0, 1) := by decide +kernel
theorem dX7_holdFirstEvent_59 : decode cX7_holdFirstEvent 59 = .ok (.goto 5, 3) := by decide +kernel
theorem dX7_holdFirstEvent_62 : decode cX7_holdFirstEvent 62 = .ok (.ldc 11, 2) := by decide +kernel
theorem dX7_holdFirstEvent_64 : decode cX7_holdFirstEvent 64 = .ok (.iastore, 1) := by decide +kernel
theorem dX7_holdFirstEvent_65 : decode cX7_holdFirstEvent 65 = .ok (.iinc 3 1, 3) := by decide +kernel
theorem dX7_holdFirstEvent_68 : decode cX7_holdFirstEvent 68 = .ok (.goto (-56), 3) := by decide +kernel
theorem dX7_holdFirstEvent_71 : decode cX7_holdFirstEvent 71 = .ok (.iinc 2 1, 3) := by decide +kernel
theorem dX7_holdFirstEvent_74 : decode cX7_holdFirstEvent 74 = .ok (.goto (-72), 3) := by decide +kernel
theorem dX7_holdFirstEvent_77 : decode cX7_holdFirstEvent 77 = .ok (.return_, 1) := by decide +kernel
theorem dX7_placeFrom_0 : decode cX7_placeFrom 0 = .ok (.iload_n 1, 1) := by decide +kernel
theorem dX7_placeFrom_1 : decode cX7_placeFrom 1 = .ok (.aload_n 0, 1) := by decide +kernel
theorem dX7_placeFrom_2 : decode cX7_placeFrom 2 = .ok (.getfield 41, 3) := by decide +kernel
theorem dX7_placeFrom_5 : decode cX7_placeFrom 5 = .ok (.if_icmp .ge 9, 3) := by decide +kernel
theorem dX7_placeFrom_8 : decode cX7_placeFrom 8 = .ok (.iload_n 1, 1) := by decide +kernel
theorem dX7_placeFrom_9 : decode cX7_placeFrom 9 = .ok (.bipush 6, 2) := by decide +kernel
theorem dX7_placeFrom_11 : decode cX7_placeFrom 11 = .ok (.if_icmp .lt 26, 3) := by decide +kernel
theorem dX7_placeFrom_14 : decode cX7_placeFrom 14 = .ok (.aload_n 0, 1) := by decide +kernel
theorem dX7_placeFrom_15 : decode cX7_placeFrom 15 = .ok (.iload_n 2, 1) := by decide +kernel
theorem dX7_placeFrom_16 : decode cX7_placeFrom 16 = .ok (.putfield 12, 3) := by decide +kernel
theorem dX7_placeFrom_19 : decode cX7_placeFrom 19 = .ok (.aload_n 0, 1) := by decide +kernel
theorem dX7_placeFrom_20 : decode cX7_placeFrom 20 = .ok (.getfield 38, 3) := by decide +kernel
theorem dX7_placeFrom_23 : decode cX7_placeFrom 23 = .ok (.iconst 0, 1) := by decide +kernel
theorem dX7_placeFrom_24 : decode cX7_placeFrom 24 = .ok (.aload_n 0, 1) := by decide +kernel
theorem dX7_placeFrom_25 : decode cX7_placeFrom 25 = .ok (.getfield 16, 3) := by decide +kernel
theorem dX7_placeFrom_28 : decode cX7_placeFrom 28 = .ok (.iconst 0, 1) := by decide +kernel
theorem dX7_placeFrom_29 : decode cX7_placeFrom 29 = .ok (.aload_n 0, 1) := by decide +kernel
theorem dX7_placeFrom_30 : decode cX7_placeFrom 30 = .ok (.getfield 41, 3) := by decide +kernel
theorem dX7_placeFrom_33 : decode cX7_placeFrom 33 = .ok (.invokestatic 120, 3) := by decide +kernel
theorem dX7_placeFrom_36 : decode cX7_placeFrom 36 = .ok (.return_, 1) := by decide +kernel
theorem dX7_placeFrom_37 : decode cX7_placeFrom 37 = .ok (.iconst 0, 1) := by decide +kernel
theorem dX7_placeFrom_38 : decode cX7_placeFrom 38 = .ok (.istore_n 3, 1) := by decide +kernel
theorem dX7_placeFrom_39 : decode cX7_placeFrom 39 = .ok (.iload_n 3, 1) := by decide +kernel
theorem dX7_placeFrom_40 : decode cX7_placeFrom 40 = .ok (.aload_n 0, 1) := by decide +kernel
theorem dX7_placeFrom_41 : decode cX7_placeFrom 41 = .ok (.getfield 44, 3) := by decide +kernel
theorem dX7_placeFrom_44 : decode cX7_placeFrom 44 = .ok (.if_icmp .ge 30, 3) := by decide +kernel
theorem dX7_placeFrom_47 : decode cX7_placeFrom 47 = .ok (.aload_n 0, 1) := by decide +kernel
theorem dX7_placeFrom_48 : decode cX7_placeFrom 48 = .ok (.iload_n 1, 1) := by decide +kernel
theorem dX7_placeFrom_49 : decode cX7_placeFrom 49 = .ok (.iload_n 3, 1) := by decide +kernel
theorem dX7_placeFrom_50 : decode cX7_placeFrom 50 = .ok (.iload_n 2, 1) := by decide +kernel
theorem dX7_placeFrom_51 : decode cX7_placeFrom 51 = .ok (.aload_n 0, 1) := by decide +kernel
theorem dX7_placeFrom_52 : decode cX7_placeFrom 52 = .ok (.getfield 32, 3) := by decide +kernel
theorem dX7_placeFrom_55 : decode cX7_placeFrom 55 = .ok (.iload_n 1, 1) := by decide +kernel
theorem dX7_placeFrom_56 : decode cX7_placeFrom 56 = .ok (.aaload, 1) := by decide +kernel
theorem dX7_placeFrom_57 : decode cX7_placeFrom 57 = .ok (.iload_n 1, 1) := by decide +kernel
theorem dX7_placeFrom_58 : decode cX7_placeFrom 58 = .ok (.bipush 24, 2) := by decide +kernel
theorem dX7_placeFrom_60 : decode cX7_placeFrom 60 = .ok (.imul, 1) := by decide +kernel
theorem dX7_placeFrom_61 : decode cX7_placeFrom 61 = .ok (.iload_n 3, 1) := by decide +kernel
theorem dX7_placeFrom_62 : decode cX7_placeFrom 62 = .ok (.iadd, 1) := by decide +kernel
theorem dX7_placeFrom_63 : decode cX7_placeFrom 63 = .ok (.iaload, 1) := by decide +kernel
theorem dX7_placeFrom_64 : decode cX7_placeFrom 64 = .ok (.iadd, 1) := by decide +kernel
theorem dX7_placeFrom_65 : decode cX7_placeFrom 65 = .ok (.invokevirtual 126, 3) := by decide +kernel
theorem dX7_placeFrom_68 : decode cX7_placeFrom 68 = .ok (.iinc 3 1, 3) := by decide +kernel
theorem dX7_placeFrom_71 : decode cX7_placeFrom 71 = .ok (.goto (-32), 3) := by decide +kernel
theorem dX7_placeFrom_74 : decode cX7_placeFrom 74 = .ok (.return_, 1) := by decide +kernel
theorem dX7_placeAt_0 : decode cX7_placeAt 0 = .ok (.aload_n 0, 1) := by decide +kernel
theorem dX7_placeAt_1 : decode cX7_placeAt 1 = .ok (.iload_n 3, 1) := by decide +kernel
theorem dX7_placeAt_2 : decode cX7_placeAt 2 = .ok (.invokevirtual 130, 3) := by decide +kernel
theorem dX7_placeAt_5 : decode cX7_placeAt 5 = .ok (.ifCond .eq 33, 3) := by decide +kernel
theorem dX7_placeAt_8 : decode cX7_placeAt 8 = .ok (.aload_n 0, 1) := by decide +kernel
theorem dX7_placeAt_9 : decode cX7_placeAt 9 = .ok (.iload_n 3, 1) := by decide +kernel
theorem dX7_placeAt_10 : decode cX7_placeAt 10 = .ok (.aload_n 0, 1) := by decide +kernel
theorem dX7_placeAt_11 : decode cX7_placeAt 11 = .ok (.iload_n 1, 1) := by decide +kernel
theorem dX7_placeAt_12 : decode cX7_placeAt 12 = .ok (.iload_n 2, 1) := by decide +kernel
theorem dX7_placeAt_13 : decode cX7_placeAt 13 = .ok (.invokevirtual 134, 3) := by decide +kernel
theorem dX7_placeAt_16 : decode cX7_placeAt 16 = .ok (.iadd, 1) := by decide +kernel
theorem dX7_placeAt_17 : decode cX7_placeAt 17 = .ok (.invokevirtual 130, 3) := by decide +kernel
theorem dX7_placeAt_20 : decode cX7_placeAt 20 = .ok (.ifCond .eq 18, 3) := by decide +kernel
theorem dX7_placeAt_23 : decode cX7_placeAt 23 = .ok (.aload_n 0, 1) := by decide +kernel
theorem dX7_placeAt_24 : decode cX7_placeAt 24 = .ok (.getfield 38, 3) := by decide +kernel
theorem dX7_placeAt_27 : decode cX7_placeAt 27 = .ok (.iload_n 1, 1) := by decide +kernel
theorem dX7_placeAt_28 : decode cX7_placeAt 28 = .ok (.iload_n 2, 1) := by decide +kernel
theorem dX7_placeAt_29 : decode cX7_placeAt 29 = .ok (.iastore, 1) := by decide +kernel
theorem dX7_placeAt_30 : decode cX7_placeAt 30 = .ok (.aload_n 0, 1) := by decide +kernel
theorem dX7_placeAt_31 : decode cX7_placeAt 31 = .ok (.iload_n 1, 1) := by decide +kernel
theorem dX7_placeAt_32 : decode cX7_placeAt 32 = .ok (.iconst 1, 1) := by decide +kernel
theorem dX7_placeAt_33 : decode cX7_placeAt 33 = .ok (.iadd, 1) := by decide +kernel
theorem dX7_placeAt_34 : decode cX7_placeAt 34 = .ok (.iload_n 3, 1) := by decide +kernel
theorem dX7_placeAt_35 : decode cX7_placeAt 35 = .ok (.invokevirtual 77, 3) := by decide +kernel
theorem dX7_placeAt_38 : decode cX7_placeAt 38 = .ok (.return_, 1) := by decide +kernel
theorem dX7_canGetBest_0 : decode cX7_canGetBest 0 = .ok (.iload_n 1, 1) := by decide +kernel
theorem dX7_canGetBest_1 : decode cX7_canGetBest 1 = .ok (.aload_n 0, 1) := by decide +kernel
theorem dX7_canGetBest_2 : decode cX7_canGetBest 2 = .ok (.getfield 12, 3) := by decide +kernel
theorem dX7_canGetBest_5 : decode cX7_canGetBest 5 = .ok (.if_icmp .ge 23, 3) := by decide +kernel
theorem dX7_canGetBest_8 : decode cX7_canGetBest 8 = .ok (.aload_n 0, 1) := by decide +kernel
theorem dX7_canGetBest_9 : decode cX7_canGetBest 9 = .ok (.getfield 12, 3) := by decide +kernel
theorem dX7_canGetBest_12 : decode cX7_canGetBest 12 = .ok (.ldc 11, 2) := by decide +kernel
theorem dX7_canGetBest_14 : decode cX7_canGetBest 14 = .ok (.if_icmp .eq 10, 3) := by decide +kernel
theorem dX7_canGetBest_17 : decode cX7_canGetBest 17 = .ok (.aload_n 0, 1) := by decide +kernel
theorem dX7_canGetBest_18 : decode cX7_canGetBest 18 = .ok (.getfield 47, 3) := by decide +kernel
theorem dX7_canGetBest_21 : decode cX7_canGetBest 21 = .ok (.ifCond .ne 7, 3) := by decide +kernel
theorem dX7_canGetBest_24 : decode cX7_canGetBest 24 = .ok (.iconst 1, 1) := by decide +kernel
theorem dX7_canGetBest_25 : decode cX7_canGetBest 25 = .ok (.goto 4, 3) := by decide +kernel
theorem dX7_canGetBest_28 : decode cX7_canGetBest 28 = .ok (.iconst 0, 1) := by decide +kernel
theorem dX7_canGetBest_29 : decode cX7_canGetBest 29 = .ok (.ireturn, 1) := by decide +kernel
theorem dX7_priceBehind_0 : decode cX7_priceBehind 0 = .ok (.aload_n 0, 1) := by decide +kernel
theorem dX7_priceBehind_1 : decode cX7_priceBehind 1 = .ok (.getfield 35, 3) := by decide +kernel
theorem dX7_priceBehind_4 : decode cX7_priceBehind 4 = .ok (.iload_n 1, 1) := by decide +kernel
theorem dX7_priceBehind_5 : decode cX7_priceBehind 5 = .ok (.iaload, 1) := by decide +kernel
theorem dX7_priceBehind_6 : decode cX7_priceBehind 6 = .ok (.istore_n 3, 1) := by decide +kernel
theorem dX7_priceBehind_7 : decode cX7_priceBehind 7 = .ok (.iload_n 1, 1) := by decide +kernel
theorem dX7_priceBehind_8 : decode cX7_priceBehind 8 = .ok (.iconst 1, 1) := by decide +kernel
theorem dX7_priceBehind_9 : decode cX7_priceBehind 9 = .ok (.iadd, 1) := by decide +kernel
theorem dX7_priceBehind_10 : decode cX7_priceBehind 10 = .ok (.istore 4, 2) := by decide +kernel
theorem dX7_priceBehind_12 : decode cX7_priceBehind 12 = .ok (.iload 4, 2) := by decide +kernel
theorem dX7_priceBehind_14 : decode cX7_priceBehind 14 = .ok (.aload_n 0, 1) := by decide +kernel
theorem dX7_priceBehind_15 : decode cX7_priceBehind 15 = .ok (.getfield 41, 3) := by decide +kernel
theorem dX7_priceBehind_18 : decode cX7_priceBehind 18 = .ok (.if_icmp .ge 123, 3) := by decide +kernel
theorem dX7_priceBehind_21 : decode cX7_priceBehind 21 = .ok (.aload_n 0, 1) := by decide +kernel
theorem dX7_priceBehind_22 : decode cX7_priceBehind 22 = .ok (.getfield 29, 3) := by decide +kernel
theorem dX7_priceBehind_25 : decode cX7_priceBehind 25 = .ok (.iload_n 1, 1) := by decide +kernel
theorem dX7_priceBehind_26 : decode cX7_priceBehind 26 = .ok (.bipush 6, 2) := by decide +kernel
theorem dX7_priceBehind_28 : decode cX7_priceBehind 28 = .ok (.imul, 1) := by decide +kernel
theorem dX7_priceBehind_29 : decode cX7_priceBehind 29 = .ok (.iload 4, 2) := by decide +kernel
theorem dX7_priceBehind_31 : decode cX7_priceBehind 31 = .ok (.iadd, 1) := by decide +kernel
theorem dX7_priceBehind_32 : decode cX7_priceBehind 32 = .ok (.aaload, 1) := by decide +kernel
theorem dX7_priceBehind_33 : decode cX7_priceBehind 33 = .ok (.astore 5, 2) := by decide +kernel
theorem dX7_priceBehind_35 : decode cX7_priceBehind 35 = .ok (.ldc 11, 2) := by decide +kernel
theorem dX7_priceBehind_37 : decode cX7_priceBehind 37 = .ok (.istore 6, 2) := by decide +kernel
theorem dX7_priceBehind_39 : decode cX7_priceBehind 39 = .ok (.iconst 0, 1) := by decide +kernel
theorem dX7_priceBehind_40 : decode cX7_priceBehind 40 = .ok (.istore 7, 2) := by decide +kernel
theorem dX7_priceBehind_42 : decode cX7_priceBehind 42 = .ok (.iload 7, 2) := by decide +kernel
theorem dX7_priceBehind_44 : decode cX7_priceBehind 44 = .ok (.aload_n 0, 1) := by decide +kernel
theorem dX7_priceBehind_45 : decode cX7_priceBehind 45 = .ok (.getfield 44, 3) := by decide +kernel
theorem dX7_priceBehind_48 : decode cX7_priceBehind 48 = .ok (.if_icmp .ge 82, 3) := by decide +kernel
theorem dX7_priceBehind_51 : decode cX7_priceBehind 51 = .ok (.iload 7, 2) := by decide +kernel
theorem dX7_priceBehind_53 : decode cX7_priceBehind 53 = .ok (.iload_n 2, 1) := by decide +kernel
theorem dX7_priceBehind_54 : decode cX7_priceBehind 54 = .ok (.if_icmp .ge 15, 3) := by decide +kernel
theorem dX7_priceBehind_57 : decode cX7_priceBehind 57 = .ok (.iload 7, 2) := by decide +kernel
theorem dX7_priceBehind_59 : decode cX7_priceBehind 59 = .ok (.iload_n 2, 1) := by decide +kernel
theorem dX7_priceBehind_60 : decode cX7_priceBehind 60 = .ok (.isub, 1) := by decide +kernel
theorem dX7_priceBehind_61 : decode cX7_priceBehind 61 = .ok (.aload_n 0, 1) := by decide +kernel
theorem dX7_priceBehind_62 : decode cX7_priceBehind 62 = .ok (.getfield 44, 3) := by decide +kernel
theorem dX7_priceBehind_65 : decode cX7_priceBehind 65 = .ok (.iadd, 1) := by decide +kernel
theorem dX7_priceBehind_66 : decode cX7_priceBehind 66 = .ok (.goto 7, 3) := by decide +kernel
theorem dX7_priceBehind_69 : decode cX7_priceBehind 69 = .ok (.iload 7, 2) := by decide +kernel
theorem dX7_priceBehind_71 : decode cX7_priceBehind 71 = .ok (.iload_n 2, 1) := by decide +kernel
theorem dX7_priceBehind_72 : decode cX7_priceBehind 72 = .ok (.isub, 1) := by decide +kernel
theorem dX7_priceBehind_73 : decode cX7_priceBehind 73 = .ok (.istore 8, 2) := by decide +kernel
theorem dX7_priceBehind_75 : decode cX7_priceBehind 75 = .ok (.iload 4, 2) := by decide +kernel
theorem dX7_priceBehind_77 : decode cX7_priceBehind 77 = .ok (.bipush 24, 2) := by decide +kernel
theorem dX7_priceBehind_79 : decode cX7_priceBehind 79 = .ok (.imul, 1) := by decide +kernel
theorem dX7_priceBehind_80 : decode cX7_priceBehind 80 = .ok (.iload 7, 2) := by decide +kernel
theorem dX7_priceBehind_82 : decode cX7_priceBehind 82 = .ok (.iadd, 1) := by decide +kernel
theorem dX7_priceBehind_83 : decode cX7_priceBehind 83 = .ok (.istore 9, 2) := by decide +kernel
theorem dX7_priceBehind_85 : decode cX7_priceBehind 85 = .ok (.aload_n 0, 1) := by decide +kernel
theorem dX7_priceBehind_86 : decode cX7_priceBehind 86 = .ok (.getfield 32, 3) := by decide +kernel
theorem dX7_priceBehind_89 : decode cX7_priceBehind 89 = .ok (.iload_n 1, 1) := by decide +kernel
theorem dX7_priceBehind_90 : decode cX7_priceBehind 90 = .ok (.aaload, 1) := by decide +kernel
theorem dX7_priceBehind_91 : decode cX7_priceBehind 91 = .ok (.iload 9, 2) := by decide +kernel
theorem dX7_priceBehind_93 : decode cX7_priceBehind 93 = .ok (.iaload, 1) := by decide +kernel
theorem dX7_priceBehind_94 : decode cX7_priceBehind 94 = .ok (.aload 5, 2) := by decide +kernel
theorem dX7_priceBehind_96 : decode cX7_priceBehind 96 = .ok (.iload 8, 2) := by decide +kernel
theorem dX7_priceBehind_98 : decode cX7_priceBehind 98 = .ok (.iaload, 1) := by decide +kernel
theorem dX7_priceBehind_99 : decode cX7_priceBehind 99 = .ok (.iadd, 1) := by decide +kernel
theorem dX7_priceBehind_100 : decode cX7_priceBehind 100 = .ok (.istore 10, 2) := by decide +kernel
theorem dX7_priceBehind_102 : decode cX7_priceBehind 102 = .ok (.aload_n 0, 1) := by decide +kernel
theorem dX7_priceBehind_103 : decode cX7_priceBehind 103 = .ok (.getfield 32, 3) := by decide +kernel
theorem dX7_priceBehind_106 : decode cX7_priceBehind 106 = .ok (.iload_n 1, 1) := by decide +kernel
theorem dX7_priceBehind_107 : decode cX7_priceBehind 107 = .ok (.iconst 1, 1) := by decide +kernel
theorem dX7_priceBehind_108 : decode cX7_priceBehind 108 = .ok (.iadd, 1) := by decide +kernel
theorem dX7_priceBehind_109 : decode cX7_priceBehind 109 = .ok (.aaload, 1) := by decide +kernel
theorem dX7_priceBehind_110 : decode cX7_priceBehind 110 = .ok (.iload 9, 2) := by decide +kernel
theorem dX7_priceBehind_112 : decode cX7_priceBehind 112 = .ok (.iload 10, 2) := by decide +kernel
theorem dX7_priceBehind_114 : decode cX7_priceBehind 114 = .ok (.iastore, 1) := by decide +kernel
theorem dX7_priceBehind_115 : decode cX7_priceBehind 115 = .ok (.iload 6, 2) := by decide +kernel
theorem dX7_priceBehind_117 : decode cX7_priceBehind 117 = .ok (.iload 10, 2) := by decide +kernel
theorem dX7_priceBehind_119 : decode cX7_priceBehind 119 = .ok (.invokestatic 98, 3) := by decide +kernel
theorem dX7_priceBehind_122 : decode cX7_priceBehind 122 = .ok (.istore 6, 2) := by decide +kernel
theorem dX7_priceBehind_124 : decode cX7_priceBehind 124 = .ok (.iinc 7 1, 3) := by decide +kernel
theorem dX7_priceBehind_127 : decode cX7_priceBehind 127 = .ok (.goto (-85), 3) := by decide +kernel
theorem dX7_priceBehind_130 : decode cX7_priceBehind 130 = .ok (.iload_n 3, 1) := by decide +kernel
theorem dX7_priceBehind_131 : decode cX7_priceBehind 131 = .ok (.iload 6, 2) := by decide +kernel
theorem dX7_priceBehind_133 : decode cX7_priceBehind 133 = .ok (.iadd, 1) := by decide +kernel
theorem dX7_priceBehind_134 : decode cX7_priceBehind 134 = .ok (.istore_n 3, 1) := by decide +kernel
theorem dX7_priceBehind_135 : decode cX7_priceBehind 135 = .ok (.iinc 4 1, 3) := by decide +kernel
theorem dX7_priceBehind_138 : decode cX7_priceBehind 138 = .ok (.goto (-126), 3) := by decide +kernel
theorem dX7_priceBehind_141 : decode cX7_priceBehind 141 = .ok (.iload_n 3, 1) := by decide +kernel
theorem dX7_priceBehind_142 : decode cX7_priceBehind 142 = .ok (.ireturn, 1) := by decide +kernel
theorem dJ6_bitCount_0f7a4_0 : decode cJ6_bitCount_0f7a4 0 = .ok (.iload_n 0, 1) := by decide +kernel
theorem dJ6_bitCount_0f7a4_1 : decode cJ6_bitCount_0f7a4 1 = .ok (.iload_n 0, 1) := by decide +kernel
theorem dJ6_bitCount_0f7a4_2 : decode cJ6_bitCount_0f7a4 2 = .ok (.iconst 1, 1) := by decide +kernel
theorem dJ6_bitCount_0f7a4_3 : decode cJ6_bitCount_0f7a4 3 = .ok (.iushr, 1) := by decide +kernel
theorem dJ6_bitCount_0f7a4_4 : decode cJ6_bitCount_0f7a4 4 = .ok (.ldc_w 265, 3) := by decide +kernel
theorem dJ6_bitCount_0f7a4_7 : decode cJ6_bitCount_0f7a4 7 = .ok (.iand, 1) := by decide +kernel
theorem dJ6_bitCount_0f7a4_8 : decode cJ6_bitCount_0f7a4 8 = .ok (.isub, 1) := by decide +kernel
theorem dJ6_bitCount_0f7a4_9 : decode cJ6_bitCount_0f7a4 9 = .ok (.istore_n 0, 1) := by decide +kernel
theorem dJ6_bitCount_0f7a4_10 : decode cJ6_bitCount_0f7a4 10 = .ok (.iload_n 0, 1) := by decide +kernel
theorem dJ6_bitCount_0f7a4_11 : decode cJ6_bitCount_0f7a4 11 = .ok (.ldc_w 266, 3) := by decide +kernel
theorem dJ6_bitCount_0f7a4_14 : decode cJ6_bitCount_0f7a4 14 = .ok (.iand, 1) := by decide +kernel
theorem dJ6_bitCount_0f7a4_15 : decode cJ6_bitCount_0f7a4 15 = .ok (.iload_n 0, 1) := by decide +kernel
theorem dJ6_bitCount_0f7a4_16 : decode cJ6_bitCount_0f7a4 16 = .ok (.iconst 2, 1) := by decide +kernel
theorem dJ6_bitCount_0f7a4_17 : decode cJ6_bitCount_0f7a4 17 = .ok (.iushr, 1) := by decide +kernel
theorem dJ6_bitCount_0f7a4_18 : decode cJ6_bitCount_0f7a4 18 = .ok (.ldc_w 266, 3) := by decide +kernel
theorem dJ6_bitCount_0f7a4_21 : decode cJ6_bitCount_0f7a4 21 = .ok (.iand, 1) := by decide +kernel
theorem dJ6_bitCount_0f7a4_22 : decode cJ6_bitCount_0f7a4 22 = .ok (.iadd, 1) := by decide +kernel
theorem dJ6_bitCount_0f7a4_23 : decode cJ6_bitCount_0f7a4 23 = .ok (.istore_n 0, 1) := by decide +kernel
theorem dJ6_bitCount_0f7a4_24 : decode cJ6_bitCount_0f7a4 24 = .ok (.iload_n 0, 1) := by decide +kernel
theorem dJ6_bitCount_0f7a4_25 : decode cJ6_bitCount_0f7a4 25 = .ok (.iload_n 0, 1) := by decide +kernel
theorem dJ6_bitCount_0f7a4_26 : decode cJ6_bitCount_0f7a4 26 = .ok (.iconst 4, 1) := by decide +kernel
theorem dJ6_bitCount_0f7a4_27 : decode cJ6_bitCount_0f7a4 27 = .ok (.iushr, 1) := by decide +kernel
theorem dJ6_bitCount_0f7a4_28 : decode cJ6_bitCount_0f7a4 28 = .ok (.iadd, 1) := by decide +kernel
theorem dJ6_bitCount_0f7a4_29 : decode cJ6_bitCount_0f7a4 29 = .ok (.ldc_w 267, 3) := by decide +kernel
theorem dJ6_bitCount_0f7a4_32 : decode cJ6_bitCount_0f7a4 32 = .ok (.iand, 1) := by decide +kernel
theorem dJ6_bitCount_0f7a4_33 : decode cJ6_bitCount_0f7a4 33 = .ok (.istore_n 0, 1) := by decide +kernel
theorem dJ6_bitCount_0f7a4_34 : decode cJ6_bitCount_0f7a4 34 = .ok (.iload_n 0, 1) := by decide +kernel
theorem dJ6_bitCount_0f7a4_35 : decode cJ6_bitCount_0f7a4 35 = .ok (.iload_n 0, 1) := by decide +kernel
theorem dJ6_bitCount_0f7a4_36 : decode cJ6_bitCount_0f7a4 36 = .ok (.bipush 8, 2) := by decide +kernel
theorem dJ6_bitCount_0f7a4_38 : decode cJ6_bitCount_0f7a4 38 = .ok (.iushr, 1) := by decide +kernel
theorem dJ6_bitCount_0f7a4_39 : decode cJ6_bitCount_0f7a4 39 = .ok (.iadd, 1) := by decide +kernel
theorem dJ6_bitCount_0f7a4_40 : decode cJ6_bitCount_0f7a4 40 = .ok (.istore_n 0, 1) := by decide +kernel
theorem dJ6_bitCount_0f7a4_41 : decode cJ6_bitCount_0f7a4 41 = .ok (.iload_n 0, 1) := by decide +kernel
theorem dJ6_bitCount_0f7a4_42 : decode cJ6_bitCount_0f7a4 42 = .ok (.iload_n 0, 1) := by decide +kernel
theorem dJ6_bitCount_0f7a4_43 : decode cJ6_bitCount_0f7a4 43 = .ok (.bipush 16, 2) := by decide +kernel
theorem dJ6_bitCount_0f7a4_45 : decode cJ6_bitCount_0f7a4 45 = .ok (.iushr, 1) := by decide +kernel
theorem dJ6_bitCount_0f7a4_46 : decode cJ6_bitCount_0f7a4 46 = .ok (.iadd, 1) := by decide +kernel
theorem dJ6_bitCount_0f7a4_47 : decode cJ6_bitCount_0f7a4 47 = .ok (.istore_n 0, 1) := by decide +kernel
theorem dJ6_bitCount_0f7a4_48 : decode cJ6_bitCount_0f7a4 48 = .ok (.iload_n 0, 1) := by decide +kernel
theorem dJ6_bitCount_0f7a4_49 : decode cJ6_bitCount_0f7a4 49 = .ok (.bipush 63, 2) := by decide +kernel
theorem dJ6_bitCount_0f7a4_51 : decode cJ6_bitCount_0f7a4 51 = .ok (.iand, 1) := by decide +kernel
theorem dJ6_bitCount_0f7a4_52 : decode cJ6_bitCount_0f7a4 52 = .ok (.ireturn, 1) := by decide +kernel
theorem dJ9_floorDiv_7cf53_0 : decode cJ9_floorDiv_7cf53 0 = .ok (.iload_n 0, 1) := by decide +kernel
theorem dJ9_floorDiv_7cf53_1 : decode cJ9_floorDiv_7cf53 1 = .ok (.iload_n 1, 1) := by decide +kernel
theorem dJ9_floorDiv_7cf53_2 : decode cJ9_floorDiv_7cf53 2 = .ok (.idiv, 1) := by decide +kernel
theorem dJ9_floorDiv_7cf53_3 : decode cJ9_floorDiv_7cf53 3 = .ok (.istore_n 2, 1) := by decide +kernel
theorem dJ9_floorDiv_7cf53_4 : decode cJ9_floorDiv_7cf53 4 = .ok (.iload_n 0, 1) := by decide +kernel
theorem dJ9_floorDiv_7cf53_5 : decode cJ9_floorDiv_7cf53 5 = .ok (.iload_n 1, 1) := by decide +kernel
theorem dJ9_floorDiv_7cf53_6 : decode cJ9_floorDiv_7cf53 6 = .ok (.ixor, 1) := by decide +kernel
theorem dJ9_floorDiv_7cf53_7 : decode cJ9_floorDiv_7cf53 7 = .ok (.ifCond .ge 14, 3) := by decide +kernel
theorem dJ9_floorDiv_7cf53_10 : decode cJ9_floorDiv_7cf53 10 = .ok (.iload_n 2, 1) := by decide +kernel
theorem dJ9_floorDiv_7cf53_11 : decode cJ9_floorDiv_7cf53 11 = .ok (.iload_n 1, 1) := by decide +kernel
theorem dJ9_floorDiv_7cf53_12 : decode cJ9_floorDiv_7cf53 12 = .ok (.imul, 1) := by decide +kernel
theorem dJ9_floorDiv_7cf53_13 : decode cJ9_floorDiv_7cf53 13 = .ok (.iload_n 0, 1) := by decide +kernel
theorem dJ9_floorDiv_7cf53_14 : decode cJ9_floorDiv_7cf53 14 = .ok (.if_icmp .eq 7, 3) := by decide +kernel
theorem dJ9_floorDiv_7cf53_17 : decode cJ9_floorDiv_7cf53 17 = .ok (.iload_n 2, 1) := by decide +kernel
theorem dJ9_floorDiv_7cf53_18 : decode cJ9_floorDiv_7cf53 18 = .ok (.iconst 1, 1) := by decide +kernel
theorem dJ9_floorDiv_7cf53_19 : decode cJ9_floorDiv_7cf53 19 = .ok (.isub, 1) := by decide +kernel
theorem dJ9_floorDiv_7cf53_20 : decode cJ9_floorDiv_7cf53 20 = .ok (.ireturn, 1) := by decide +kernel
theorem dJ9_floorDiv_7cf53_21 : decode cJ9_floorDiv_7cf53 21 = .ok (.iload_n 2, 1) := by decide +kernel
theorem dJ9_floorDiv_7cf53_22 : decode cJ9_floorDiv_7cf53 22 = .ok (.ireturn, 1) := by decide +kernel
theorem dJ9_max_7cf53_0 : decode cJ9_max_7cf53 0 = .ok (.iload_n 0, 1) := by decide +kernel
theorem dJ9_max_7cf53_1 : decode cJ9_max_7cf53 1 = .ok (.iload_n 1, 1) := by decide +kernel
theorem dJ9_max_7cf53_2 : decode cJ9_max_7cf53 2 = .ok (.if_icmp .lt 7, 3) := by decide +kernel
theorem dJ9_max_7cf53_5 : decode cJ9_max_7cf53 5 = .ok (.iload_n 0, 1) := by decide +kernel
theorem dJ9_max_7cf53_6 : decode cJ9_max_7cf53 6 = .ok (.goto 4, 3) := by decide +kernel
theorem dJ9_max_7cf53_9 : decode cJ9_max_7cf53 9 = .ok (.iload_n 1, 1) := by decide +kernel
theorem dJ9_max_7cf53_10 : decode cJ9_max_7cf53 10 = .ok (.ireturn, 1) := by decide +kernel
theorem dJ9_min_7cf53_0 : decode cJ9_min_7cf53 0 = .ok (.iload_n 0, 1) := by decide +kernel
theorem dJ9_min_7cf53_1 : decode cJ9_min_7cf53 1 = .ok (.iload_n 1, 1) := by decide +kernel
theorem dJ9_min_7cf53_2 : decode cJ9_min_7cf53 2 = .ok (.if_icmp .gt 7, 3) := by decide +kernel
theorem dJ9_min_7cf53_5 : decode cJ9_min_7cf53 5 = .ok (.iload_n 0, 1) := by decide +kernel
theorem dJ9_min_7cf53_6 : decode cJ9_min_7cf53 6 = .ok (.goto 4, 3) := by decide +kernel
theorem dJ9_min_7cf53_9 : decode cJ9_min_7cf53 9 = .ok (.iload_n 1, 1) := by decide +kernel
theorem dJ9_min_7cf53_10 : decode cJ9_min_7cf53 10 = .ok (.ireturn, 1) := by decide +kernel
theorem dJ0_length_8abf5_0 : decode cJ0_length_8abf5 0 = .ok (.aload_n 0, 1) := by decide +kernel
theorem dJ0_length_8abf5_1 : decode cJ0_length_8abf5 1 = .ok (.getfield 9, 3) := by decide +kernel
theorem dJ0_length_8abf5_4 : decode cJ0_length_8abf5 4 = .ok (.arraylength, 1) := by decide +kernel
theorem dJ0_length_8abf5_5 : decode cJ0_length_8abf5 5 = .ok (.aload_n 0, 1) := by decide +kernel
theorem dJ0_length_8abf5_6 : decode cJ0_length_8abf5 6 = .ok (.invokevirtual 335, 3) := by decide +kernel
theorem dJ0_length_8abf5_9 : decode cJ0_length_8abf5 9 = .ok (.ishr, 1) := by decide +kernel
theorem dJ0_length_8abf5_10 : decode cJ0_length_8abf5 10 = .ok (.ireturn, 1) := by decide +kernel
theorem dJ0_charAt_5068e_0 : decode cJ0_charAt_5068e 0 = .ok (.aload_n 0, 1) := by decide +kernel
theorem dJ0_charAt_5068e_1 : decode cJ0_charAt_5068e 1 = .ok (.invokevirtual 492, 3) := by decide +kernel
theorem dJ0_charAt_5068e_4 : decode cJ0_charAt_5068e 4 = .ok (.ifCond .eq 12, 3) := by decide +kernel
theorem dJ0_charAt_5068e_7 : decode cJ0_charAt_5068e 7 = .ok (.aload_n 0, 1) := by decide +kernel
theorem dJ0_charAt_5068e_8 : decode cJ0_charAt_5068e 8 = .ok (.getfield 9, 3) := by decide +kernel
theorem dJ0_charAt_5068e_11 : decode cJ0_charAt_5068e 11 = .ok (.iload_n 1, 1) := by decide +kernel
theorem dJ0_charAt_5068e_12 : decode cJ0_charAt_5068e 12 = .ok (.invokestatic 495, 3) := by decide +kernel
theorem dJ0_charAt_5068e_15 : decode cJ0_charAt_5068e 15 = .ok (.ireturn, 1) := by decide +kernel
theorem dJ0_charAt_5068e_16 : decode cJ0_charAt_5068e 16 = .ok (.aload_n 0, 1) := by decide +kernel
theorem dJ0_charAt_5068e_17 : decode cJ0_charAt_5068e 17 = .ok (.getfield 9, 3) := by decide +kernel
theorem dJ0_charAt_5068e_20 : decode cJ0_charAt_5068e 20 = .ok (.iload_n 1, 1) := by decide +kernel
theorem dJ0_charAt_5068e_21 : decode cJ0_charAt_5068e 21 = .ok (.invokestatic 498, 3) := by decide +kernel
theorem dJ0_charAt_5068e_24 : decode cJ0_charAt_5068e 24 = .ok (.ireturn, 1) := by decide +kernel
theorem dJ0_coder_7d493_0 : decode cJ0_coder_7d493 0 = .ok (.getstatic 38, 3) := by decide +kernel
theorem dJ0_coder_7d493_3 : decode cJ0_coder_7d493 3 = .ok (.ifCond .eq 10, 3) := by decide +kernel
theorem dJ0_coder_7d493_6 : decode cJ0_coder_7d493 6 = .ok (.aload_n 0, 1) := by decide +kernel
theorem dJ0_coder_7d493_7 : decode cJ0_coder_7d493 7 = .ok (.getfield 15, 3) := by decide +kernel
theorem dJ0_coder_7d493_10 : decode cJ0_coder_7d493 10 = .ok (.goto 4, 3) := by decide +kernel
theorem dJ0_coder_7d493_13 : decode cJ0_coder_7d493 13 = .ok (.iconst 1, 1) := by decide +kernel
theorem dJ0_coder_7d493_14 : decode cJ0_coder_7d493 14 = .ok (.ireturn, 1) := by decide +kernel
theorem dJ0_isLatin1_aae02_0 : decode cJ0_isLatin1_aae02 0 = .ok (.getstatic 38, 3) := by decide +kernel
theorem dJ0_isLatin1_aae02_3 : decode cJ0_isLatin1_aae02 3 = .ok (.ifCond .eq 14, 3) := by decide +kernel
theorem dJ0_isLatin1_aae02_6 : decode cJ0_isLatin1_aae02 6 = .ok (.aload_n 0, 1) := by decide +kernel
theorem dJ0_isLatin1_aae02_7 : decode cJ0_isLatin1_aae02 7 = .ok (.getfield 15, 3) := by decide +kernel
theorem dJ0_isLatin1_aae02_10 : decode cJ0_isLatin1_aae02 10 = .ok (.ifCond .ne 7, 3) := by decide +kernel
theorem dJ0_isLatin1_aae02_13 : decode cJ0_isLatin1_aae02 13 = .ok (.iconst 1, 1) := by decide +kernel
theorem dJ0_isLatin1_aae02_14 : decode cJ0_isLatin1_aae02 14 = .ok (.goto 4, 3) := by decide +kernel
theorem dJ0_isLatin1_aae02_17 : decode cJ0_isLatin1_aae02 17 = .ok (.iconst 0, 1) := by decide +kernel
theorem dJ0_isLatin1_aae02_18 : decode cJ0_isLatin1_aae02 18 = .ok (.ireturn, 1) := by decide +kernel
theorem dJ0_checkIndex_df160_0 : decode cJ0_checkIndex_df160 0 = .ok (.iload_n 0, 1) := by decide +kernel
theorem dJ0_checkIndex_df160_1 : decode cJ0_checkIndex_df160 1 = .ok (.iload_n 1, 1) := by decide +kernel
theorem dJ0_checkIndex_df160_2 : decode cJ0_checkIndex_df160 2 = .ok (.getstatic 1053, 3) := by decide +kernel
theorem dJ0_checkIndex_df160_5 : decode cJ0_checkIndex_df160 5 = .ok (.invokestatic 1059, 3) := by decide +kernel
theorem dJ0_checkIndex_df160_8 : decode cJ0_checkIndex_df160 8 = .ok (.pop, 1) := by decide +kernel
theorem dJ0_checkIndex_df160_9 : decode cJ0_checkIndex_df160 9 = .ok (.return_, 1) := by decide +kernel
theorem dJ1_charAt_3b067_0 : decode cJ1_charAt_3b067 0 = .ok (.iload_n 1, 1) := by decide +kernel
theorem dJ1_charAt_3b067_1 : decode cJ1_charAt_3b067 1 = .ok (.aload_n 0, 1) := by decide +kernel
theorem dJ1_charAt_3b067_2 : decode cJ1_charAt_3b067 2 = .ok (.arraylength, 1) := by decide +kernel
theorem dJ1_charAt_3b067_3 : decode cJ1_charAt_3b067 3 = .ok (.invokestatic 9, 3) := by decide +kernel
theorem dJ1_charAt_3b067_6 : decode cJ1_charAt_3b067 6 = .ok (.aload_n 0, 1) := by decide +kernel
theorem dJ1_charAt_3b067_7 : decode cJ1_charAt_3b067 7 = .ok (.iload_n 1, 1) := by decide +kernel
theorem dJ1_charAt_3b067_8 : decode cJ1_charAt_3b067 8 = .ok (.baload, 1) := by decide +kernel
theorem dJ1_charAt_3b067_9 : decode cJ1_charAt_3b067 9 = .ok (.sipush 255, 3) := by decide +kernel
theorem dJ1_charAt_3b067_12 : decode cJ1_charAt_3b067 12 = .ok (.iand, 1) := by decide +kernel
theorem dJ1_charAt_3b067_13 : decode cJ1_charAt_3b067 13 = .ok (.i2c, 1) := by decide +kernel
theorem dJ1_charAt_3b067_14 : decode cJ1_charAt_3b067 14 = .ok (.ireturn, 1) := by decide +kernel
theorem dJ2_getChar_3b067_0 : decode cJ2_getChar_3b067 0 = .ok (.getstatic 44, 3) := by decide +kernel
theorem dJ2_getChar_3b067_3 : decode cJ2_getChar_3b067 3 = .ok (.ifCond .ne 25, 3) := by decide +kernel
theorem dJ2_getChar_3b067_6 : decode cJ2_getChar_3b067 6 = .ok (.iload_n 1, 1) := by decide +kernel
theorem dJ2_getChar_3b067_7 : decode cJ2_getChar_3b067 7 = .ok (.ifCond .lt 11, 3) := by decide +kernel
theorem dJ2_getChar_3b067_10 : decode cJ2_getChar_3b067 10 = .ok (.iload_n 1, 1) := by decide +kernel
theorem dJ2_getChar_3b067_11 : decode cJ2_getChar_3b067 11 = .ok (.aload_n 0, 1) := by decide +kernel
theorem dJ2_getChar_3b067_12 : decode cJ2_getChar_3b067 12 = .ok (.invokestatic 48, 3) := by decide +kernel
theorem dJ2_getChar_3b067_15 : decode cJ2_getChar_3b067 15 = .ok (.if_icmp .lt 13, 3) := by decide +kernel
theorem dJ2_getChar_3b067_18 : decode cJ2_getChar_3b067 18 = .ok (.new 52, 3) := by decide +kernel
theorem dJ2_getChar_3b067_21 : decode cJ2_getChar_3b067 21 = .ok (.dup, 1) := by decide +kernel
theorem dJ2_getChar_3b067_22 : decode cJ2_getChar_3b067 22 = .ok (.ldc 54, 2) := by decide +kernel
theorem dJ2_getChar_3b067_24 : decode cJ2_getChar_3b067 24 = .ok (.invokespecial 56, 3) := by decide +kernel
theorem dJ2_getChar_3b067_27 : decode cJ2_getChar_3b067 27 = .ok (.athrow, 1) := by decide +kernel
theorem dJ2_getChar_3b067_28 : decode cJ2_getChar_3b067 28 = .ok (.iload_n 1, 1) := by decide +kernel
theorem dJ2_getChar_3b067_29 : decode cJ2_getChar_3b067 29 = .ok (.iconst 1, 1) := by decide +kernel
theorem dJ2_getChar_3b067_30 : decode cJ2_getChar_3b067 30 = .ok (.ishl, 1) := by decide +kernel
theorem dJ2_getChar_3b067_31 : decode cJ2_getChar_3b067 31 = .ok (.istore_n 1, 1) := by decide +kernel
theorem dJ2_getChar_3b067_32 : decode cJ2_getChar_3b067 32 = .ok (.aload_n 0, 1) := by decide +kernel
theorem dJ2_getChar_3b067_33 : decode cJ2_getChar_3b067 33 = .ok (.iload_n 1, 1) := by decide +kernel
theorem dJ2_getChar_3b067_34 : decode cJ2_getChar_3b067 34 = .ok (.iinc 1 1, 3) := by decide +kernel
theorem dJ2_getChar_3b067_37 : decode cJ2_getChar_3b067 37 = .ok (.baload, 1) := by decide +kernel
theorem dJ2_getChar_3b067_38 : decode cJ2_getChar_3b067 38 = .ok (.sipush 255, 3) := by decide +kernel
theorem dJ2_getChar_3b067_41 : decode cJ2_getChar_3b067 41 = .ok (.iand, 1) := by decide +kernel
theorem dJ2_getChar_3b067_42 : decode cJ2_getChar_3b067 42 = .ok (.getstatic 59, 3) := by decide +kernel
theorem dJ2_getChar_3b067_45 : decode cJ2_getChar_3b067 45 = .ok (.ishl, 1) := by decide +kernel
theorem dJ2_getChar_3b067_46 : decode cJ2_getChar_3b067 46 = .ok (.aload_n 0, 1) := by decide +kernel
theorem dJ2_getChar_3b067_47 : decode cJ2_getChar_3b067 47 = .ok (.iload_n 1, 1) := by decide +kernel
theorem dJ2_getChar_3b067_48 : decode cJ2_getChar_3b067 48 = .ok (.baload, 1) := by decide +kernel
theorem dJ2_getChar_3b067_49 : decode cJ2_getChar_3b067 49 = .ok (.sipush 255, 3) := by decide +kernel
theorem dJ2_getChar_3b067_52 : decode cJ2_getChar_3b067 52 = .ok (.iand, 1) := by decide +kernel
theorem dJ2_getChar_3b067_53 : decode cJ2_getChar_3b067 53 = .ok (.getstatic 63, 3) := by decide +kernel
theorem dJ2_getChar_3b067_56 : decode cJ2_getChar_3b067 56 = .ok (.ishl, 1) := by decide +kernel
theorem dJ2_getChar_3b067_57 : decode cJ2_getChar_3b067 57 = .ok (.ior, 1) := by decide +kernel
theorem dJ2_getChar_3b067_58 : decode cJ2_getChar_3b067 58 = .ok (.i2c, 1) := by decide +kernel
theorem dJ2_getChar_3b067_59 : decode cJ2_getChar_3b067 59 = .ok (.ireturn, 1) := by decide +kernel
theorem dJ2_length_9d52b_0 : decode cJ2_length_9d52b 0 = .ok (.aload_n 0, 1) := by decide +kernel
theorem dJ2_length_9d52b_1 : decode cJ2_length_9d52b 1 = .ok (.arraylength, 1) := by decide +kernel
theorem dJ2_length_9d52b_2 : decode cJ2_length_9d52b 2 = .ok (.iconst 1, 1) := by decide +kernel
theorem dJ2_length_9d52b_3 : decode cJ2_length_9d52b 3 = .ok (.ishr, 1) := by decide +kernel
theorem dJ2_length_9d52b_4 : decode cJ2_length_9d52b 4 = .ok (.ireturn, 1) := by decide +kernel
theorem dJ2_charAt_3b067_0 : decode cJ2_charAt_3b067 0 = .ok (.iload_n 1, 1) := by decide +kernel
theorem dJ2_charAt_3b067_1 : decode cJ2_charAt_3b067 1 = .ok (.aload_n 0, 1) := by decide +kernel
theorem dJ2_charAt_3b067_2 : decode cJ2_charAt_3b067 2 = .ok (.invokestatic 67, 3) := by decide +kernel
theorem dJ2_charAt_3b067_5 : decode cJ2_charAt_3b067 5 = .ok (.aload_n 0, 1) := by decide +kernel
theorem dJ2_charAt_3b067_6 : decode cJ2_charAt_3b067 6 = .ok (.iload_n 1, 1) := by decide +kernel
theorem dJ2_charAt_3b067_7 : decode cJ2_charAt_3b067 7 = .ok (.invokestatic 71, 3) := by decide +kernel
theorem dJ2_charAt_3b067_10 : decode cJ2_charAt_3b067 10 = .ok (.ireturn, 1) := by decide +kernel
theorem dJ2_checkIndex_2214a_0 : decode cJ2_checkIndex_2214a 0 = .ok (.iload_n 0, 1) := by decide +kernel
theorem dJ2_checkIndex_2214a_1 : decode cJ2_checkIndex_2214a 1 = .ok (.aload_n 1, 1) := by decide +kernel
theorem dJ2_checkIndex_2214a_2 : decode cJ2_checkIndex_2214a 2 = .ok (.invokestatic 48, 3) := by decide +kernel
theorem dJ2_checkIndex_2214a_5 : decode cJ2_checkIndex_2214a 5 = .ok (.invokestatic 414, 3) := by decide +kernel
theorem dJ2_checkIndex_2214a_8 : decode cJ2_checkIndex_2214a 8 = .ok (.return_, 1) := by decide +kernel
theorem dJ3_checkIndex_8e157_0 : decode cJ3_checkIndex_8e157 0 = .ok (.iload_n 0, 1) := by decide +kernel
theorem dJ3_checkIndex_8e157_1 : decode cJ3_checkIndex_8e157 1 = .ok (.ifCond .lt 8, 3) := by decide +kernel
theorem dJ3_checkIndex_8e157_4 : decode cJ3_checkIndex_8e157 4 = .ok (.iload_n 0, 1) := by decide +kernel
theorem dJ3_checkIndex_8e157_5 : decode cJ3_checkIndex_8e157 5 = .ok (.iload_n 1, 1) := by decide +kernel
theorem dJ3_checkIndex_8e157_6 : decode cJ3_checkIndex_8e157 6 = .ok (.if_icmp .lt 10, 3) := by decide +kernel
theorem dJ3_checkIndex_8e157_9 : decode cJ3_checkIndex_8e157 9 = .ok (.aload_n 2, 1) := by decide +kernel
theorem dJ3_checkIndex_8e157_10 : decode cJ3_checkIndex_8e157 10 = .ok (.iload_n 0, 1) := by decide +kernel
theorem dJ3_checkIndex_8e157_11 : decode cJ3_checkIndex_8e157 11 = .ok (.iload_n 1, 1) := by decide +kernel
theorem dJ3_checkIndex_8e157_12 : decode cJ3_checkIndex_8e157 12 = .ok (.invokestatic 95, 3) := by decide +kernel
theorem dJ3_checkIndex_8e157_15 : decode cJ3_checkIndex_8e157 15 = .ok (.athrow, 1) := by decide +kernel
theorem dJ3_checkIndex_8e157_16 : decode cJ3_checkIndex_8e157 16 = .ok (.iload_n 0, 1) := by decide +kernel
theorem dJ3_checkIndex_8e157_17 : decode cJ3_checkIndex_8e157 17 = .ok (.ireturn, 1) := by decide +kernel
