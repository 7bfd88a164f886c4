theorem dX9_init_0 : decode cX9_init 0 = .ok (.aload_n 0, 1) := by decide +kernel
theorem dX9_init_1 : decode cX9_init 1 = .ok (.invokespecial 1, 3) := by decide +kernel
theorem dX9_init_4 : decode cX9_init 4 = .ok (.aload_n 0, 1) := by decide +kernel
theorem dX9_init_5 : decode cX9_init 5 = .ok (.bipush 91, 2) := by decide +kernel
theorem dX9_init_7 : decode cX9_init 7 = .ok (.newarray .int, 2) := by decide +kernel
theorem dX9_init_9 : decode cX9_init 9 = .ok (.putfield 7, 3) := by decide +kernel
theorem dX9_init_12 : decode cX9_init 12 = .ok (.aload_n 0, 1) := by decide +kernel
theorem dX9_init_13 : decode cX9_init 13 = .ok (.bipush 91, 2) := by decide +kernel
theorem dX9_init_15 : decode cX9_init 15 = .ok (.newarray .int, 2) := by decide +kernel
theorem dX9_init_17 : decode cX9_init 17 = .ok (.putfield 13, 3) := by decide +kernel
theorem dX9_init_20 : decode cX9_init 20 = .ok (.aload_n 0, 1) := by decide +kernel
theorem dX9_init_21 : decode cX9_init 21 = .ok (.sipush 910, 3) := by decide +kernel
theorem dX9_init_24 : decode cX9_init 24 = .ok (.newarray .int, 2) := by decide +kernel
theorem dX9_init_26 : decode cX9_init 26 = .ok (.putfield 16, 3) := by decide +kernel
theorem dX9_init_29 : decode cX9_init 29 = .ok (.aload_n 0, 1) := by decide +kernel
theorem dX9_init_30 : decode cX9_init 30 = .ok (.sipush 500, 3) := by decide +kernel
theorem dX9_init_33 : decode cX9_init 33 = .ok (.newarray .int, 2) := by decide +kernel
theorem dX9_init_35 : decode cX9_init 35 = .ok (.putfield 19, 3) := by decide +kernel
theorem dX9_init_38 : decode cX9_init 38 = .ok (.aload_n 0, 1) := by decide +kernel
theorem dX9_init_39 : decode cX9_init 39 = .ok (.iconst (-1), 1) := by decide +kernel
theorem dX9_init_40 : decode cX9_init 40 = .ok (.putfield 22, 3) := by decide +kernel
theorem dX9_init_43 : decode cX9_init 43 = .ok (.aload_n 0, 1) := by decide +kernel
theorem dX9_init_44 : decode cX9_init 44 = .ok (.bipush 36, 2) := by decide +kernel
theorem dX9_init_46 : decode cX9_init 46 = .ok (.newarray .int, 2) := by decide +kernel
theorem dX9_init_48 : decode cX9_init 48 = .ok (.putfield 26, 3) := by decide +kernel
theorem dX9_init_51 : decode cX9_init 51 = .ok (.aload_n 0, 1) := by decide +kernel
theorem dX9_init_52 : decode cX9_init 52 = .ok (.bipush 14, 2) := by decide +kernel
theorem dX9_init_54 : decode cX9_init 54 = .ok (.newarray .boolean, 2) := by decide +kernel
theorem dX9_init_56 : decode cX9_init 56 = .ok (.putfield 29, 3) := by decide +kernel
theorem dX9_init_59 : decode cX9_init 59 = .ok (.aload_n 0, 1) := by decide +kernel
theorem dX9_init_60 : decode cX9_init 60 = .ok (.bipush 6, 2) := by decide +kernel
theorem dX9_init_62 : decode cX9_init 62 = .ok (.newarray .int, 2) := by decide +kernel
theorem dX9_init_64 : decode cX9_init 64 = .ok (.putfield 33, 3) := by decide +kernel
theorem dX9_init_67 : decode cX9_init 67 = .ok (.aload_n 0, 1) := by decide +kernel
theorem dX9_init_68 : decode cX9_init 68 = .ok (.bipush 14, 2) := by decide +kernel
theorem dX9_init_70 : decode cX9_init 70 = .ok (.newarray .int, 2) := by decide +kernel
theorem dX9_init_72 : decode cX9_init 72 = .ok (.putfield 36, 3) := by decide +kernel
theorem dX9_init_75 : decode cX9_init 75 = .ok (.aload_n 0, 1) := by decide +kernel
theorem dX9_init_76 : decode cX9_init 76 = .ok (.bipush 8, 2) := by decide +kernel
theorem dX9_init_78 : decode cX9_init 78 = .ok (.newarray .int, 2) := by decide +kernel
theorem dX9_init_80 : decode cX9_init 80 = .ok (.putfield 39, 3) := by decide +kernel
theorem dX9_init_83 : decode cX9_init 83 = .ok (.aload_n 0, 1) := by decide +kernel
theorem dX9_init_84 : decode cX9_init 84 = .ok (.bipush 8, 2) := by decide +kernel
theorem dX9_init_86 : decode cX9_init 86 = .ok (.newarray .boolean, 2) := by decide +kernel
theorem dX9_init_88 : decode cX9_init 88 = .ok (.putfield 42, 3) := by decide +kernel
theorem dX9_init_91 : decode cX9_init 91 = .ok (.aload_n 0, 1) := by decide +kernel
theorem dX9_init_92 : decode cX9_init 92 = .ok (.bipush 6, 2) := by decide +kernel
theorem dX9_init_94 : decode cX9_init 94 = .ok (.newarray .int, 2) := by decide +kernel
theorem dX9_init_96 : decode cX9_init 96 = .ok (.putfield 45, 3) := by decide +kernel
theorem dX9_init_99 : decode cX9_init 99 = .ok (.aload_n 0, 1) := by decide +kernel
theorem dX9_init_100 : decode cX9_init 100 = .ok (.bipush 6, 2) := by decide +kernel
theorem dX9_init_102 : decode cX9_init 102 = .ok (.newarray .int, 2) := by decide +kernel
theorem dX9_init_104 : decode cX9_init 104 = .ok (.putfield 48, 3) := by decide +kernel
theorem dX9_init_107 : decode cX9_init 107 = .ok (.aload_n 0, 1) := by decide +kernel
theorem dX9_init_108 : decode cX9_init 108 = .ok (.sipush 160, 3) := by decide +kernel
theorem dX9_init_111 : decode cX9_init 111 = .ok (.newarray .int, 2) := by decide +kernel
theorem dX9_init_113 : decode cX9_init 113 = .ok (.putfield 51, 3) := by decide +kernel
theorem dX9_init_116 : decode cX9_init 116 = .ok (.aload_n 0, 1) := by decide +kernel
theorem dX9_init_117 : decode cX9_init 117 = .ok (.getfield 7, 3) := by decide +kernel
theorem dX9_init_120 : decode cX9_init 120 = .ok (.iconst 0, 1) := by decide +kernel
theorem dX9_init_121 : decode cX9_init 121 = .ok (.bipush 12, 2) := by decide +kernel
theorem dX9_init_123 : decode cX9_init 123 = .ok (.iastore, 1) := by decide +kernel
theorem dX9_init_124 : decode cX9_init 124 = .ok (.return_, 1) := by decide +kernel
theorem dX9_thrown_0 : decode cX9_thrown 0 = .ok (.aload_n 0, 1) := by decide +kernel
theorem dX9_thrown_1 : decode cX9_thrown 1 = .ok (.getfield 54, 3) := by decide +kernel
theorem dX9_thrown_4 : decode cX9_thrown 4 = .ok (.ireturn, 1) := by decide +kernel
theorem dX9_isIn_0 : decode cX9_isIn 0 = .ok (.iload_n 0, 1) := by decide +kernel
theorem dX9_isIn_1 : decode cX9_isIn 1 = .ok (.iload_n 1, 1) := by decide +kernel
theorem dX9_isIn_2 : decode cX9_isIn 2 = .ok (.if_icmp .lt 12, 3) := by decide +kernel
theorem dX9_isIn_5 : decode cX9_isIn 5 = .ok (.iload_n 0, 1) := by decide +kernel
theorem dX9_isIn_6 : decode cX9_isIn 6 = .ok (.iload_n 2, 1) := by decide +kernel
theorem dX9_isIn_7 : decode cX9_isIn 7 = .ok (.if_icmp .gt 7, 3) := by decide +kernel
theorem dX9_isIn_10 : decode cX9_isIn 10 = .ok (.iconst 1, 1) := by decide +kernel
theorem dX9_isIn_11 : decode cX9_isIn 11 = .ok (.goto 4, 3) := by decide +kernel
theorem dX9_isIn_14 : decode cX9_isIn 14 = .ok (.iconst 0, 1) := by decide +kernel
theorem dX9_isIn_15 : decode cX9_isIn 15 = .ok (.ireturn, 1) := by decide +kernel
theorem dX9_good_0 : decode cX9_good 0 = .ok (.aload_n 0, 1) := by decide +kernel
theorem dX9_good_1 : decode cX9_good 1 = .ok (.iload_n 1, 1) := by decide +kernel
theorem dX9_good_2 : decode cX9_good 2 = .ok (.ifCond .eq 7, 3) := by decide +kernel
theorem dX9_good_5 : decode cX9_good 5 = .ok (.iconst 0, 1) := by decide +kernel
theorem dX9_good_6 : decode cX9_good 6 = .ok (.goto 4, 3) := by decide +kernel
theorem dX9_good_9 : decode cX9_good 9 = .ok (.iconst 1, 1) := by decide +kernel
theorem dX9_good_10 : decode cX9_good 10 = .ok (.putfield 54, 3) := by decide +kernel
theorem dX9_good_13 : decode cX9_good 13 = .ok (.iload_n 1, 1) := by decide +kernel
theorem dX9_good_14 : decode cX9_good 14 = .ok (.ireturn, 1) := by decide +kernel
theorem dX9_good__0 : decode cX9_good_ 0 = .ok (.aload_n 0, 1) := by decide +kernel
theorem dX9_good__1 : decode cX9_good_ 1 = .ok (.iload_n 1, 1) := by decide +kernel
theorem dX9_good__2 : decode cX9_good_ 2 = .ok (.iload_n 2, 1) := by decide +kernel
theorem dX9_good__3 : decode cX9_good_ 3 = .ok (.iconst 1, 1) := by decide +kernel
theorem dX9_good__4 : decode cX9_good_ 4 = .ok (.invokevirtual 57, 3) := by decide +kernel
theorem dX9_good__7 : decode cX9_good_ 7 = .ok (.ireturn, 1) := by decide +kernel
theorem dX9_good___0 : decode cX9_good__ 0 = .ok (.aload_n 0, 1) := by decide +kernel
theorem dX9_good___1 : decode cX9_good__ 1 = .ok (.iconst 0, 1) := by decide +kernel
theorem dX9_good___2 : decode cX9_good__ 2 = .ok (.putfield 54, 3) := by decide +kernel
theorem dX9_good___5 : decode cX9_good__ 5 = .ok (.iload_n 1, 1) := by decide +kernel
theorem dX9_good___6 : decode cX9_good__ 6 = .ok (.ifCond .ne 11, 3) := by decide +kernel
theorem dX9_good___9 : decode cX9_good__ 9 = .ok (.aload_n 0, 1) := by decide +kernel
theorem dX9_good___10 : decode cX9_good__ 10 = .ok (.iconst 1, 1) := by decide +kernel
theorem dX9_good___11 : decode cX9_good__ 11 = .ok (.putfield 54, 3) := by decide +kernel
theorem dX9_good___14 : decode cX9_good__ 14 = .ok (.goto 24, 3) := by decide +kernel
theorem dX9_good___17 : decode cX9_good__ 17 = .ok (.iload_n 2, 1) := by decide +kernel
theorem dX9_good___18 : decode cX9_good__ 18 = .ok (.ifCond .ne 11, 3) := by decide +kernel
theorem dX9_good___21 : decode cX9_good__ 21 = .ok (.aload_n 0, 1) := by decide +kernel
theorem dX9_good___22 : decode cX9_good__ 22 = .ok (.iconst 2, 1) := by decide +kernel
theorem dX9_good___23 : decode cX9_good__ 23 = .ok (.putfield 54, 3) := by decide +kernel
theorem dX9_good___26 : decode cX9_good__ 26 = .ok (.goto 12, 3) := by decide +kernel
theorem dX9_good___29 : decode cX9_good__ 29 = .ok (.iload_n 3, 1) := by decide +kernel
theorem dX9_good___30 : decode cX9_good__ 30 = .ok (.ifCond .ne 8, 3) := by decide +kernel
theorem dX9_good___33 : decode cX9_good__ 33 = .ok (.aload_n 0, 1) := by decide +kernel
theorem dX9_good___34 : decode cX9_good__ 34 = .ok (.iconst 3, 1) := by decide +kernel
theorem dX9_good___35 : decode cX9_good__ 35 = .ok (.putfield 54, 3) := by decide +kernel
theorem dX9_good___38 : decode cX9_good__ 38 = .ok (.aload_n 0, 1) := by decide +kernel
theorem dX9_good___39 : decode cX9_good__ 39 = .ok (.getfield 54, 3) := by decide +kernel
theorem dX9_good___42 : decode cX9_good__ 42 = .ok (.ifCond .ne 7, 3) := by decide +kernel
theorem dX9_good___45 : decode cX9_good__ 45 = .ok (.iconst 1, 1) := by decide +kernel
theorem dX9_good___46 : decode cX9_good__ 46 = .ok (.goto 4, 3) := by decide +kernel
theorem dX9_good___49 : decode cX9_good__ 49 = .ok (.iconst 0, 1) := by decide +kernel
theorem dX9_good___50 : decode cX9_good__ 50 = .ok (.ireturn, 1) := by decide +kernel
theorem dX9_remember_0 : decode cX9_remember 0 = .ok (.aload_n 0, 1) := by decide +kernel
theorem dX9_remember_1 : decode cX9_remember 1 = .ok (.getfield 61, 3) := by decide +kernel
theorem dX9_remember_4 : decode cX9_remember 4 = .ok (.bipush 10, 2) := by decide +kernel
theorem dX9_remember_6 : decode cX9_remember 6 = .ok (.if_icmp .ne 44, 3) := by decide +kernel
theorem dX9_remember_9 : decode cX9_remember 9 = .ok (.bipush 91, 2) := by decide +kernel
theorem dX9_remember_11 : decode cX9_remember 11 = .ok (.istore_n 1, 1) := by decide +kernel
theorem dX9_remember_12 : decode cX9_remember 12 = .ok (.iload_n 1, 1) := by decide +kernel
theorem dX9_remember_13 : decode cX9_remember 13 = .ok (.sipush 910, 3) := by decide +kernel
theorem dX9_remember_16 : decode cX9_remember 16 = .ok (.if_icmp .ge 24, 3) := by decide +kernel
theorem dX9_remember_19 : decode cX9_remember 19 = .ok (.aload_n 0, 1) := by decide +kernel
theorem dX9_remember_20 : decode cX9_remember 20 = .ok (.getfield 16, 3) := by decide +kernel
theorem dX9_remember_23 : decode cX9_remember 23 = .ok (.iload_n 1, 1) := by decide +kernel
theorem dX9_remember_24 : decode cX9_remember 24 = .ok (.bipush 91, 2) := by decide +kernel
theorem dX9_remember_26 : decode cX9_remember 26 = .ok (.isub, 1) := by decide +kernel
theorem dX9_remember_27 : decode cX9_remember 27 = .ok (.aload_n 0, 1) := by decide +kernel
theorem dX9_remember_28 : decode cX9_remember 28 = .ok (.getfield 16, 3) := by decide +kernel
theorem dX9_remember_31 : decode cX9_remember 31 = .ok (.iload_n 1, 1) := by decide +kernel
theorem dX9_remember_32 : decode cX9_remember 32 = .ok (.iaload, 1) := by decide +kernel
theorem dX9_remember_33 : decode cX9_remember 33 = .ok (.iastore, 1) := by decide +kernel
theorem dX9_remember_34 : decode cX9_remember 34 = .ok (.iinc 1 1, 3) := by decide +kernel
theorem dX9_remember_37 : decode cX9_remember 37 = .ok (.goto (-25), 3) := by decide +kernel
theorem dX9_remember_40 : decode cX9_remember 40 = .ok (.aload_n 0, 1) := by decide +kernel
theorem dX9_remember_41 : decode cX9_remember 41 = .ok (.dup, 1) := by decide +kernel
theorem dX9_remember_42 : decode cX9_remember 42 = .ok (.getfield 61, 3) := by decide +kernel
theorem dX9_remember_45 : decode cX9_remember 45 = .ok (.iconst 1, 1) := by decide +kernel
theorem dX9_remember_46 : decode cX9_remember 46 = .ok (.isub, 1) := by decide +kernel
theorem dX9_remember_47 : decode cX9_remember 47 = .ok (.putfield 61, 3) := by decide +kernel
theorem dX9_remember_50 : decode cX9_remember 50 = .ok (.iconst 0, 1) := by decide +kernel
theorem dX9_remember_51 : decode cX9_remember 51 = .ok (.istore_n 1, 1) := by decide +kernel
theorem dX9_remember_52 : decode cX9_remember 52 = .ok (.iload_n 1, 1) := by decide +kernel
theorem dX9_remember_53 : decode cX9_remember 53 = .ok (.bipush 91, 2) := by decide +kernel
theorem dX9_remember_55 : decode cX9_remember 55 = .ok (.if_icmp .ge 29, 3) := by decide +kernel
theorem dX9_remember_58 : decode cX9_remember 58 = .ok (.aload_n 0, 1) := by decide +kernel
theorem dX9_remember_59 : decode cX9_remember 59 = .ok (.getfield 16, 3) := by decide +kernel
theorem dX9_remember_62 : decode cX9_remember 62 = .ok (.bipush 91, 2) := by decide +kernel
theorem dX9_remember_64 : decode cX9_remember 64 = .ok (.aload_n 0, 1) := by decide +kernel
theorem dX9_remember_65 : decode cX9_remember 65 = .ok (.getfield 61, 3) := by decide +kernel
theorem dX9_remember_68 : decode cX9_remember 68 = .ok (.imul, 1) := by decide +kernel
theorem dX9_remember_69 : decode cX9_remember 69 = .ok (.iload_n 1, 1) := by decide +kernel
theorem dX9_remember_70 : decode cX9_remember 70 = .ok (.iadd, 1) := by decide +kernel
theorem dX9_remember_71 : decode cX9_remember 71 = .ok (.aload_n 0, 1) := by decide +kernel
theorem dX9_remember_72 : decode cX9_remember 72 = .ok (.getfield 7, 3) := by decide +kernel
theorem dX9_remember_75 : decode cX9_remember 75 = .ok (.iload_n 1, 1) := by decide +kernel
theorem dX9_remember_76 : decode cX9_remember 76 = .ok (.iaload, 1) := by decide +kernel
theorem dX9_remember_77 : decode cX9_remember 77 = .ok (.iastore, 1) := by decide +kernel
theorem dX9_remember_78 : decode cX9_remember 78 = .ok (.iinc 1 1, 3) := by decide +kernel
theorem dX9_remember_81 : decode cX9_remember 81 = .ok (.goto (-29), 3) := by decide +kernel
theorem dX9_remember_84 : decode cX9_remember 84 = .ok (.aload_n 0, 1) := by decide +kernel
theorem dX9_remember_85 : decode cX9_remember 85 = .ok (.dup, 1) := by decide +kernel
theorem dX9_remember_86 : decode cX9_remember 86 = .ok (.getfield 61, 3) := by decide +kernel
theorem dX9_remember_89 : decode cX9_remember 89 = .ok (.iconst 1, 1) := by decide +kernel
theorem dX9_remember_90 : decode cX9_remember 90 = .ok (.iadd, 1) := by decide +kernel
theorem dX9_remember_91 : decode cX9_remember 91 = .ok (.putfield 61, 3) := by decide +kernel
theorem dX9_remember_94 : decode cX9_remember 94 = .ok (.return_, 1) := by decide +kernel
theorem dX9_undo_0 : decode cX9_undo 0 = .ok (.aload_n 0, 1) := by decide +kernel
theorem dX9_undo_1 : decode cX9_undo 1 = .ok (.iconst 0, 1) := by decide +kernel
theorem dX9_undo_2 : decode cX9_undo 2 = .ok (.putfield 54, 3) := by decide +kernel
theorem dX9_undo_5 : decode cX9_undo 5 = .ok (.aload_n 0, 1) := by decide +kernel
theorem dX9_undo_6 : decode cX9_undo 6 = .ok (.getfield 61, 3) := by decide +kernel
theorem dX9_undo_9 : decode cX9_undo 9 = .ok (.ifCond .ne 5, 3) := by decide +kernel
theorem dX9_undo_12 : decode cX9_undo 12 = .ok (.iconst (-1), 1) := by decide +kernel
theorem dX9_undo_13 : decode cX9_undo 13 = .ok (.ireturn, 1) := by decide +kernel
theorem dX9_undo_14 : decode cX9_undo 14 = .ok (.aload_n 0, 1) := by decide +kernel
theorem dX9_undo_15 : decode cX9_undo 15 = .ok (.dup, 1) := by decide +kernel
theorem dX9_undo_16 : decode cX9_undo 16 = .ok (.getfield 61, 3) := by decide +kernel
theorem dX9_undo_19 : decode cX9_undo 19 = .ok (.iconst 1, 1) := by decide +kernel
theorem dX9_undo_20 : decode cX9_undo 20 = .ok (.isub, 1) := by decide +kernel
theorem dX9_undo_21 : decode cX9_undo 21 = .ok (.putfield 61, 3) := by decide +kernel
theorem dX9_undo_24 : decode cX9_undo 24 = .ok (.iconst 0, 1) := by decide +kernel
theorem dX9_undo_25 : decode cX9_undo 25 = .ok (.istore_n 1, 1) := by decide +kernel
theorem dX9_undo_26 : decode cX9_undo 26 = .ok (.iload_n 1, 1) := by decide +kernel
theorem dX9_undo_27 : decode cX9_undo 27 = .ok (.bipush 91, 2) := by decide +kernel
theorem dX9_undo_29 : decode cX9_undo 29 = .ok (.if_icmp .ge 29, 3) := by decide +kernel
theorem dX9_undo_32 : decode cX9_undo 32 = .ok (.aload_n 0, 1) := by decide +kernel
theorem dX9_undo_33 : decode cX9_undo 33 = .ok (.getfield 7, 3) := by decide +kernel
theorem dX9_undo_36 : decode cX9_undo 36 = .ok (.iload_n 1, 1) := by decide +kernel
theorem dX9_undo_37 : decode cX9_undo 37 = .ok (.aload_n 0, 1) := by decide +kernel
theorem dX9_undo_38 : decode cX9_undo 38 = .ok (.getfield 16, 3) := by decide +kernel
theorem dX9_undo_41 : decode cX9_undo 41 = .ok (.bipush 91, 2) := by decide +kernel
theorem dX9_undo_43 : decode cX9_undo 43 = .ok (.aload_n 0, 1) := by decide +kernel
theorem dX9_undo_44 : decode cX9_undo 44 = .ok (.getfield 61, 3) := by decide +kernel
theorem dX9_undo_47 : decode cX9_undo 47 = .ok (.imul, 1) := by decide +kernel
theorem dX9_undo_48 : decode cX9_undo 48 = .ok (.iload_n 1, 1) := by decide +kernel
theorem dX9_undo_49 : decode cX9_undo 49 = .ok (.iadd, 1) := by decide +kernel
theorem dX9_undo_50 : decode cX9_undo 50 = .ok (.iaload, 1) := by decide +kernel
theorem dX9_undo_51 : decode cX9_undo 51 = .ok (.iastore, 1) := by decide +kernel
theorem dX9_undo_52 : decode cX9_undo 52 = .ok (.iinc 1 1, 3) := by decide +kernel
theorem dX9_undo_55 : decode cX9_undo 55 = .ok (.goto (-29), 3) := by decide +kernel
theorem dX9_undo_58 : decode cX9_undo 58 = .ok (.aload_n 0, 1) := by decide +kernel
theorem dX9_undo_59 : decode cX9_undo 59 = .ok (.getfield 61, 3) := by decide +kernel
theorem dX9_undo_62 : decode cX9_undo 62 = .ok (.ireturn, 1) := by decide +kernel
theorem dX9_putAside_0 : decode cX9_putAside 0 = .ok (.iconst 0, 1) := by decide +kernel
theorem dX9_putAside_1 : decode cX9_putAside 1 = .ok (.istore_n 1, 1) := by decide +kernel
theorem dX9_putAside_2 : decode cX9_putAside 2 = .ok (.iload_n 1, 1) := by decide +kernel
theorem dX9_putAside_3 : decode cX9_putAside 3 = .ok (.bipush 91, 2) := by decide +kernel
theorem dX9_putAside_5 : decode cX9_putAside 5 = .ok (.if_icmp .ge 21, 3) := by decide +kernel
theorem dX9_putAside_8 : decode cX9_putAside 8 = .ok (.aload_n 0, 1) := by decide +kernel
theorem dX9_putAside_9 : decode cX9_putAside 9 = .ok (.getfield 13, 3) := by decide +kernel
theorem dX9_putAside_12 : decode cX9_putAside 12 = .ok (.iload_n 1, 1) := by decide +kernel
theorem dX9_putAside_13 : decode cX9_putAside 13 = .ok (.aload_n 0, 1) := by decide +kernel
theorem dX9_putAside_14 : decode cX9_putAside 14 = .ok (.getfield 7, 3) := by decide +kernel
theorem dX9_putAside_17 : decode cX9_putAside 17 = .ok (.iload_n 1, 1) := by decide +kernel
theorem dX9_putAside_18 : decode cX9_putAside 18 = .ok (.iaload, 1) := by decide +kernel
theorem dX9_putAside_19 : decode cX9_putAside 19 = .ok (.iastore, 1) := by decide +kernel
theorem dX9_putAside_20 : decode cX9_putAside 20 = .ok (.iinc 1 1, 3) := by decide +kernel
theorem dX9_putAside_23 : decode cX9_putAside 23 = .ok (.goto (-21), 3) := by decide +kernel
theorem dX9_putAside_26 : decode cX9_putAside 26 = .ok (.return_, 1) := by decide +kernel
theorem dX9_layBack_0 : decode cX9_layBack 0 = .ok (.iconst 0, 1) := by decide +kernel
theorem dX9_layBack_1 : decode cX9_layBack 1 = .ok (.istore_n 1, 1) := by decide +kernel
theorem dX9_layBack_2 : decode cX9_layBack 2 = .ok (.iload_n 1, 1) := by decide +kernel
theorem dX9_layBack_3 : decode cX9_layBack 3 = .ok (.bipush 91, 2) := by decide +kernel
theorem dX9_layBack_5 : decode cX9_layBack 5 = .ok (.if_icmp .ge 21, 3) := by decide +kernel
theorem dX9_layBack_8 : decode cX9_layBack 8 = .ok (.aload_n 0, 1) := by decide +kernel
theorem dX9_layBack_9 : decode cX9_layBack 9 = .ok (.getfield 7, 3) := by decide +kernel
theorem dX9_layBack_12 : decode cX9_layBack 12 = .ok (.iload_n 1, 1) := by decide +kernel
theorem dX9_layBack_13 : decode cX9_layBack 13 = .ok (.aload_n 0, 1) := by decide +kernel
theorem dX9_layBack_14 : decode cX9_layBack 14 = .ok (.getfield 13, 3) := by decide +kernel
theorem dX9_layBack_17 : decode cX9_layBack 17 = .ok (.iload_n 1, 1) := by decide +kernel
theorem dX9_layBack_18 : decode cX9_layBack 18 = .ok (.iaload, 1) := by decide +kernel
theorem dX9_layBack_19 : decode cX9_layBack 19 = .ok (.iastore, 1) := by decide +kernel
theorem dX9_layBack_20 : decode cX9_layBack 20 = .ok (.iinc 1 1, 3) := by decide +kernel
theorem dX9_layBack_23 : decode cX9_layBack 23 = .ok (.goto (-21), 3) := by decide +kernel
theorem dX9_layBack_26 : decode cX9_layBack 26 = .ok (.return_, 1) := by decide +kernel
theorem dX9_append_0 : decode cX9_append 0 = .ok (.bipush 24, 2) := by decide +kernel
theorem dX9_append_2 : decode cX9_append 2 = .ok (.istore_n 2, 1) := by decide +kernel
theorem dX9_append_3 : decode cX9_append 3 = .ok (.iload_n 2, 1) := by decide +kernel
theorem dX9_append_4 : decode cX9_append 4 = .ok (.ifCond .lt 35, 3) := by decide +kernel
theorem dX9_append_7 : decode cX9_append 7 = .ok (.aload_n 0, 1) := by decide +kernel
theorem dX9_append_8 : decode cX9_append 8 = .ok (.getfield 19, 3) := by decide +kernel
theorem dX9_append_11 : decode cX9_append 11 = .ok (.aload_n 0, 1) := by decide +kernel
theorem dX9_append_12 : decode cX9_append 12 = .ok (.getfield 64, 3) := by decide +kernel
theorem dX9_append_15 : decode cX9_append 15 = .ok (.iload_n 1, 1) := by decide +kernel
theorem dX9_append_16 : decode cX9_append 16 = .ok (.iload_n 2, 1) := by decide +kernel
theorem dX9_append_17 : decode cX9_append 17 = .ok (.iushr, 1) := by decide +kernel
theorem dX9_append_18 : decode cX9_append 18 = .ok (.sipush 255, 3) := by decide +kernel
theorem dX9_append_21 : decode cX9_append 21 = .ok (.iand, 1) := by decide +kernel
theorem dX9_append_22 : decode cX9_append 22 = .ok (.iastore, 1) := by decide +kernel
theorem dX9_append_23 : decode cX9_append 23 = .ok (.aload_n 0, 1) := by decide +kernel
theorem dX9_append_24 : decode cX9_append 24 = .ok (.dup, 1) := by decide +kernel
theorem dX9_append_25 : decode cX9_append 25 = .ok (.getfield 64, 3) := by decide +kernel
theorem dX9_append_28 : decode cX9_append 28 = .ok (.iconst 1, 1) := by decide +kernel
theorem dX9_append_29 : decode cX9_append 29 = .ok (.iadd, 1) := by decide +kernel
theorem dX9_append_30 : decode cX9_append 30 = .ok (.putfield 64, 3) := by decide +kernel
theorem dX9_append_33 : decode cX9_append 33 = .ok (.iinc 2 (-8), 3) := by decide +kernel
theorem dX9_append_36 : decode cX9_append 36 = .ok (.goto (-33), 3) := by decide +kernel
theorem dX9_append_39 : decode cX9_append 39 = .ok (.return_, 1) := by decide +kernel
theorem dX9_feed_0 : decode cX9_feed 0 = .ok (.aload_n 0, 1) := by decide +kernel
theorem dX9_feed_1 : decode cX9_feed 1 = .ok (.iconst 0, 1) := by decide +kernel
theorem dX9_feed_2 : decode cX9_feed 2 = .ok (.putfield 54, 3) := by decide +kernel
theorem dX9_feed_5 : decode cX9_feed 5 = .ok (.aload_n 0, 1) := by decide +kernel
theorem dX9_feed_6 : decode cX9_feed 6 = .ok (.getfield 64, 3) := by decide +kernel
theorem dX9_feed_9 : decode cX9_feed 9 = .ok (.bipush 20, 2) := by decide +kernel
theorem dX9_feed_11 : decode cX9_feed 11 = .ok (.iadd, 1) := by decide +kernel
theorem dX9_feed_12 : decode cX9_feed 12 = .ok (.sipush 500, 3) := by decide +kernel
theorem dX9_feed_15 : decode cX9_feed 15 = .ok (.if_icmp .le 6, 3) := by decide +kernel
theorem dX9_feed_18 : decode cX9_feed 18 = .ok (.bipush (-2), 2) := by decide +kernel
theorem dX9_feed_20 : decode cX9_feed 20 = .ok (.ireturn, 1) := by decide +kernel
theorem dX9_feed_21 : decode cX9_feed 21 = .ok (.aload_n 0, 1) := by decide +kernel
theorem dX9_feed_22 : decode cX9_feed 22 = .ok (.iload_n 1, 1) := by decide +kernel
theorem dX9_feed_23 : decode cX9_feed 23 = .ok (.invokevirtual 67, 3) := by decide +kernel
theorem dX9_feed_26 : decode cX9_feed 26 = .ok (.aload_n 0, 1) := by decide +kernel
theorem dX9_feed_27 : decode cX9_feed 27 = .ok (.iload_n 2, 1) := by decide +kernel
theorem dX9_feed_28 : decode cX9_feed 28 = .ok (.invokevirtual 67, 3) := by decide +kernel
theorem dX9_feed_31 : decode cX9_feed 31 = .ok (.aload_n 0, 1) := by decide +kernel
theorem dX9_feed_32 : decode cX9_feed 32 = .ok (.iload_n 3, 1) := by decide +kernel
theorem dX9_feed_33 : decode cX9_feed 33 = .ok (.invokevirtual 67, 3) := by decide +kernel
theorem dX9_feed_36 : decode cX9_feed 36 = .ok (.aload_n 0, 1) := by decide +kernel
theorem dX9_feed_37 : decode cX9_feed 37 = .ok (.iload 4, 2) := by decide +kernel
theorem dX9_feed_39 : decode cX9_feed 39 = .ok (.invokevirtual 67, 3) := by decide +kernel
theorem dX9_feed_42 : decode cX9_feed 42 = .ok (.aload_n 0, 1) := by decide +kernel
theorem dX9_feed_43 : decode cX9_feed 43 = .ok (.iload 5, 2) := by decide +kernel
theorem dX9_feed_45 : decode cX9_feed 45 = .ok (.invokevirtual 67, 3) := by decide +kernel
theorem dX9_feed_48 : decode cX9_feed 48 = .ok (.aload_n 0, 1) := by decide +kernel
theorem dX9_feed_49 : decode cX9_feed 49 = .ok (.getfield 64, 3) := by decide +kernel
theorem dX9_feed_52 : decode cX9_feed 52 = .ok (.ireturn, 1) := by decide +kernel
theorem dX9_byteAt_0 : decode cX9_byteAt 0 = .ok (.iload_n 1, 1) := by decide +kernel
theorem dX9_byteAt_1 : decode cX9_byteAt 1 = .ok (.aload_n 0, 1) := by decide +kernel
theorem dX9_byteAt_2 : decode cX9_byteAt 2 = .ok (.getfield 71, 3) := by decide +kernel
theorem dX9_byteAt_5 : decode cX9_byteAt 5 = .ok (.if_icmp .ge 12, 3) := by decide +kernel
theorem dX9_byteAt_8 : decode cX9_byteAt 8 = .ok (.aload_n 0, 1) := by decide +kernel
theorem dX9_byteAt_9 : decode cX9_byteAt 9 = .ok (.getfield 19, 3) := by decide +kernel
theorem dX9_byteAt_12 : decode cX9_byteAt 12 = .ok (.iload_n 1, 1) := by decide +kernel
theorem dX9_byteAt_13 : decode cX9_byteAt 13 = .ok (.iaload, 1) := by decide +kernel
theorem dX9_byteAt_14 : decode cX9_byteAt 14 = .ok (.goto 4, 3) := by decide +kernel
theorem dX9_byteAt_17 : decode cX9_byteAt 17 = .ok (.iconst (-1), 1) := by decide +kernel
theorem dX9_byteAt_18 : decode cX9_byteAt 18 = .ok (.ireturn, 1) := by decide +kernel
theorem dX9_isLetter_0 : decode cX9_isLetter 0 = .ok (.iload_n 0, 1) := by decide +kernel
theorem dX9_isLetter_1 : decode cX9_isLetter 1 = .ok (.bipush 97, 2) := by decide +kernel
theorem dX9_isLetter_3 : decode cX9_isLetter 3 = .ok (.if_icmp .lt 13, 3) := by decide +kernel
theorem dX9_isLetter_6 : decode cX9_isLetter 6 = .ok (.iload_n 0, 1) := by decide +kernel
theorem dX9_isLetter_7 : decode cX9_isLetter 7 = .ok (.bipush 122, 2) := by decide +kernel
theorem dX9_isLetter_9 : decode cX9_isLetter 9 = .ok (.if_icmp .gt 7, 3) := by decide +kernel
theorem dX9_isLetter_12 : decode cX9_isLetter 12 = .ok (.iconst 1, 1) := by decide +kernel
theorem dX9_isLetter_13 : decode cX9_isLetter 13 = .ok (.goto 4, 3) := by decide +kernel
theorem dX9_isLetter_16 : decode cX9_isLetter 16 = .ok (.iconst 0, 1) := by decide +kernel
theorem dX9_isLetter_17 : decode cX9_isLetter 17 = .ok (.ireturn, 1) := by decide +kernel
theorem dX9_isDigit_0 : decode cX9_isDigit 0 = .ok (.iload_n 0, 1) := by decide +kernel
theorem dX9_isDigit_1 : decode cX9_isDigit 1 = .ok (.bipush 48, 2) := by decide +kernel
theorem dX9_isDigit_3 : decode cX9_isDigit 3 = .ok (.if_icmp .lt 13, 3) := by decide +kernel
theorem dX9_isDigit_6 : decode cX9_isDigit 6 = .ok (.iload_n 0, 1) := by decide +kernel
theorem dX9_isDigit_7 : decode cX9_isDigit 7 = .ok (.bipush 57, 2) := by decide +kernel
theorem dX9_isDigit_9 : decode cX9_isDigit 9 = .ok (.if_icmp .gt 7, 3) := by decide +kernel
theorem dX9_isDigit_12 : decode cX9_isDigit 12 = .ok (.iconst 1, 1) := by decide +kernel
theorem dX9_isDigit_13 : decode cX9_isDigit 13 = .ok (.goto 4, 3) := by decide +kernel
theorem dX9_isDigit_16 : decode cX9_isDigit 16 = .ok (.iconst 0, 1) := by decide +kernel
theorem dX9_isDigit_17 : decode cX9_isDigit 17 = .ok (.ireturn, 1) := by decide +kernel
theorem dX9_readWord_0 : decode cX9_readWord 0 = .ok (.aload_n 0, 1) := by decide +kernel
theorem dX9_readWord_1 : decode cX9_readWord 1 = .ok (.aload_n 0, 1) := by decide +kernel
theorem dX9_readWord_2 : decode cX9_readWord 2 = .ok (.getfield 74, 3) := by decide +kernel
theorem dX9_readWord_5 : decode cX9_readWord 5 = .ok (.invokevirtual 77, 3) := by decide +kernel
theorem dX9_readWord_8 : decode cX9_readWord 8 = .ok (.invokestatic 81, 3) := by decide +kernel
theorem dX9_readWord_11 : decode cX9_readWord 11 = .ok (.ifCond .eq 16, 3) := by decide +kernel
theorem dX9_readWord_14 : decode cX9_readWord 14 = .ok (.aload_n 0, 1) := by decide +kernel
theorem dX9_readWord_15 : decode cX9_readWord 15 = .ok (.dup, 1) := by decide +kernel
theorem dX9_readWord_16 : decode cX9_readWord 16 = .ok (.getfield 74, 3) := by decide +kernel
theorem dX9_readWord_19 : decode cX9_readWord 19 = .ok (.iconst 1, 1) := by decide +kernel
theorem dX9_readWord_20 : decode cX9_readWord 20 = .ok (.iadd, 1) := by decide +kernel
theorem dX9_readWord_21 : decode cX9_readWord 21 = .ok (.putfield 74, 3) := by decide +kernel
theorem dX9_readWord_24 : decode cX9_readWord 24 = .ok (.goto (-24), 3) := by decide +kernel
theorem dX9_readWord_27 : decode cX9_readWord 27 = .ok (.aload_n 0, 1) := by decide +kernel
theorem dX9_readWord_28 : decode cX9_readWord 28 = .ok (.aload_n 0, 1) := by decide +kernel
theorem dX9_readWord_29 : decode cX9_readWord 29 = .ok (.getfield 74, 3) := by decide +kernel
theorem dX9_readWord_32 : decode cX9_readWord 32 = .ok (.aload_n 0, 1) := by decide +kernel
theorem dX9_readWord_33 : decode cX9_readWord 33 = .ok (.getfield 85, 3) := by decide +kernel
theorem dX9_readWord_36 : decode cX9_readWord 36 = .ok (.isub, 1) := by decide +kernel
theorem dX9_readWord_37 : decode cX9_readWord 37 = .ok (.bipush 8, 2) := by decide +kernel
theorem dX9_readWord_39 : decode cX9_readWord 39 = .ok (.if_icmp .le 7, 3) := by decide +kernel
theorem dX9_readWord_42 : decode cX9_readWord 42 = .ok (.iconst 1, 1) := by decide +kernel
theorem dX9_readWord_43 : decode cX9_readWord 43 = .ok (.goto 4, 3) := by decide +kernel
theorem dX9_readWord_46 : decode cX9_readWord 46 = .ok (.iconst 2, 1) := by decide +kernel
theorem dX9_readWord_47 : decode cX9_readWord 47 = .ok (.putfield 88, 3) := by decide +kernel
theorem dX9_readWord_50 : decode cX9_readWord 50 = .ok (.return_, 1) := by decide +kernel
theorem dX9_readNumber_0 : decode cX9_readNumber 0 = .ok (.aload_n 0, 1) := by decide +kernel
theorem dX9_readNumber_1 : decode cX9_readNumber 1 = .ok (.iconst 0, 1) := by decide +kernel
theorem dX9_readNumber_2 : decode cX9_readNumber 2 = .ok (.putfield 91, 3) := by decide +kernel
theorem dX9_readNumber_5 : decode cX9_readNumber 5 = .ok (.aload_n 0, 1) := by decide +kernel
theorem dX9_readNumber_6 : decode cX9_readNumber 6 = .ok (.aload_n 0, 1) := by decide +kernel
theorem dX9_readNumber_7 : decode cX9_readNumber 7 = .ok (.getfield 74, 3) := by decide +kernel
theorem dX9_readNumber_10 : decode cX9_readNumber 10 = .ok (.invokevirtual 77, 3) := by decide +kernel
theorem dX9_readNumber_13 : decode cX9_readNumber 13 = .ok (.invokestatic 94, 3) := by decide +kernel
theorem dX9_readNumber_16 : decode cX9_readNumber 16 = .ok (.ifCond .eq 59, 3) := by decide +kernel
theorem dX9_readNumber_19 : decode cX9_readNumber 19 = .ok (.aload_n 0, 1) := by decide +kernel
theorem dX9_readNumber_20 : decode cX9_readNumber 20 = .ok (.aload_n 0, 1) := by decide +kernel
theorem dX9_readNumber_21 : decode cX9_readNumber 21 = .ok (.getfield 74, 3) := by decide +kernel
theorem dX9_readNumber_24 : decode cX9_readNumber 24 = .ok (.aload_n 0, 1) := by decide +kernel
theorem dX9_readNumber_25 : decode cX9_readNumber 25 = .ok (.getfield 85, 3) := by decide +kernel
theorem dX9_readNumber_28 : decode cX9_readNumber 28 = .ok (.isub, 1) := by decide +kernel
theorem dX9_readNumber_29 : decode cX9_readNumber 29 = .ok (.iconst 2, 1) := by decide +kernel
theorem dX9_readNumber_30 : decode cX9_readNumber 30 = .ok (.if_icmp .ge 25, 3) := by decide +kernel
theorem dX9_readNumber_33 : decode cX9_readNumber 33 = .ok (.bipush 10, 2) := by decide +kernel
theorem dX9_readNumber_35 : decode cX9_readNumber 35 = .ok (.aload_n 0, 1) := by decide +kernel
theorem dX9_readNumber_36 : decode cX9_readNumber 36 = .ok (.getfield 91, 3) := by decide +kernel
theorem dX9_readNumber_39 : decode cX9_readNumber 39 = .ok (.imul, 1) := by decide +kernel
theorem dX9_readNumber_40 : decode cX9_readNumber 40 = .ok (.aload_n 0, 1) := by decide +kernel
theorem dX9_readNumber_41 : decode cX9_readNumber 41 = .ok (.aload_n 0, 1) := by decide +kernel
theorem dX9_readNumber_42 : decode cX9_readNumber 42 = .ok (.getfield 74, 3) := by decide +kernel
theorem dX9_readNumber_45 : decode cX9_readNumber 45 = .ok (.invokevirtual 77, 3) := by decide +kernel
theorem dX9_readNumber_48 : decode cX9_readNumber 48 = .ok (.iadd, 1) := by decide +kernel
theorem dX9_readNumber_49 : decode cX9_readNumber 49 = .ok (.bipush 48, 2) := by decide +kernel
theorem dX9_readNumber_51 : decode cX9_readNumber 51 = .ok (.isub, 1) := by decide +kernel
theorem dX9_readNumber_52 : decode cX9_readNumber 52 = .ok (.goto 7, 3) := by decide +kernel
theorem dX9_readNumber_55 : decode cX9_readNumber 55 = .ok (.aload_n 0, 1) := by decide +kernel
theorem dX9_readNumber_56 : decode cX9_readNumber 56 = .ok (.getfield 91, 3) := by decide +kernel
theorem dX9_readNumber_59 : decode cX9_readNumber 59 = .ok (.putfield 91, 3) := by decide +kernel
theorem dX9_readNumber_62 : decode cX9_readNumber 62 = .ok (.aload_n 0, 1) := by decide +kernel
theorem dX9_readNumber_63 : decode cX9_readNumber 63 = .ok (.dup, 1) := by decide +kernel
theorem dX9_readNumber_64 : decode cX9_readNumber 64 = .ok (.getfield 74, 3) := by decide +kernel
theorem dX9_readNumber_67 : decode cX9_readNumber 67 = .ok (.iconst 1, 1) := by decide +kernel
theorem dX9_readNumber_68 : decode cX9_readNumber 68 = .ok (.iadd, 1) := by decide +kernel
theorem dX9_readNumber_69 : decode cX9_readNumber 69 = .ok (.putfield 74, 3) := by decide +kernel
theorem dX9_readNumber_72 : decode cX9_readNumber 72 = .ok (.goto (-67), 3) := by decide +kernel
theorem dX9_readNumber_75 : decode cX9_readNumber 75 = .ok (.aload_n 0, 1) := by decide +kernel
theorem dX9_readNumber_76 : decode cX9_readNumber 76 = .ok (.aload_n 0, 1) := by decide +kernel
theorem dX9_readNumber_77 : decode cX9_readNumber 77 = .ok (.getfield 74, 3) := by decide +kernel
theorem dX9_readNumber_80 : decode cX9_readNumber 80 = .ok (.aload_n 0, 1) := by decide +kernel
theorem dX9_readNumber_81 : decode cX9_readNumber 81 = .ok (.getfield 85, 3) := by decide +kernel
theorem dX9_readNumber_84 : decode cX9_readNumber 84 = .ok (.isub, 1) := by decide +kernel
theorem dX9_readNumber_85 : decode cX9_readNumber 85 = .ok (.iconst 2, 1) := by decide +kernel
theorem dX9_readNumber_86 : decode cX9_readNumber 86 = .ok (.if_icmp .le 7, 3) := by decide +kernel
theorem dX9_readNumber_89 : decode cX9_readNumber 89 = .ok (.iconst 1, 1) := by decide +kernel
theorem dX9_readNumber_90 : decode cX9_readNumber 90 = .ok (.goto 4, 3) := by decide +kernel
theorem dX9_readNumber_93 : decode cX9_readNumber 93 = .ok (.iconst 3, 1) := by decide +kernel
theorem dX9_readNumber_94 : decode cX9_readNumber 94 = .ok (.putfield 88, 3) := by decide +kernel
theorem dX9_readNumber_97 : decode cX9_readNumber 97 = .ok (.return_, 1) := by decide +kernel
theorem dX9_advance_0 : decode cX9_advance 0 = .ok (.aload_n 0, 1) := by decide +kernel
theorem dX9_advance_1 : decode cX9_advance 1 = .ok (.aload_n 0, 1) := by decide +kernel
theorem dX9_advance_2 : decode cX9_advance 2 = .ok (.getfield 74, 3) := by decide +kernel
theorem dX9_advance_5 : decode cX9_advance 5 = .ok (.invokevirtual 77, 3) := by decide +kernel
theorem dX9_advance_8 : decode cX9_advance 8 = .ok (.bipush 32, 2) := by decide +kernel
theorem dX9_advance_10 : decode cX9_advance 10 = .ok (.if_icmp .eq 16, 3) := by decide +kernel
theorem dX9_advance_13 : decode cX9_advance 13 = .ok (.aload_n 0, 1) := by decide +kernel
theorem dX9_advance_14 : decode cX9_advance 14 = .ok (.aload_n 0, 1) := by decide +kernel
theorem dX9_advance_15 : decode cX9_advance 15 = .ok (.getfield 74, 3) := by decide +kernel
theorem dX9_advance_18 : decode cX9_advance 18 = .ok (.invokevirtual 77, 3) := by decide +kernel
theorem dX9_advance_21 : decode cX9_advance 21 = .ok (.bipush 10, 2) := by decide +kernel
theorem dX9_advance_23 : decode cX9_advance 23 = .ok (.if_icmp .ne 16, 3) := by decide +kernel
theorem dX9_advance_26 : decode cX9_advance 26 = .ok (.aload_n 0, 1) := by decide +kernel
theorem dX9_advance_27 : decode cX9_advance 27 = .ok (.dup, 1) := by decide +kernel
theorem dX9_advance_28 : decode cX9_advance 28 = .ok (.getfield 74, 3) := by decide +kernel
theorem dX9_advance_31 : decode cX9_advance 31 = .ok (.iconst 1, 1) := by decide +kernel
theorem dX9_advance_32 : decode cX9_advance 32 = .ok (.iadd, 1) := by decide +kernel
theorem dX9_advance_33 : decode cX9_advance 33 = .ok (.putfield 74, 3) := by decide +kernel
theorem dX9_advance_36 : decode cX9_advance 36 = .ok (.goto (-36), 3) := by decide +kernel
theorem dX9_advance_39 : decode cX9_advance 39 = .ok (.aload_n 0, 1) := by decide +kernel
theorem dX9_advance_40 : decode cX9_advance 40 = .ok (.aload_n 0, 1) := by decide +kernel
theorem dX9_advance_41 : decode cX9_advance 41 = .ok (.getfield 74, 3) := by decide +kernel
theorem dX9_advance_44 : decode cX9_advance 44 = .ok (.putfield 85, 3) := by decide +kernel
theorem dX9_advance_47 : decode cX9_advance 47 = .ok (.aload_n 0, 1) := by decide +kernel
theorem dX9_advance_48 : decode cX9_advance 48 = .ok (.aload_n 0, 1) := by decide +kernel
theorem dX9_advance_49 : decode cX9_advance 49 = .ok (.getfield 74, 3) := by decide +kernel
theorem dX9_advance_52 : decode cX9_advance 52 = .ok (.invokevirtual 77, 3) := by decide +kernel
theorem dX9_advance_55 : decode cX9_advance 55 = .ok (.istore_n 1, 1) := by decide +kernel
theorem dX9_advance_56 : decode cX9_advance 56 = .ok (.iload_n 1, 1) := by decide +kernel
theorem dX9_advance_57 : decode cX9_advance 57 = .ok (.iconst (-1), 1) := by decide +kernel
theorem dX9_advance_58 : decode cX9_advance 58 = .ok (.if_icmp .ne 11, 3) := by decide +kernel
theorem dX9_advance_61 : decode cX9_advance 61 = .ok (.aload_n 0, 1) := by decide +kernel
theorem dX9_advance_62 : decode cX9_advance 62 = .ok (.iconst 0, 1) := by decide +kernel
theorem dX9_advance_63 : decode cX9_advance 63 = .ok (.putfield 88, 3) := by decide +kernel
theorem dX9_advance_66 : decode cX9_advance 66 = .ok (.goto 56, 3) := by decide +kernel
theorem dX9_advance_69 : decode cX9_advance 69 = .ok (.iload_n 1, 1) := by decide +kernel
theorem dX9_advance_70 : decode cX9_advance 70 = .ok (.invokestatic 81, 3) := by decide +kernel
theorem dX9_advance_73 : decode cX9_advance 73 = .ok (.ifCond .eq 10, 3) := by decide +kernel
theorem dX9_advance_76 : decode cX9_advance 76 = .ok (.aload_n 0, 1) := by decide +kernel
theorem dX9_advance_77 : decode cX9_advance 77 = .ok (.invokevirtual 97, 3) := by decide +kernel
theorem dX9_advance_80 : decode cX9_advance 80 = .ok (.goto 42, 3) := by decide +kernel
theorem dX9_advance_83 : decode cX9_advance 83 = .ok (.iload_n 1, 1) := by decide +kernel
theorem dX9_advance_84 : decode cX9_advance 84 = .ok (.invokestatic 94, 3) := by decide +kernel
theorem dX9_advance_87 : decode cX9_advance 87 = .ok (.ifCond .eq 10, 3) := by decide +kernel
theorem dX9_advance_90 : decode cX9_advance 90 = .ok (.aload_n 0, 1) := by decide +kernel
theorem dX9_advance_91 : decode cX9_advance 91 = .ok (.invokevirtual 100, 3) := by decide +kernel
theorem dX9_advance_94 : decode cX9_advance 94 = .ok (.goto 28, 3) := by decide +kernel
theorem dX9_advance_97 : decode cX9_advance 97 = .ok (.aload_n 0, 1) := by decide +kernel
theorem dX9_advance_98 : decode cX9_advance 98 = .ok (.dup, 1) := by decide +kernel
theorem dX9_advance_99 : decode cX9_advance 99 = .ok (.getfield 74, 3) := by decide +kernel
theorem dX9_advance_102 : decode cX9_advance 102 = .ok (.iconst 1, 1) := by decide +kernel
theorem dX9_advance_103 : decode cX9_advance 103 = .ok (.iadd, 1) := by decide +kernel
theorem dX9_advance_104 : decode cX9_advance 104 = .ok (.putfield 74, 3) := by decide +kernel
theorem dX9_advance_107 : decode cX9_advance 107 = .ok (.aload_n 0, 1) := by decide +kernel
theorem dX9_advance_108 : decode cX9_advance 108 = .ok (.iload_n 1, 1) := by decide +kernel
theorem dX9_advance_109 : decode cX9_advance 109 = .ok (.bipush 59, 2) := by decide +kernel
theorem dX9_advance_111 : decode cX9_advance 111 = .ok (.if_icmp .ne 7, 3) := by decide +kernel
theorem dX9_advance_114 : decode cX9_advance 114 = .ok (.iconst 4, 1) := by decide +kernel
theorem dX9_advance_115 : decode cX9_advance 115 = .ok (.goto 4, 3) := by decide +kernel
theorem dX9_advance_118 : decode cX9_advance 118 = .ok (.iconst 1, 1) := by decide +kernel
theorem dX9_advance_119 : decode cX9_advance 119 = .ok (.putfield 88, 3) := by decide +kernel
theorem dX9_advance_122 : decode cX9_advance 122 = .ok (.iconst 1, 1) := by decide +kernel
theorem dX9_advance_123 : decode cX9_advance 123 = .ok (.ireturn, 1) := by decide +kernel
theorem dX9_isWord_0 : decode cX9_isWord 0 = .ok (.aload_n 0, 1) := by decide +kernel
theorem dX9_isWord_1 : decode cX9_isWord 1 = .ok (.getfield 88, 3) := by decide +kernel
theorem dX9_isWord_4 : decode cX9_isWord 4 = .ok (.iconst 2, 1) := by decide +kernel
theorem dX9_isWord_5 : decode cX9_isWord 5 = .ok (.if_icmp .ne 19, 3) := by decide +kernel
theorem dX9_isWord_8 : decode cX9_isWord 8 = .ok (.aload_n 0, 1) := by decide +kernel
theorem dX9_isWord_9 : decode cX9_isWord 9 = .ok (.getfield 74, 3) := by decide +kernel
theorem dX9_isWord_12 : decode cX9_isWord 12 = .ok (.aload_n 0, 1) := by decide +kernel
theorem dX9_isWord_13 : decode cX9_isWord 13 = .ok (.getfield 85, 3) := by decide +kernel
theorem dX9_isWord_16 : decode cX9_isWord 16 = .ok (.isub, 1) := by decide +kernel
theorem dX9_isWord_17 : decode cX9_isWord 17 = .ok (.aload_n 1, 1) := by decide +kernel
theorem dX9_isWord_18 : decode cX9_isWord 18 = .ok (.invokevirtual 103, 3) := by decide +kernel
theorem dX9_isWord_21 : decode cX9_isWord 21 = .ok (.if_icmp .eq 5, 3) := by decide +kernel
theorem dX9_isWord_24 : decode cX9_isWord 24 = .ok (.iconst 0, 1) := by decide +kernel
theorem dX9_isWord_25 : decode cX9_isWord 25 = .ok (.ireturn, 1) := by decide +kernel
theorem dX9_isWord_26 : decode cX9_isWord 26 = .ok (.iconst 0, 1) := by decide +kernel
theorem dX9_isWord_27 : decode cX9_isWord 27 = .ok (.istore_n 2, 1) := by decide +kernel
theorem dX9_isWord_28 : decode cX9_isWord 28 = .ok (.iload_n 2, 1) := by decide +kernel
theorem dX9_isWord_29 : decode cX9_isWord 29 = .ok (.aload_n 1, 1) := by decide +kernel
theorem dX9_isWord_30 : decode cX9_isWord 30 = .ok (.invokevirtual 103, 3) := by decide +kernel
theorem dX9_isWord_33 : decode cX9_isWord 33 = .ok (.if_icmp .ge 30, 3) := by decide +kernel
theorem dX9_isWord_36 : decode cX9_isWord 36 = .ok (.aload_n 0, 1) := by decide +kernel
theorem dX9_isWord_37 : decode cX9_isWord 37 = .ok (.getfield 19, 3) := by decide +kernel
theorem dX9_isWord_40 : decode cX9_isWord 40 = .ok (.aload_n 0, 1) := by decide +kernel
theorem dX9_isWord_41 : decode cX9_isWord 41 = .ok (.getfield 85, 3) := by decide +kernel
theorem dX9_isWord_44 : decode cX9_isWord 44 = .ok (.iload_n 2, 1) := by decide +kernel
theorem dX9_isWord_45 : decode cX9_isWord 45 = .ok (.iadd, 1) := by decide +kernel
theorem dX9_isWord_46 : decode cX9_isWord 46 = .ok (.iaload, 1) := by decide +kernel
theorem dX9_isWord_47 : decode cX9_isWord 47 = .ok (.aload_n 1, 1) := by decide +kernel
theorem dX9_isWord_48 : decode cX9_isWord 48 = .ok (.iload_n 2, 1) := by decide +kernel
theorem dX9_isWord_49 : decode cX9_isWord 49 = .ok (.invokevirtual 108, 3) := by decide +kernel
theorem dX9_isWord_52 : decode cX9_isWord 52 = .ok (.if_icmp .eq 5, 3) := by decide +kernel
theorem dX9_isWord_55 : decode cX9_isWord 55 = .ok (.iconst 0, 1) := by decide +kernel
theorem dX9_isWord_56 : decode cX9_isWord 56 = .ok (.ireturn, 1) := by decide +kernel
theorem dX9_isWord_57 : decode cX9_isWord 57 = .ok (.iinc 2 1, 3) := by decide +kernel
theorem dX9_isWord_60 : decode cX9_isWord 60 = .ok (.goto (-32), 3) := by decide +kernel
theorem dX9_isWord_63 : decode cX9_isWord 63 = .ok (.iconst 1, 1) := by decide +kernel
theorem dX9_isWord_64 : decode cX9_isWord 64 = .ok (.ireturn, 1) := by decide +kernel
theorem dX9_fail_0 : decode cX9_fail 0 = .ok (.aload_n 0, 1) := by decide +kernel
theorem dX9_fail_1 : decode cX9_fail 1 = .ok (.aload_n 0, 1) := by decide +kernel
theorem dX9_fail_2 : decode cX9_fail 2 = .ok (.getfield 88, 3) := by decide +kernel
theorem dX9_fail_5 : decode cX9_fail 5 = .ok (.iconst 1, 1) := by decide +kernel
theorem dX9_fail_6 : decode cX9_fail 6 = .ok (.if_icmp .ne 7, 3) := by decide +kernel
theorem dX9_fail_9 : decode cX9_fail 9 = .ok (.iconst 1, 1) := by decide +kernel
theorem dX9_fail_10 : decode cX9_fail 10 = .ok (.goto 4, 3) := by decide +kernel
theorem dX9_fail_13 : decode cX9_fail 13 = .ok (.iload_n 1, 1) := by decide +kernel
theorem dX9_fail_14 : decode cX9_fail 14 = .ok (.putfield 112, 3) := by decide +kernel
theorem dX9_fail_17 : decode cX9_fail 17 = .ok (.aload_n 0, 1) := by decide +kernel
theorem dX9_fail_18 : decode cX9_fail 18 = .ok (.aload_n 0, 1) := by decide +kernel
theorem dX9_fail_19 : decode cX9_fail 19 = .ok (.getfield 85, 3) := by decide +kernel
theorem dX9_fail_22 : decode cX9_fail 22 = .ok (.putfield 115, 3) := by decide +kernel
theorem dX9_fail_25 : decode cX9_fail 25 = .ok (.iconst 0, 1) := by decide +kernel
theorem dX9_fail_26 : decode cX9_fail 26 = .ok (.ireturn, 1) := by decide +kernel
theorem dX9_number_0 : decode cX9_number 0 = .ok (.aload_n 0, 1) := by decide +kernel
theorem dX9_number_1 : decode cX9_number 1 = .ok (.getfield 88, 3) := by decide +kernel
theorem dX9_number_4 : decode cX9_number 4 = .ok (.iconst 3, 1) := by decide +kernel
theorem dX9_number_5 : decode cX9_number 5 = .ok (.if_icmp .eq 9, 3) := by decide +kernel
theorem dX9_number_8 : decode cX9_number 8 = .ok (.aload_n 0, 1) := by decide +kernel
theorem dX9_number_9 : decode cX9_number 9 = .ok (.iconst 2, 1) := by decide +kernel
theorem dX9_number_10 : decode cX9_number 10 = .ok (.invokevirtual 118, 3) := by decide +kernel
theorem dX9_number_13 : decode cX9_number 13 = .ok (.ireturn, 1) := by decide +kernel
theorem dX9_number_14 : decode cX9_number 14 = .ok (.aload_n 0, 1) := by decide +kernel
theorem dX9_number_15 : decode cX9_number 15 = .ok (.getfield 91, 3) := by decide +kernel
theorem dX9_number_18 : decode cX9_number 18 = .ok (.iload_n 2, 1) := by decide +kernel
theorem dX9_number_19 : decode cX9_number 19 = .ok (.iload_n 3, 1) := by decide +kernel
theorem dX9_number_20 : decode cX9_number 20 = .ok (.invokestatic 121, 3) := by decide +kernel
theorem dX9_number_23 : decode cX9_number 23 = .ok (.ifCond .ne 9, 3) := by decide +kernel
theorem dX9_number_26 : decode cX9_number 26 = .ok (.aload_n 0, 1) := by decide +kernel
theorem dX9_number_27 : decode cX9_number 27 = .ok (.iconst 3, 1) := by decide +kernel
theorem dX9_number_28 : decode cX9_number 28 = .ok (.invokevirtual 118, 3) := by decide +kernel
theorem dX9_number_31 : decode cX9_number 31 = .ok (.ireturn, 1) := by decide +kernel
theorem dX9_number_32 : decode cX9_number 32 = .ok (.aload_n 0, 1) := by decide +kernel
theorem dX9_number_33 : decode cX9_number 33 = .ok (.getfield 7, 3) := by decide +kernel
theorem dX9_number_36 : decode cX9_number 36 = .ok (.iload_n 1, 1) := by decide +kernel
theorem dX9_number_37 : decode cX9_number 37 = .ok (.aload_n 0, 1) := by decide +kernel
theorem dX9_number_38 : decode cX9_number 38 = .ok (.getfield 91, 3) := by decide +kernel
theorem dX9_number_41 : decode cX9_number 41 = .ok (.iastore, 1) := by decide +kernel
theorem dX9_number_42 : decode cX9_number 42 = .ok (.aload_n 0, 1) := by decide +kernel
theorem dX9_number_43 : decode cX9_number 43 = .ok (.invokevirtual 125, 3) := by decide +kernel
theorem dX9_number_46 : decode cX9_number 46 = .ok (.ireturn, 1) := by decide +kernel
theorem dX9_closed_0 : decode cX9_closed 0 = .ok (.aload_n 0, 1) := by decide +kernel
theorem dX9_closed_1 : decode cX9_closed 1 = .ok (.getfield 88, 3) := by decide +kernel
theorem dX9_closed_4 : decode cX9_closed 4 = .ok (.iconst 4, 1) := by decide +kernel
theorem dX9_closed_5 : decode cX9_closed 5 = .ok (.if_icmp .eq 9, 3) := by decide +kernel
theorem dX9_closed_8 : decode cX9_closed 8 = .ok (.aload_n 0, 1) := by decide +kernel
theorem dX9_closed_9 : decode cX9_closed 9 = .ok (.iconst 2, 1) := by decide +kernel
theorem dX9_closed_10 : decode cX9_closed 10 = .ok (.invokevirtual 118, 3) := by decide +kernel
theorem dX9_closed_13 : decode cX9_closed 13 = .ok (.ireturn, 1) := by decide +kernel
theorem dX9_closed_14 : decode cX9_closed 14 = .ok (.aload_n 0, 1) := by decide +kernel
theorem dX9_closed_15 : decode cX9_closed 15 = .ok (.invokevirtual 125, 3) := by decide +kernel
theorem dX9_closed_18 : decode cX9_closed 18 = .ok (.ireturn, 1) := by decide +kernel
theorem dX9_codeOf_0 : decode cX9_codeOf 0 = .ok (.iconst 0, 1) := by decide +kernel
theorem dX9_codeOf_1 : decode cX9_codeOf 1 = .ok (.istore_n 3, 1) := by decide +kernel
theorem dX9_codeOf_2 : decode cX9_codeOf 2 = .ok (.iload_n 1, 1) := by decide +kernel
theorem dX9_codeOf_3 : decode cX9_codeOf 3 = .ok (.istore 4, 2) := by decide +kernel
theorem dX9_codeOf_5 : decode cX9_codeOf 5 = .ok (.iload 4, 2) := by decide +kernel
theorem dX9_codeOf_7 : decode cX9_codeOf 7 = .ok (.iload_n 2, 1) := by decide +kernel
theorem dX9_codeOf_8 : decode cX9_codeOf 8 = .ok (.if_icmp .ge 27, 3) := by decide +kernel
theorem dX9_codeOf_11 : decode cX9_codeOf 11 = .ok (.bipush 27, 2) := by decide +kernel
theorem dX9_codeOf_13 : decode cX9_codeOf 13 = .ok (.iload_n 3, 1) := by decide +kernel
theorem dX9_codeOf_14 : decode cX9_codeOf 14 = .ok (.imul, 1) := by decide +kernel
theorem dX9_codeOf_15 : decode cX9_codeOf 15 = .ok (.aload_n 0, 1) := by decide +kernel
theorem dX9_codeOf_16 : decode cX9_codeOf 16 = .ok (.getfield 19, 3) := by decide +kernel
theorem dX9_codeOf_19 : decode cX9_codeOf 19 = .ok (.iload 4, 2) := by decide +kernel
theorem dX9_codeOf_21 : decode cX9_codeOf 21 = .ok (.iaload, 1) := by decide +kernel
theorem dX9_codeOf_22 : decode cX9_codeOf 22 = .ok (.iadd, 1) := by decide +kernel
theorem dX9_codeOf_23 : decode cX9_codeOf 23 = .ok (.bipush 97, 2) := by decide +kernel
theorem dX9_codeOf_25 : decode cX9_codeOf 25 = .ok (.isub, 1) := by decide +kernel
theorem dX9_codeOf_26 : decode cX9_codeOf 26 = .ok (.iconst 1, 1) := by decide +kernel
theorem dX9_codeOf_27 : decode cX9_codeOf 27 = .ok (.iadd, 1) := by decide +kernel
theorem dX9_codeOf_28 : decode cX9_codeOf 28 = .ok (.istore_n 3, 1) := by decide +kernel
theorem dX9_codeOf_29 : decode cX9_codeOf 29 = .ok (.iinc 4 1, 3) := by decide +kernel
theorem dX9_codeOf_32 : decode cX9_codeOf 32 = .ok (.goto (-27), 3) := by decide +kernel
theorem dX9_codeOf_35 : decode cX9_codeOf 35 = .ok (.iload_n 3, 1) := by decide +kernel
theorem dX9_codeOf_36 : decode cX9_codeOf 36 = .ok (.ireturn, 1) := by decide +kernel
theorem dX9_eventNamed_0 : decode cX9_eventNamed 0 = .ok (.iload_n 2, 1) := by decide +kernel
theorem dX9_eventNamed_1 : decode cX9_eventNamed 1 = .ok (.iload_n 1, 1) := by decide +kernel
theorem dX9_eventNamed_2 : decode cX9_eventNamed 2 = .ok (.iconst 4, 1) := by decide +kernel
theorem dX9_eventNamed_3 : decode cX9_eventNamed 3 = .ok (.iadd, 1) := by decide +kernel
theorem dX9_eventNamed_4 : decode cX9_eventNamed 4 = .ok (.invokestatic 129, 3) := by decide +kernel
theorem dX9_eventNamed_7 : decode cX9_eventNamed 7 = .ok (.istore_n 3, 1) := by decide +kernel
theorem dX9_eventNamed_8 : decode cX9_eventNamed 8 = .ok (.iconst 0, 1) := by decide +kernel
theorem dX9_eventNamed_9 : decode cX9_eventNamed 9 = .ok (.istore 4, 2) := by decide +kernel
theorem dX9_eventNamed_11 : decode cX9_eventNamed 11 = .ok (.iload 4, 2) := by decide +kernel
theorem dX9_eventNamed_13 : decode cX9_eventNamed 13 = .ok (.aload_n 0, 1) := by decide +kernel
theorem dX9_eventNamed_14 : decode cX9_eventNamed 14 = .ok (.getfield 7, 3) := by decide +kernel
theorem dX9_eventNamed_17 : decode cX9_eventNamed 17 = .ok (.iconst 1, 1) := by decide +kernel
theorem dX9_eventNamed_18 : decode cX9_eventNamed 18 = .ok (.iaload, 1) := by decide +kernel
theorem dX9_eventNamed_19 : decode cX9_eventNamed 19 = .ok (.if_icmp .ge 54, 3) := by decide +kernel
theorem dX9_eventNamed_22 : decode cX9_eventNamed 22 = .ok (.aload_n 0, 1) := by decide +kernel
theorem dX9_eventNamed_23 : decode cX9_eventNamed 23 = .ok (.getfield 7, 3) := by decide +kernel
theorem dX9_eventNamed_26 : decode cX9_eventNamed 26 = .ok (.iconst 2, 1) := by decide +kernel
theorem dX9_eventNamed_27 : decode cX9_eventNamed 27 = .ok (.iconst 2, 1) := by decide +kernel
theorem dX9_eventNamed_28 : decode cX9_eventNamed 28 = .ok (.iload 4, 2) := by decide +kernel
theorem dX9_eventNamed_30 : decode cX9_eventNamed 30 = .ok (.imul, 1) := by decide +kernel
theorem dX9_eventNamed_31 : decode cX9_eventNamed 31 = .ok (.iadd, 1) := by decide +kernel
theorem dX9_eventNamed_32 : decode cX9_eventNamed 32 = .ok (.iaload, 1) := by decide +kernel
theorem dX9_eventNamed_33 : decode cX9_eventNamed 33 = .ok (.aload_n 0, 1) := by decide +kernel
theorem dX9_eventNamed_34 : decode cX9_eventNamed 34 = .ok (.iload_n 1, 1) := by decide +kernel
theorem dX9_eventNamed_35 : decode cX9_eventNamed 35 = .ok (.iload_n 3, 1) := by decide +kernel
theorem dX9_eventNamed_36 : decode cX9_eventNamed 36 = .ok (.invokevirtual 135, 3) := by decide +kernel
theorem dX9_eventNamed_39 : decode cX9_eventNamed 39 = .ok (.if_icmp .ne 28, 3) := by decide +kernel
theorem dX9_eventNamed_42 : decode cX9_eventNamed 42 = .ok (.aload_n 0, 1) := by decide +kernel
theorem dX9_eventNamed_43 : decode cX9_eventNamed 43 = .ok (.getfield 7, 3) := by decide +kernel
theorem dX9_eventNamed_46 : decode cX9_eventNamed 46 = .ok (.iconst 2, 1) := by decide +kernel
theorem dX9_eventNamed_47 : decode cX9_eventNamed 47 = .ok (.iconst 2, 1) := by decide +kernel
theorem dX9_eventNamed_48 : decode cX9_eventNamed 48 = .ok (.iload 4, 2) := by decide +kernel
theorem dX9_eventNamed_50 : decode cX9_eventNamed 50 = .ok (.imul, 1) := by decide +kernel
theorem dX9_eventNamed_51 : decode cX9_eventNamed 51 = .ok (.iadd, 1) := by decide +kernel
theorem dX9_eventNamed_52 : decode cX9_eventNamed 52 = .ok (.iconst 1, 1) := by decide +kernel
theorem dX9_eventNamed_53 : decode cX9_eventNamed 53 = .ok (.iadd, 1) := by decide +kernel
theorem dX9_eventNamed_54 : decode cX9_eventNamed 54 = .ok (.iaload, 1) := by decide +kernel
theorem dX9_eventNamed_55 : decode cX9_eventNamed 55 = .ok (.aload_n 0, 1) := by decide +kernel
theorem dX9_eventNamed_56 : decode cX9_eventNamed 56 = .ok (.iload_n 3, 1) := by decide +kernel
theorem dX9_eventNamed_57 : decode cX9_eventNamed 57 = .ok (.iload_n 2, 1) := by decide +kernel
theorem dX9_eventNamed_58 : decode cX9_eventNamed 58 = .ok (.invokevirtual 135, 3) := by decide +kernel
theorem dX9_eventNamed_61 : decode cX9_eventNamed 61 = .ok (.if_icmp .ne 6, 3) := by decide +kernel
theorem dX9_eventNamed_64 : decode cX9_eventNamed 64 = .ok (.iload 4, 2) := by decide +kernel
theorem dX9_eventNamed_66 : decode cX9_eventNamed 66 = .ok (.ireturn, 1) := by decide +kernel
theorem dX9_eventNamed_67 : decode cX9_eventNamed 67 = .ok (.iinc 4 1, 3) := by decide +kernel
theorem dX9_eventNamed_70 : decode cX9_eventNamed 70 = .ok (.goto (-59), 3) := by decide +kernel
theorem dX9_eventNamed_73 : decode cX9_eventNamed 73 = .ok (.iconst (-1), 1) := by decide +kernel
theorem dX9_eventNamed_74 : decode cX9_eventNamed 74 = .ok (.ireturn, 1) := by decide +kernel
theorem dX9_periodStatement_0 : decode cX9_periodStatement 0 = .ok (.aload_n 0, 1) := by decide +kernel
theorem dX9_periodStatement_1 : decode cX9_periodStatement 1 = .ok (.ldc 138, 2) := by decide +kernel
theorem dX9_periodStatement_3 : decode cX9_periodStatement 3 = .ok (.invokevirtual 140, 3) := by decide +kernel
theorem dX9_periodStatement_6 : decode cX9_periodStatement 6 = .ok (.ifCond .ne 9, 3) := by decide +kernel
theorem dX9_periodStatement_9 : decode cX9_periodStatement 9 = .ok (.aload_n 0, 1) := by decide +kernel
theorem dX9_periodStatement_10 : decode cX9_periodStatement 10 = .ok (.iconst 2, 1) := by decide +kernel
theorem dX9_periodStatement_11 : decode cX9_periodStatement 11 = .ok (.invokevirtual 118, 3) := by decide +kernel
theorem dX9_periodStatement_14 : decode cX9_periodStatement 14 = .ok (.ireturn, 1) := by decide +kernel
theorem dX9_periodStatement_15 : decode cX9_periodStatement 15 = .ok (.aload_n 0, 1) := by decide +kernel
theorem dX9_periodStatement_16 : decode cX9_periodStatement 16 = .ok (.invokevirtual 125, 3) := by decide +kernel
theorem dX9_periodStatement_19 : decode cX9_periodStatement 19 = .ok (.pop, 1) := by decide +kernel
theorem dX9_periodStatement_20 : decode cX9_periodStatement 20 = .ok (.aload_n 0, 1) := by decide +kernel
theorem dX9_periodStatement_21 : decode cX9_periodStatement 21 = .ok (.iconst 0, 1) := by decide +kernel
theorem dX9_periodStatement_22 : decode cX9_periodStatement 22 = .ok (.iconst 2, 1) := by decide +kernel
theorem dX9_periodStatement_23 : decode cX9_periodStatement 23 = .ok (.bipush 24, 2) := by decide +kernel
theorem dX9_periodStatement_25 : decode cX9_periodStatement 25 = .ok (.invokevirtual 144, 3) := by decide +kernel
theorem dX9_periodStatement_28 : decode cX9_periodStatement 28 = .ok (.ireturn, 1) := by decide +kernel
theorem dX9_eventStatement_0 : decode cX9_eventStatement 0 = .ok (.aload_n 0, 1) := by decide +kernel
theorem dX9_eventStatement_1 : decode cX9_eventStatement 1 = .ok (.getfield 7, 3) := by decide +kernel
theorem dX9_eventStatement_4 : decode cX9_eventStatement 4 = .ok (.iconst 1, 1) := by decide +kernel
theorem dX9_eventStatement_5 : decode cX9_eventStatement 5 = .ok (.iaload, 1) := by decide +kernel
theorem dX9_eventStatement_6 : decode cX9_eventStatement 6 = .ok (.istore_n 1, 1) := by decide +kernel
theorem dX9_eventStatement_7 : decode cX9_eventStatement 7 = .ok (.iload_n 1, 1) := by decide +kernel
theorem dX9_eventStatement_8 : decode cX9_eventStatement 8 = .ok (.bipush 6, 2) := by decide +kernel
theorem dX9_eventStatement_10 : decode cX9_eventStatement 10 = .ok (.if_icmp .ne 9, 3) := by decide +kernel
theorem dX9_eventStatement_13 : decode cX9_eventStatement 13 = .ok (.aload_n 0, 1) := by decide +kernel
theorem dX9_eventStatement_14 : decode cX9_eventStatement 14 = .ok (.iconst 5, 1) := by decide +kernel
theorem dX9_eventStatement_15 : decode cX9_eventStatement 15 = .ok (.invokevirtual 118, 3) := by decide +kernel
theorem dX9_eventStatement_18 : decode cX9_eventStatement 18 = .ok (.ireturn, 1) := by decide +kernel
theorem dX9_eventStatement_19 : decode cX9_eventStatement 19 = .ok (.aload_n 0, 1) := by decide +kernel
theorem dX9_eventStatement_20 : decode cX9_eventStatement 20 = .ok (.invokevirtual 125, 3) := by decide +kernel
theorem dX9_eventStatement_23 : decode cX9_eventStatement 23 = .ok (.pop, 1) := by decide +kernel
theorem dX9_eventStatement_24 : decode cX9_eventStatement 24 = .ok (.aload_n 0, 1) := by decide +kernel
theorem dX9_eventStatement_25 : decode cX9_eventStatement 25 = .ok (.getfield 88, 3) := by decide +kernel
theorem dX9_eventStatement_28 : decode cX9_eventStatement 28 = .ok (.iconst 2, 1) := by decide +kernel
theorem dX9_eventStatement_29 : decode cX9_eventStatement 29 = .ok (.if_icmp .eq 9, 3) := by decide +kernel
theorem dX9_eventStatement_32 : decode cX9_eventStatement 32 = .ok (.aload_n 0, 1) := by decide +kernel
theorem dX9_eventStatement_33 : decode cX9_eventStatement 33 = .ok (.iconst 2, 1) := by decide +kernel
theorem dX9_eventStatement_34 : decode cX9_eventStatement 34 = .ok (.invokevirtual 118, 3) := by decide +kernel
theorem dX9_eventStatement_37 : decode cX9_eventStatement 37 = .ok (.ireturn, 1) := by decide +kernel
theorem dX9_eventStatement_38 : decode cX9_eventStatement 38 = .ok (.aload_n 0, 1) := by decide +kernel
theorem dX9_eventStatement_39 : decode cX9_eventStatement 39 = .ok (.aload_n 0, 1) := by decide +kernel
theorem dX9_eventStatement_40 : decode cX9_eventStatement 40 = .ok (.getfield 85, 3) := by decide +kernel
theorem dX9_eventStatement_43 : decode cX9_eventStatement 43 = .ok (.aload_n 0, 1) := by decide +kernel
theorem dX9_eventStatement_44 : decode cX9_eventStatement 44 = .ok (.getfield 74, 3) := by decide +kernel
theorem dX9_eventStatement_47 : decode cX9_eventStatement 47 = .ok (.invokevirtual 147, 3) := by decide +kernel
theorem dX9_eventStatement_50 : decode cX9_eventStatement 50 = .ok (.iconst (-1), 1) := by decide +kernel
theorem dX9_eventStatement_51 : decode cX9_eventStatement 51 = .ok (.if_icmp .eq 9, 3) := by decide +kernel
theorem dX9_eventStatement_54 : decode cX9_eventStatement 54 = .ok (.aload_n 0, 1) := by decide +kernel
theorem dX9_eventStatement_55 : decode cX9_eventStatement 55 = .ok (.iconst 4, 1) := by decide +kernel
theorem dX9_eventStatement_56 : decode cX9_eventStatement 56 = .ok (.invokevirtual 118, 3) := by decide +kernel
theorem dX9_eventStatement_59 : decode cX9_eventStatement 59 = .ok (.ireturn, 1) := by decide +kernel
theorem dX9_eventStatement_60 : decode cX9_eventStatement 60 = .ok (.aload_n 0, 1) := by decide +kernel
theorem dX9_eventStatement_61 : decode cX9_eventStatement 61 = .ok (.getfield 74, 3) := by decide +kernel
theorem dX9_eventStatement_64 : decode cX9_eventStatement 64 = .ok (.aload_n 0, 1) := by decide +kernel
theorem dX9_eventStatement_65 : decode cX9_eventStatement 65 = .ok (.getfield 85, 3) := by decide +kernel
theorem dX9_eventStatement_68 : decode cX9_eventStatement 68 = .ok (.iconst 4, 1) := by decide +kernel
theorem dX9_eventStatement_69 : decode cX9_eventStatement 69 = .ok (.iadd, 1) := by decide +kernel
theorem dX9_eventStatement_70 : decode cX9_eventStatement 70 = .ok (.invokestatic 129, 3) := by decide +kernel
theorem dX9_eventStatement_73 : decode cX9_eventStatement 73 = .ok (.istore_n 2, 1) := by decide +kernel
theorem dX9_eventStatement_74 : decode cX9_eventStatement 74 = .ok (.aload_n 0, 1) := by decide +kernel
theorem dX9_eventStatement_75 : decode cX9_eventStatement 75 = .ok (.getfield 7, 3) := by decide +kernel
theorem dX9_eventStatement_78 : decode cX9_eventStatement 78 = .ok (.iconst 2, 1) := by decide +kernel
theorem dX9_eventStatement_79 : decode cX9_eventStatement 79 = .ok (.iconst 2, 1) := by decide +kernel
theorem dX9_eventStatement_80 : decode cX9_eventStatement 80 = .ok (.iload_n 1, 1) := by decide +kernel
theorem dX9_eventStatement_81 : decode cX9_eventStatement 81 = .ok (.imul, 1) := by decide +kernel
theorem dX9_eventStatement_82 : decode cX9_eventStatement 82 = .ok (.iadd, 1) := by decide +kernel
theorem dX9_eventStatement_83 : decode cX9_eventStatement 83 = .ok (.aload_n 0, 1) := by decide +kernel
theorem dX9_eventStatement_84 : decode cX9_eventStatement 84 = .ok (.aload_n 0, 1) := by decide +kernel
theorem dX9_eventStatement_85 : decode cX9_eventStatement 85 = .ok (.getfield 85, 3) := by decide +kernel
theorem dX9_eventStatement_88 : decode cX9_eventStatement 88 = .ok (.iload_n 2, 1) := by decide +kernel
theorem dX9_eventStatement_89 : decode cX9_eventStatement 89 = .ok (.invokevirtual 135, 3) := by decide +kernel
theorem dX9_eventStatement_92 : decode cX9_eventStatement 92 = .ok (.iastore, 1) := by decide +kernel
theorem dX9_eventStatement_93 : decode cX9_eventStatement 93 = .ok (.aload_n 0, 1) := by decide +kernel
theorem dX9_eventStatement_94 : decode cX9_eventStatement 94 = .ok (.getfield 7, 3) := by decide +kernel
theorem dX9_eventStatement_97 : decode cX9_eventStatement 97 = .ok (.iconst 2, 1) := by decide +kernel
theorem dX9_eventStatement_98 : decode cX9_eventStatement 98 = .ok (.iconst 2, 1) := by decide +kernel
theorem dX9_eventStatement_99 : decode cX9_eventStatement 99 = .ok (.iload_n 1, 1) := by decide +kernel
theorem dX9_eventStatement_100 : decode cX9_eventStatement 100 = .ok (.imul, 1) := by decide +kernel
theorem dX9_eventStatement_101 : decode cX9_eventStatement 101 = .ok (.iadd, 1) := by decide +kernel
theorem dX9_eventStatement_102 : decode cX9_eventStatement 102 = .ok (.iconst 1, 1) := by decide +kernel
theorem dX9_eventStatement_103 : decode cX9_eventStatement 103 = .ok (.iadd, 1) := by decide +kernel
theorem dX9_eventStatement_104 : decode cX9_eventStatement 104 = .ok (.aload_n 0, 1) := by decide +kernel
theorem dX9_eventStatement_105 : decode cX9_eventStatement 105 = .ok (.iload_n 2, 1) := by decide +kernel
theorem dX9_eventStatement_106 : decode cX9_eventStatement 106 = .ok (.aload_n 0, 1) := by decide +kernel
theorem dX9_eventStatement_107 : decode cX9_eventStatement 107 = .ok (.getfield 74, 3) := by decide +kernel
theorem dX9_eventStatement_110 : decode cX9_eventStatement 110 = .ok (.invokevirtual 135, 3) := by decide +kernel
theorem dX9_eventStatement_113 : decode cX9_eventStatement 113 = .ok (.iastore, 1) := by decide +kernel
theorem dX9_eventStatement_114 : decode cX9_eventStatement 114 = .ok (.aload_n 0, 1) := by decide +kernel
theorem dX9_eventStatement_115 : decode cX9_eventStatement 115 = .ok (.invokevirtual 125, 3) := by decide +kernel
theorem dX9_eventStatement_118 : decode cX9_eventStatement 118 = .ok (.pop, 1) := by decide +kernel
theorem dX9_eventStatement_119 : decode cX9_eventStatement 119 = .ok (.aload_n 0, 1) := by decide +kernel
theorem dX9_eventStatement_120 : decode cX9_eventStatement 120 = .ok (.bipush 14, 2) := by decide +kernel
theorem dX9_eventStatement_122 : decode cX9_eventStatement 122 = .ok (.iload_n 1, 1) := by decide +kernel
theorem dX9_eventStatement_123 : decode cX9_eventStatement 123 = .ok (.iadd, 1) := by decide +kernel
theorem dX9_eventStatement_124 : decode cX9_eventStatement 124 = .ok (.iconst 0, 1) := by decide +kernel
theorem dX9_eventStatement_125 : decode cX9_eventStatement 125 = .ok (.aload_n 0, 1) := by decide +kernel
theorem dX9_eventStatement_126 : decode cX9_eventStatement 126 = .ok (.getfield 7, 3) := by decide +kernel
theorem dX9_eventStatement_129 : decode cX9_eventStatement 129 = .ok (.iconst 0, 1) := by decide +kernel
theorem dX9_eventStatement_130 : decode cX9_eventStatement 130 = .ok (.iaload, 1) := by decide +kernel
theorem dX9_eventStatement_131 : decode cX9_eventStatement 131 = .ok (.iconst 1, 1) := by decide +kernel
theorem dX9_eventStatement_132 : decode cX9_eventStatement 132 = .ok (.isub, 1) := by decide +kernel
theorem dX9_eventStatement_133 : decode cX9_eventStatement 133 = .ok (.invokevirtual 144, 3) := by decide +kernel
theorem dX9_eventStatement_136 : decode cX9_eventStatement 136 = .ok (.ifCond .ne 5, 3) := by decide +kernel
theorem dX9_eventStatement_139 : decode cX9_eventStatement 139 = .ok (.iconst 0, 1) := by decide +kernel
theorem dX9_eventStatement_140 : decode cX9_eventStatement 140 = .ok (.ireturn, 1) := by decide +kernel
theorem dX9_eventStatement_141 : decode cX9_eventStatement 141 = .ok (.aload_n 0, 1) := by decide +kernel
theorem dX9_eventStatement_142 : decode cX9_eventStatement 142 = .ok (.getfield 7, 3) := by decide +kernel
theorem dX9_eventStatement_145 : decode cX9_eventStatement 145 = .ok (.iconst 1, 1) := by decide +kernel
theorem dX9_eventStatement_146 : decode cX9_eventStatement 146 = .ok (.dup2, 1) := by decide +kernel
theorem dX9_eventStatement_147 : decode cX9_eventStatement 147 = .ok (.iaload, 1) := by decide +kernel
theorem dX9_eventStatement_148 : decode cX9_eventStatement 148 = .ok (.iconst 1, 1) := by decide +kernel
theorem dX9_eventStatement_149 : decode cX9_eventStatement 149 = .ok (.iadd, 1) := by decide +kernel
theorem dX9_eventStatement_150 : decode cX9_eventStatement 150 = .ok (.iastore, 1) := by decide +kernel
theorem dX9_eventStatement_151 : decode cX9_eventStatement 151 = .ok (.iconst 1, 1) := by decide +kernel
theorem dX9_eventStatement_152 : decode cX9_eventStatement 152 = .ok (.ireturn, 1) := by decide +kernel
theorem dX9_eventInto_0 : decode cX9_eventInto 0 = .ok (.aload_n 0, 1) := by decide +kernel
theorem dX9_eventInto_1 : decode cX9_eventInto 1 = .ok (.getfield 88, 3) := by decide +kernel
theorem dX9_eventInto_4 : decode cX9_eventInto 4 = .ok (.iconst 2, 1) := by decide +kernel
theorem dX9_eventInto_5 : decode cX9_eventInto 5 = .ok (.if_icmp .eq 9, 3) := by decide +kernel
theorem dX9_eventInto_8 : decode cX9_eventInto 8 = .ok (.aload_n 0, 1) := by decide +kernel
theorem dX9_eventInto_9 : decode cX9_eventInto 9 = .ok (.iconst 2, 1) := by decide +kernel
theorem dX9_eventInto_10 : decode cX9_eventInto 10 = .ok (.invokevirtual 118, 3) := by decide +kernel
theorem dX9_eventInto_13 : decode cX9_eventInto 13 = .ok (.ireturn, 1) := by decide +kernel
theorem dX9_eventInto_14 : decode cX9_eventInto 14 = .ok (.aload_n 0, 1) := by decide +kernel
theorem dX9_eventInto_15 : decode cX9_eventInto 15 = .ok (.aload_n 0, 1) := by decide +kernel
theorem dX9_eventInto_16 : decode cX9_eventInto 16 = .ok (.getfield 85, 3) := by decide +kernel
theorem dX9_eventInto_19 : decode cX9_eventInto 19 = .ok (.aload_n 0, 1) := by decide +kernel
theorem dX9_eventInto_20 : decode cX9_eventInto 20 = .ok (.getfield 74, 3) := by decide +kernel
theorem dX9_eventInto_23 : decode cX9_eventInto 23 = .ok (.invokevirtual 147, 3) := by decide +kernel
theorem dX9_eventInto_26 : decode cX9_eventInto 26 = .ok (.istore_n 3, 1) := by decide +kernel
theorem dX9_eventInto_27 : decode cX9_eventInto 27 = .ok (.iload_n 3, 1) := by decide +kernel
theorem dX9_eventInto_28 : decode cX9_eventInto 28 = .ok (.iconst (-1), 1) := by decide +kernel
theorem dX9_eventInto_29 : decode cX9_eventInto 29 = .ok (.if_icmp .eq 8, 3) := by decide +kernel
theorem dX9_eventInto_32 : decode cX9_eventInto 32 = .ok (.iload_n 3, 1) := by decide +kernel
theorem dX9_eventInto_33 : decode cX9_eventInto 33 = .ok (.iload_n 2, 1) := by decide +kernel
theorem dX9_eventInto_34 : decode cX9_eventInto 34 = .ok (.if_icmp .ne 9, 3) := by decide +kernel
theorem dX9_eventInto_37 : decode cX9_eventInto 37 = .ok (.aload_n 0, 1) := by decide +kernel
theorem dX9_eventInto_38 : decode cX9_eventInto 38 = .ok (.iconst 4, 1) := by decide +kernel
theorem dX9_eventInto_39 : decode cX9_eventInto 39 = .ok (.invokevirtual 118, 3) := by decide +kernel
theorem dX9_eventInto_42 : decode cX9_eventInto 42 = .ok (.ireturn, 1) := by decide +kernel
theorem dX9_eventInto_43 : decode cX9_eventInto 43 = .ok (.aload_n 0, 1) := by decide +kernel
theorem dX9_eventInto_44 : decode cX9_eventInto 44 = .ok (.getfield 7, 3) := by decide +kernel
theorem dX9_eventInto_47 : decode cX9_eventInto 47 = .ok (.iload_n 1, 1) := by decide +kernel
theorem dX9_eventInto_48 : decode cX9_eventInto 48 = .ok (.iload_n 3, 1) := by decide +kernel
theorem dX9_eventInto_49 : decode cX9_eventInto 49 = .ok (.iastore, 1) := by decide +kernel
theorem dX9_eventInto_50 : decode cX9_eventInto 50 = .ok (.aload_n 0, 1) := by decide +kernel
theorem dX9_eventInto_51 : decode cX9_eventInto 51 = .ok (.invokevirtual 125, 3) := by decide +kernel
theorem dX9_eventInto_54 : decode cX9_eventInto 54 = .ok (.ireturn, 1) := by decide +kernel
theorem dX9_at_0 : decode cX9_at 0 = .ok (.bipush 21, 2) := by decide +kernel
theorem dX9_at_2 : decode cX9_at 2 = .ok (.iconst 5, 1) := by decide +kernel
theorem dX9_at_3 : decode cX9_at 3 = .ok (.iload_n 0, 1) := by decide +kernel
theorem dX9_at_4 : decode cX9_at 4 = .ok (.imul, 1) := by decide +kernel
theorem dX9_at_5 : decode cX9_at 5 = .ok (.iadd, 1) := by decide +kernel
theorem dX9_at_6 : decode cX9_at 6 = .ok (.ireturn, 1) := by decide +kernel
theorem dX9_spanStatement_0 : decode cX9_spanStatement 0 = .ok (.aload_n 0, 1) := by decide +kernel
theorem dX9_spanStatement_1 : decode cX9_spanStatement 1 = .ok (.getfield 7, 3) := by decide +kernel
theorem dX9_spanStatement_4 : decode cX9_spanStatement 4 = .ok (.bipush 20, 2) := by decide +kernel
theorem dX9_spanStatement_6 : decode cX9_spanStatement 6 = .ok (.iaload, 1) := by decide +kernel
theorem dX9_spanStatement_7 : decode cX9_spanStatement 7 = .ok (.istore_n 1, 1) := by decide +kernel
theorem dX9_spanStatement_8 : decode cX9_spanStatement 8 = .ok (.iload_n 1, 1) := by decide +kernel
theorem dX9_spanStatement_9 : decode cX9_spanStatement 9 = .ok (.bipush 14, 2) := by decide +kernel
theorem dX9_spanStatement_11 : decode cX9_spanStatement 11 = .ok (.if_icmp .ne 9, 3) := by decide +kernel
theorem dX9_spanStatement_14 : decode cX9_spanStatement 14 = .ok (.aload_n 0, 1) := by decide +kernel
theorem dX9_spanStatement_15 : decode cX9_spanStatement 15 = .ok (.iconst 5, 1) := by decide +kernel
theorem dX9_spanStatement_16 : decode cX9_spanStatement 16 = .ok (.invokevirtual 118, 3) := by decide +kernel
theorem dX9_spanStatement_19 : decode cX9_spanStatement 19 = .ok (.ireturn, 1) := by decide +kernel
theorem dX9_spanStatement_20 : decode cX9_spanStatement 20 = .ok (.aload_n 0, 1) := by decide +kernel
theorem dX9_spanStatement_21 : decode cX9_spanStatement 21 = .ok (.invokevirtual 125, 3) := by decide +kernel
theorem dX9_spanStatement_24 : decode cX9_spanStatement 24 = .ok (.pop, 1) := by decide +kernel
theorem dX9_spanStatement_25 : decode cX9_spanStatement 25 = .ok (.aload_n 0, 1) := by decide +kernel
theorem dX9_spanStatement_26 : decode cX9_spanStatement 26 = .ok (.iload_n 1, 1) := by decide +kernel
theorem dX9_spanStatement_27 : decode cX9_spanStatement 27 = .ok (.invokestatic 150, 3) := by decide +kernel
theorem dX9_spanStatement_30 : decode cX9_spanStatement 30 = .ok (.iconst 0, 1) := by decide +kernel
theorem dX9_spanStatement_31 : decode cX9_spanStatement 31 = .ok (.iadd, 1) := by decide +kernel
theorem dX9_spanStatement_32 : decode cX9_spanStatement 32 = .ok (.iconst (-1), 1) := by decide +kernel
theorem dX9_spanStatement_33 : decode cX9_spanStatement 33 = .ok (.invokevirtual 153, 3) := by decide +kernel
theorem dX9_spanStatement_36 : decode cX9_spanStatement 36 = .ok (.ifCond .eq 43, 3) := by decide +kernel
theorem dX9_spanStatement_39 : decode cX9_spanStatement 39 = .ok (.aload_n 0, 1) := by decide +kernel
theorem dX9_spanStatement_40 : decode cX9_spanStatement 40 = .ok (.iload_n 1, 1) := by decide +kernel
theorem dX9_spanStatement_41 : decode cX9_spanStatement 41 = .ok (.invokestatic 150, 3) := by decide +kernel
theorem dX9_spanStatement_44 : decode cX9_spanStatement 44 = .ok (.iconst 1, 1) := by decide +kernel
theorem dX9_spanStatement_45 : decode cX9_spanStatement 45 = .ok (.iadd, 1) := by decide +kernel
theorem dX9_spanStatement_46 : decode cX9_spanStatement 46 = .ok (.aload_n 0, 1) := by decide +kernel
theorem dX9_spanStatement_47 : decode cX9_spanStatement 47 = .ok (.getfield 7, 3) := by decide +kernel
theorem dX9_spanStatement_50 : decode cX9_spanStatement 50 = .ok (.iload_n 1, 1) := by decide +kernel
theorem dX9_spanStatement_51 : decode cX9_spanStatement 51 = .ok (.invokestatic 150, 3) := by decide +kernel
theorem dX9_spanStatement_54 : decode cX9_spanStatement 54 = .ok (.iconst 0, 1) := by decide +kernel
theorem dX9_spanStatement_55 : decode cX9_spanStatement 55 = .ok (.iadd, 1) := by decide +kernel
theorem dX9_spanStatement_56 : decode cX9_spanStatement 56 = .ok (.iaload, 1) := by decide +kernel
theorem dX9_spanStatement_57 : decode cX9_spanStatement 57 = .ok (.invokevirtual 153, 3) := by decide +kernel
theorem dX9_spanStatement_60 : decode cX9_spanStatement 60 = .ok (.ifCond .eq 19, 3) := by decide +kernel
theorem dX9_spanStatement_63 : decode cX9_spanStatement 63 = .ok (.aload_n 0, 1) := by decide +kernel
theorem dX9_spanStatement_64 : decode cX9_spanStatement 64 = .ok (.iload_n 1, 1) := by decide +kernel
theorem dX9_spanStatement_65 : decode cX9_spanStatement 65 = .ok (.invokestatic 150, 3) := by decide +kernel
theorem dX9_spanStatement_68 : decode cX9_spanStatement 68 = .ok (.iconst 2, 1) := by decide +kernel
theorem dX9_spanStatement_69 : decode cX9_spanStatement 69 = .ok (.iadd, 1) := by decide +kernel
theorem dX9_spanStatement_70 : decode cX9_spanStatement 70 = .ok (.iconst 0, 1) := by decide +kernel
theorem dX9_spanStatement_71 : decode cX9_spanStatement 71 = .ok (.bipush 48, 2) := by decide +kernel
theorem dX9_spanStatement_73 : decode cX9_spanStatement 73 = .ok (.invokevirtual 144, 3) := by decide +kernel
theorem dX9_spanStatement_76 : decode cX9_spanStatement 76 = .ok (.ifCond .ne 5, 3) := by decide +kernel
theorem dX9_spanStatement_79 : decode cX9_spanStatement 79 = .ok (.iconst 0, 1) := by decide +kernel
theorem dX9_spanStatement_80 : decode cX9_spanStatement 80 = .ok (.ireturn, 1) := by decide +kernel
theorem dX9_spanStatement_81 : decode cX9_spanStatement 81 = .ok (.aload_n 0, 1) := by decide +kernel
theorem dX9_spanStatement_82 : decode cX9_spanStatement 82 = .ok (.getfield 7, 3) := by decide +kernel
theorem dX9_spanStatement_85 : decode cX9_spanStatement 85 = .ok (.iload_n 1, 1) := by decide +kernel
theorem dX9_spanStatement_86 : decode cX9_spanStatement 86 = .ok (.invokestatic 150, 3) := by decide +kernel
theorem dX9_spanStatement_89 : decode cX9_spanStatement 89 = .ok (.iconst 2, 1) := by decide +kernel
theorem dX9_spanStatement_90 : decode cX9_spanStatement 90 = .ok (.iadd, 1) := by decide +kernel
theorem dX9_spanStatement_91 : decode cX9_spanStatement 91 = .ok (.iaload, 1) := by decide +kernel
theorem dX9_spanStatement_92 : decode cX9_spanStatement 92 = .ok (.istore_n 2, 1) := by decide +kernel
theorem dX9_spanStatement_93 : decode cX9_spanStatement 93 = .ok (.aload_n 0, 1) := by decide +kernel
theorem dX9_spanStatement_94 : decode cX9_spanStatement 94 = .ok (.iload_n 1, 1) := by decide +kernel
theorem dX9_spanStatement_95 : decode cX9_spanStatement 95 = .ok (.invokestatic 150, 3) := by decide +kernel
theorem dX9_spanStatement_98 : decode cX9_spanStatement 98 = .ok (.iconst 3, 1) := by decide +kernel
theorem dX9_spanStatement_99 : decode cX9_spanStatement 99 = .ok (.iadd, 1) := by decide +kernel
theorem dX9_spanStatement_100 : decode cX9_spanStatement 100 = .ok (.iload_n 2, 1) := by decide +kernel
theorem dX9_spanStatement_101 : decode cX9_spanStatement 101 = .ok (.iload_n 2, 1) := by decide +kernel
theorem dX9_spanStatement_102 : decode cX9_spanStatement 102 = .ok (.aload_n 0, 1) := by decide +kernel
theorem dX9_spanStatement_103 : decode cX9_spanStatement 103 = .ok (.getfield 7, 3) := by decide +kernel
theorem dX9_spanStatement_106 : decode cX9_spanStatement 106 = .ok (.iconst 0, 1) := by decide +kernel
theorem dX9_spanStatement_107 : decode cX9_spanStatement 107 = .ok (.iaload, 1) := by decide +kernel
theorem dX9_spanStatement_108 : decode cX9_spanStatement 108 = .ok (.iadd, 1) := by decide +kernel
theorem dX9_spanStatement_109 : decode cX9_spanStatement 109 = .ok (.iconst 1, 1) := by decide +kernel
theorem dX9_spanStatement_110 : decode cX9_spanStatement 110 = .ok (.isub, 1) := by decide +kernel
theorem dX9_spanStatement_111 : decode cX9_spanStatement 111 = .ok (.invokevirtual 144, 3) := by decide +kernel
theorem dX9_spanStatement_114 : decode cX9_spanStatement 114 = .ok (.ifCond .ne 5, 3) := by decide +kernel
theorem dX9_spanStatement_117 : decode cX9_spanStatement 117 = .ok (.iconst 0, 1) := by decide +kernel
theorem dX9_spanStatement_118 : decode cX9_spanStatement 118 = .ok (.ireturn, 1) := by decide +kernel
theorem dX9_spanStatement_119 : decode cX9_spanStatement 119 = .ok (.aload_n 0, 1) := by decide +kernel
theorem dX9_spanStatement_120 : decode cX9_spanStatement 120 = .ok (.getfield 7, 3) := by decide +kernel
theorem dX9_spanStatement_123 : decode cX9_spanStatement 123 = .ok (.iload_n 1, 1) := by decide +kernel
theorem dX9_spanStatement_124 : decode cX9_spanStatement 124 = .ok (.invokestatic 150, 3) := by decide +kernel
theorem dX9_spanStatement_127 : decode cX9_spanStatement 127 = .ok (.iconst 4, 1) := by decide +kernel
theorem dX9_spanStatement_128 : decode cX9_spanStatement 128 = .ok (.iadd, 1) := by decide +kernel
theorem dX9_spanStatement_129 : decode cX9_spanStatement 129 = .ok (.iconst 1, 1) := by decide +kernel
theorem dX9_spanStatement_130 : decode cX9_spanStatement 130 = .ok (.iastore, 1) := by decide +kernel
theorem dX9_spanStatement_131 : decode cX9_spanStatement 131 = .ok (.aload_n 0, 1) := by decide +kernel
theorem dX9_spanStatement_132 : decode cX9_spanStatement 132 = .ok (.getfield 88, 3) := by decide +kernel
theorem dX9_spanStatement_135 : decode cX9_spanStatement 135 = .ok (.iconst 3, 1) := by decide +kernel
theorem dX9_spanStatement_136 : decode cX9_spanStatement 136 = .ok (.if_icmp .ne 21, 3) := by decide +kernel
theorem dX9_spanStatement_139 : decode cX9_spanStatement 139 = .ok (.aload_n 0, 1) := by decide +kernel
theorem dX9_spanStatement_140 : decode cX9_spanStatement 140 = .ok (.iload_n 1, 1) := by decide +kernel
theorem dX9_spanStatement_141 : decode cX9_spanStatement 141 = .ok (.invokestatic 150, 3) := by decide +kernel
theorem dX9_spanStatement_144 : decode cX9_spanStatement 144 = .ok (.iconst 4, 1) := by decide +kernel
theorem dX9_spanStatement_145 : decode cX9_spanStatement 145 = .ok (.iadd, 1) := by decide +kernel
theorem dX9_spanStatement_146 : decode cX9_spanStatement 146 = .ok (.iconst 0, 1) := by decide +kernel
theorem dX9_spanStatement_147 : decode cX9_spanStatement 147 = .ok (.bipush 20, 2) := by decide +kernel
theorem dX9_spanStatement_149 : decode cX9_spanStatement 149 = .ok (.invokevirtual 144, 3) := by decide +kernel
theorem dX9_spanStatement_152 : decode cX9_spanStatement 152 = .ok (.ifCond .ne 5, 3) := by decide +kernel
theorem dX9_spanStatement_155 : decode cX9_spanStatement 155 = .ok (.iconst 0, 1) := by decide +kernel
theorem dX9_spanStatement_156 : decode cX9_spanStatement 156 = .ok (.ireturn, 1) := by decide +kernel
theorem dX9_spanStatement_157 : decode cX9_spanStatement 157 = .ok (.aload_n 0, 1) := by decide +kernel
theorem dX9_spanStatement_158 : decode cX9_spanStatement 158 = .ok (.getfield 7, 3) := by decide +kernel
theorem dX9_spanStatement_161 : decode cX9_spanStatement 161 = .ok (.bipush 20, 2) := by decide +kernel
theorem dX9_spanStatement_163 : decode cX9_spanStatement 163 = .ok (.dup2, 1) := by decide +kernel
theorem dX9_spanStatement_164 : decode cX9_spanStatement 164 = .ok (.iaload, 1) := by decide +kernel
theorem dX9_spanStatement_165 : decode cX9_spanStatement 165 = .ok (.iconst 1, 1) := by decide +kernel
theorem dX9_spanStatement_166 : decode cX9_spanStatement 166 = .ok (.iadd, 1) := by decide +kernel
theorem dX9_spanStatement_167 : decode cX9_spanStatement 167 = .ok (.iastore, 1) := by decide +kernel
theorem dX9_spanStatement_168 : decode cX9_spanStatement 168 = .ok (.iconst 1, 1) := by decide +kernel
theorem dX9_spanStatement_169 : decode cX9_spanStatement 169 = .ok (.ireturn, 1) := by decide +kernel
theorem dX9_statement_0 : decode cX9_statement 0 = .ok (.aload_n 0, 1) := by decide +kernel
theorem dX9_statement_1 : decode cX9_statement 1 = .ok (.ldc 157, 2) := by decide +kernel
theorem dX9_statement_3 : decode cX9_statement 3 = .ok (.invokevirtual 140, 3) := by decide +kernel
theorem dX9_statement_6 : decode cX9_statement 6 = .ok (.ifCond .eq 8, 3) := by decide +kernel
theorem dX9_statement_9 : decode cX9_statement 9 = .ok (.aload_n 0, 1) := by decide +kernel
theorem dX9_statement_10 : decode cX9_statement 10 = .ok (.invokevirtual 159, 3) := by decide +kernel
theorem dX9_statement_13 : decode cX9_statement 13 = .ok (.ireturn, 1) := by decide +kernel
theorem dX9_statement_14 : decode cX9_statement 14 = .ok (.aload_n 0, 1) := by decide +kernel
theorem dX9_statement_15 : decode cX9_statement 15 = .ok (.ldc 162, 2) := by decide +kernel
theorem dX9_statement_17 : decode cX9_statement 17 = .ok (.invokevirtual 140, 3) := by decide +kernel
theorem dX9_statement_20 : decode cX9_statement 20 = .ok (.ifCond .eq 10, 3) := by decide +kernel
theorem dX9_statement_23 : decode cX9_statement 23 = .ok (.aload_n 0, 1) := by decide +kernel
theorem dX9_statement_24 : decode cX9_statement 24 = .ok (.invokevirtual 164, 3) := by decide +kernel
theorem dX9_statement_27 : decode cX9_statement 27 = .ok (.goto 8, 3) := by decide +kernel
theorem dX9_statement_30 : decode cX9_statement 30 = .ok (.aload_n 0, 1) := by decide +kernel
theorem dX9_statement_31 : decode cX9_statement 31 = .ok (.iconst 2, 1) := by decide +kernel
theorem dX9_statement_32 : decode cX9_statement 32 = .ok (.invokevirtual 118, 3) := by decide +kernel
theorem dX9_statement_35 : decode cX9_statement 35 = .ok (.ireturn, 1) := by decide +kernel
theorem dX9_parse_0 : decode cX9_parse 0 = .ok (.aload_n 0, 1) := by decide +kernel
theorem dX9_parse_1 : decode cX9_parse 1 = .ok (.iload_n 1, 1) := by decide +kernel
theorem dX9_parse_2 : decode cX9_parse 2 = .ok (.putfield 71, 3) := by decide +kernel
theorem dX9_parse_5 : decode cX9_parse 5 = .ok (.aload_n 0, 1) := by decide +kernel
theorem dX9_parse_6 : decode cX9_parse 6 = .ok (.iconst 0, 1) := by decide +kernel
theorem dX9_parse_7 : decode cX9_parse 7 = .ok (.putfield 64, 3) := by decide +kernel
theorem dX9_parse_10 : decode cX9_parse 10 = .ok (.aload_n 0, 1) := by decide +kernel
theorem dX9_parse_11 : decode cX9_parse 11 = .ok (.iconst 0, 1) := by decide +kernel
theorem dX9_parse_12 : decode cX9_parse 12 = .ok (.putfield 74, 3) := by decide +kernel
theorem dX9_parse_15 : decode cX9_parse 15 = .ok (.aload_n 0, 1) := by decide +kernel
theorem dX9_parse_16 : decode cX9_parse 16 = .ok (.iconst 0, 1) := by decide +kernel
theorem dX9_parse_17 : decode cX9_parse 17 = .ok (.putfield 112, 3) := by decide +kernel
theorem dX9_parse_20 : decode cX9_parse 20 = .ok (.aload_n 0, 1) := by decide +kernel
theorem dX9_parse_21 : decode cX9_parse 21 = .ok (.iconst (-1), 1) := by decide +kernel
theorem dX9_parse_22 : decode cX9_parse 22 = .ok (.putfield 115, 3) := by decide +kernel
theorem dX9_parse_25 : decode cX9_parse 25 = .ok (.iconst 0, 1) := by decide +kernel
theorem dX9_parse_26 : decode cX9_parse 26 = .ok (.istore_n 2, 1) := by decide +kernel
theorem dX9_parse_27 : decode cX9_parse 27 = .ok (.iload_n 2, 1) := by decide +kernel
theorem dX9_parse_28 : decode cX9_parse 28 = .ok (.bipush 91, 2) := by decide +kernel
theorem dX9_parse_30 : decode cX9_parse 30 = .ok (.if_icmp .ge 16, 3) := by decide +kernel
theorem dX9_parse_33 : decode cX9_parse 33 = .ok (.aload_n 0, 1) := by decide +kernel
theorem dX9_parse_34 : decode cX9_parse 34 = .ok (.getfield 7, 3) := by decide +kernel
theorem dX9_parse_37 : decode cX9_parse 37 = .ok (.iload_n 2, 1) := by decide +kernel
theorem dX9_parse_38 : decode cX9_parse 38 = .ok (.iconst 0, 1) := by decide +kernel
theorem dX9_parse_39 : decode cX9_parse 39 = .ok (.iastore, 1) := by decide +kernel
theorem dX9_parse_40 : decode cX9_parse 40 = .ok (.iinc 2 1, 3) := by decide +kernel
theorem dX9_parse_43 : decode cX9_parse 43 = .ok (.goto (-16), 3) := by decide +kernel
theorem dX9_parse_46 : decode cX9_parse 46 = .ok (.aload_n 0, 1) := by decide +kernel
theorem dX9_parse_47 : decode cX9_parse 47 = .ok (.getfield 7, 3) := by decide +kernel
theorem dX9_parse_50 : decode cX9_parse 50 = .ok (.iconst 0, 1) := by decide +kernel
theorem dX9_parse_51 : decode cX9_parse 51 = .ok (.bipush 12, 2) := by decide +kernel
theorem dX9_parse_53 : decode cX9_parse 53 = .ok (.iastore, 1) := by decide +kernel
theorem dX9_parse_54 : decode cX9_parse 54 = .ok (.aload_n 0, 1) := by decide +kernel
theorem dX9_parse_55 : decode cX9_parse 55 = .ok (.invokevirtual 125, 3) := by decide +kernel
theorem dX9_parse_58 : decode cX9_parse 58 = .ok (.pop, 1) := by decide +kernel
theorem dX9_parse_59 : decode cX9_parse 59 = .ok (.aload_n 0, 1) := by decide +kernel
theorem dX9_parse_60 : decode cX9_parse 60 = .ok (.getfield 88, 3) := by decide +kernel
theorem dX9_parse_63 : decode cX9_parse 63 = .ok (.ifCond .eq 17, 3) := by decide +kernel
theorem dX9_parse_66 : decode cX9_parse 66 = .ok (.aload_n 0, 1) := by decide +kernel
theorem dX9_parse_67 : decode cX9_parse 67 = .ok (.invokevirtual 167, 3) := by decide +kernel
theorem dX9_parse_70 : decode cX9_parse 70 = .ok (.ifCond .eq 14, 3) := by decide +kernel
theorem dX9_parse_73 : decode cX9_parse 73 = .ok (.aload_n 0, 1) := by decide +kernel
theorem dX9_parse_74 : decode cX9_parse 74 = .ok (.invokevirtual 170, 3) := by decide +kernel
theorem dX9_parse_77 : decode cX9_parse 77 = .ok (.ifCond .eq 7, 3) := by decide +kernel
theorem dX9_parse_80 : decode cX9_parse 80 = .ok (.iconst 1, 1) := by decide +kernel
theorem dX9_parse_81 : decode cX9_parse 81 = .ok (.goto 4, 3) := by decide +kernel
theorem dX9_parse_84 : decode cX9_parse 84 = .ok (.iconst 0, 1) := by decide +kernel
theorem dX9_parse_85 : decode cX9_parse 85 = .ok (.istore_n 2, 1) := by decide +kernel
theorem dX9_parse_86 : decode cX9_parse 86 = .ok (.iload_n 2, 1) := by decide +kernel
theorem dX9_parse_87 : decode cX9_parse 87 = .ok (.ifCond .eq 33, 3) := by decide +kernel
theorem dX9_parse_90 : decode cX9_parse 90 = .ok (.aload_n 0, 1) := by decide +kernel
theorem dX9_parse_91 : decode cX9_parse 91 = .ok (.getfield 88, 3) := by decide +kernel
theorem dX9_parse_94 : decode cX9_parse 94 = .ok (.ifCond .eq 26, 3) := by decide +kernel
theorem dX9_parse_97 : decode cX9_parse 97 = .ok (.aload_n 0, 1) := by decide +kernel
theorem dX9_parse_98 : decode cX9_parse 98 = .ok (.invokevirtual 173, 3) := by decide +kernel
theorem dX9_parse_101 : decode cX9_parse 101 = .ok (.ifCond .eq 14, 3) := by decide +kernel
theorem dX9_parse_104 : decode cX9_parse 104 = .ok (.aload_n 0, 1) := by decide +kernel
theorem dX9_parse_105 : decode cX9_parse 105 = .ok (.invokevirtual 170, 3) := by decide +kernel
theorem dX9_parse_108 : decode cX9_parse 108 = .ok (.ifCond .eq 7, 3) := by decide +kernel
theorem dX9_parse_111 : decode cX9_parse 111 = .ok (.iconst 1, 1) := by decide +kernel
theorem dX9_parse_112 : decode cX9_parse 112 = .ok (.goto 4, 3) := by decide +kernel
theorem dX9_parse_115 : decode cX9_parse 115 = .ok (.iconst 0, 1) := by decide +kernel
theorem dX9_parse_116 : decode cX9_parse 116 = .ok (.istore_n 2, 1) := by decide +kernel
theorem dX9_parse_117 : decode cX9_parse 117 = .ok (.goto (-31), 3) := by decide +kernel
theorem dX9_parse_120 : decode cX9_parse 120 = .ok (.iload_n 2, 1) := by decide +kernel
theorem dX9_parse_121 : decode cX9_parse 121 = .ok (.ireturn, 1) := by decide +kernel
theorem dX9_load_0 : decode cX9_load 0 = .ok (.aload_n 0, 1) := by decide +kernel
theorem dX9_load_1 : decode cX9_load 1 = .ok (.iload_n 1, 1) := by decide +kernel
theorem dX9_load_2 : decode cX9_load 2 = .ok (.iconst 0, 1) := by decide +kernel
theorem dX9_load_3 : decode cX9_load 3 = .ok (.aload_n 0, 1) := by decide +kernel
theorem dX9_load_4 : decode cX9_load 4 = .ok (.getfield 64, 3) := by decide +kernel
theorem dX9_load_7 : decode cX9_load 7 = .ok (.invokestatic 121, 3) := by decide +kernel
theorem dX9_load_10 : decode cX9_load 10 = .ok (.invokevirtual 176, 3) := by decide +kernel
theorem dX9_load_13 : decode cX9_load 13 = .ok (.ifCond .ne 5, 3) := by decide +kernel
theorem dX9_load_16 : decode cX9_load 16 = .ok (.iconst 0, 1) := by decide +kernel
theorem dX9_load_17 : decode cX9_load 17 = .ok (.ireturn, 1) := by decide +kernel
theorem dX9_load_18 : decode cX9_load 18 = .ok (.aload_n 0, 1) := by decide +kernel
theorem dX9_load_19 : decode cX9_load 19 = .ok (.invokevirtual 179, 3) := by decide +kernel
theorem dX9_load_22 : decode cX9_load 22 = .ok (.aload_n 0, 1) := by decide +kernel
theorem dX9_load_23 : decode cX9_load 23 = .ok (.iload_n 1, 1) := by decide +kernel
theorem dX9_load_24 : decode cX9_load 24 = .ok (.invokevirtual 182, 3) := by decide +kernel
theorem dX9_load_27 : decode cX9_load 27 = .ok (.istore_n 2, 1) := by decide +kernel
theorem dX9_load_28 : decode cX9_load 28 = .ok (.aload_n 0, 1) := by decide +kernel
theorem dX9_load_29 : decode cX9_load 29 = .ok (.aload_n 0, 1) := by decide +kernel
theorem dX9_load_30 : decode cX9_load 30 = .ok (.getfield 112, 3) := by decide +kernel
theorem dX9_load_33 : decode cX9_load 33 = .ok (.putfield 185, 3) := by decide +kernel
theorem dX9_load_36 : decode cX9_load 36 = .ok (.aload_n 0, 1) := by decide +kernel
theorem dX9_load_37 : decode cX9_load 37 = .ok (.aload_n 0, 1) := by decide +kernel
theorem dX9_load_38 : decode cX9_load 38 = .ok (.getfield 115, 3) := by decide +kernel
theorem dX9_load_41 : decode cX9_load 41 = .ok (.putfield 22, 3) := by decide +kernel
theorem dX9_load_44 : decode cX9_load 44 = .ok (.iload_n 2, 1) := by decide +kernel
theorem dX9_load_45 : decode cX9_load 45 = .ok (.ifCond .ne 10, 3) := by decide +kernel
theorem dX9_load_48 : decode cX9_load 48 = .ok (.aload_n 0, 1) := by decide +kernel
theorem dX9_load_49 : decode cX9_load 49 = .ok (.invokevirtual 188, 3) := by decide +kernel
theorem dX9_load_52 : decode cX9_load 52 = .ok (.bipush (-3), 2) := by decide +kernel
theorem dX9_load_54 : decode cX9_load 54 = .ok (.ireturn, 1) := by decide +kernel
theorem dX9_load_55 : decode cX9_load 55 = .ok (.aload_n 0, 1) := by decide +kernel
theorem dX9_load_56 : decode cX9_load 56 = .ok (.iconst 0, 1) := by decide +kernel
theorem dX9_load_57 : decode cX9_load 57 = .ok (.putfield 61, 3) := by decide +kernel
theorem dX9_load_60 : decode cX9_load 60 = .ok (.aload_n 0, 1) := by decide +kernel
theorem dX9_load_61 : decode cX9_load 61 = .ok (.getfield 7, 3) := by decide +kernel
theorem dX9_load_64 : decode cX9_load 64 = .ok (.bipush 20, 2) := by decide +kernel
theorem dX9_load_66 : decode cX9_load 66 = .ok (.iaload, 1) := by decide +kernel
theorem dX9_load_67 : decode cX9_load 67 = .ok (.ireturn, 1) := by decide +kernel
theorem dX9_errorKind_0 : decode cX9_errorKind 0 = .ok (.aload_n 0, 1) := by decide +kernel
theorem dX9_errorKind_1 : decode cX9_errorKind 1 = .ok (.iconst 0, 1) := by decide +kernel
theorem dX9_errorKind_2 : decode cX9_errorKind 2 = .ok (.putfield 54, 3) := by decide +kernel
theorem dX9_errorKind_5 : decode cX9_errorKind 5 = .ok (.aload_n 0, 1) := by decide +kernel
theorem dX9_errorKind_6 : decode cX9_errorKind 6 = .ok (.getfield 185, 3) := by decide +kernel
theorem dX9_errorKind_9 : decode cX9_errorKind 9 = .ok (.ireturn, 1) := by decide +kernel
theorem dX9_errorPosition_0 : decode cX9_errorPosition 0 = .ok (.aload_n 0, 1) := by decide +kernel
theorem dX9_errorPosition_1 : decode cX9_errorPosition 1 = .ok (.iconst 0, 1) := by decide +kernel
theorem dX9_errorPosition_2 : decode cX9_errorPosition 2 = .ok (.putfield 54, 3) := by decide +kernel
theorem dX9_errorPosition_5 : decode cX9_errorPosition 5 = .ok (.aload_n 0, 1) := by decide +kernel
theorem dX9_errorPosition_6 : decode cX9_errorPosition 6 = .ok (.getfield 22, 3) := by decide +kernel
theorem dX9_errorPosition_9 : decode cX9_errorPosition 9 = .ok (.ireturn, 1) := by decide +kernel
theorem dX9_find_0 : decode cX9_find 0 = .ok (.aload_n 0, 1) := by decide +kernel
theorem dX9_find_1 : decode cX9_find 1 = .ok (.iload_n 1, 1) := by decide +kernel
theorem dX9_find_2 : decode cX9_find 2 = .ok (.iconst 0, 1) := by decide +kernel
theorem dX9_find_3 : decode cX9_find 3 = .ok (.aload_n 0, 1) := by decide +kernel
theorem dX9_find_4 : decode cX9_find 4 = .ok (.getfield 64, 3) := by decide +kernel
theorem dX9_find_7 : decode cX9_find 7 = .ok (.invokestatic 121, 3) := by decide +kernel
theorem dX9_find_10 : decode cX9_find 10 = .ok (.invokevirtual 176, 3) := by decide +kernel
theorem dX9_find_13 : decode cX9_find 13 = .ok (.ifCond .ne 5, 3) := by decide +kernel
theorem dX9_find_16 : decode cX9_find 16 = .ok (.iconst 0, 1) := by decide +kernel
theorem dX9_find_17 : decode cX9_find 17 = .ok (.ireturn, 1) := by decide +kernel
theorem dX9_find_18 : decode cX9_find 18 = .ok (.aload_n 0, 1) := by decide +kernel
theorem dX9_find_19 : decode cX9_find 19 = .ok (.iconst 0, 1) := by decide +kernel
theorem dX9_find_20 : decode cX9_find 20 = .ok (.putfield 64, 3) := by decide +kernel
theorem dX9_find_23 : decode cX9_find 23 = .ok (.iload_n 1, 1) := by decide +kernel
theorem dX9_find_24 : decode cX9_find 24 = .ok (.iconst 1, 1) := by decide +kernel
theorem dX9_find_25 : decode cX9_find 25 = .ok (.bipush 8, 2) := by decide +kernel
theorem dX9_find_27 : decode cX9_find 27 = .ok (.invokestatic 121, 3) := by decide +kernel
theorem dX9_find_30 : decode cX9_find 30 = .ok (.istore_n 2, 1) := by decide +kernel
theorem dX9_find_31 : decode cX9_find 31 = .ok (.iconst 0, 1) := by decide +kernel
theorem dX9_find_32 : decode cX9_find 32 = .ok (.istore_n 3, 1) := by decide +kernel
theorem dX9_find_33 : decode cX9_find 33 = .ok (.iload_n 3, 1) := by decide +kernel
theorem dX9_find_34 : decode cX9_find 34 = .ok (.iload_n 1, 1) := by decide +kernel
theorem dX9_find_35 : decode cX9_find 35 = .ok (.if_icmp .ge 23, 3) := by decide +kernel
theorem dX9_find_38 : decode cX9_find 38 = .ok (.iload_n 2, 1) := by decide +kernel
theorem dX9_find_39 : decode cX9_find 39 = .ok (.ifCond .eq 19, 3) := by decide +kernel
theorem dX9_find_42 : decode cX9_find 42 = .ok (.aload_n 0, 1) := by decide +kernel
theorem dX9_find_43 : decode cX9_find 43 = .ok (.getfield 19, 3) := by decide +kernel
theorem dX9_find_46 : decode cX9_find 46 = .ok (.iload_n 3, 1) := by decide +kernel
theorem dX9_find_47 : decode cX9_find 47 = .ok (.iaload, 1) := by decide +kernel
theorem dX9_find_48 : decode cX9_find 48 = .ok (.invokestatic 81, 3) := by decide +kernel
theorem dX9_find_51 : decode cX9_find 51 = .ok (.istore_n 2, 1) := by decide +kernel
theorem dX9_find_52 : decode cX9_find 52 = .ok (.iinc 3 1, 3) := by decide +kernel
theorem dX9_find_55 : decode cX9_find 55 = .ok (.goto (-22), 3) := by decide +kernel
theorem dX9_find_58 : decode cX9_find 58 = .ok (.iload_n 2, 1) := by decide +kernel
theorem dX9_find_59 : decode cX9_find 59 = .ok (.ifCond .eq 12, 3) := by decide +kernel
theorem dX9_find_62 : decode cX9_find 62 = .ok (.aload_n 0, 1) := by decide +kernel
theorem dX9_find_63 : decode cX9_find 63 = .ok (.iconst 0, 1) := by decide +kernel
theorem dX9_find_64 : decode cX9_find 64 = .ok (.iload_n 1, 1) := by decide +kernel
theorem dX9_find_65 : decode cX9_find 65 = .ok (.invokevirtual 147, 3) := by decide +kernel
theorem dX9_find_68 : decode cX9_find 68 = .ok (.goto 4, 3) := by decide +kernel
theorem dX9_find_71 : decode cX9_find 71 = .ok (.iconst (-1), 1) := by decide +kernel
theorem dX9_find_72 : decode cX9_find 72 = .ok (.ireturn, 1) := by decide +kernel
theorem dX9_isEvent_0 : decode cX9_isEvent 0 = .ok (.iload_n 1, 1) := by decide +kernel
theorem dX9_isEvent_1 : decode cX9_isEvent 1 = .ok (.iconst 0, 1) := by decide +kernel
theorem dX9_isEvent_2 : decode cX9_isEvent 2 = .ok (.aload_n 0, 1) := by decide +kernel
theorem dX9_isEvent_3 : decode cX9_isEvent 3 = .ok (.getfield 7, 3) := by decide +kernel
theorem dX9_isEvent_6 : decode cX9_isEvent 6 = .ok (.iconst 1, 1) := by decide +kernel
theorem dX9_isEvent_7 : decode cX9_isEvent 7 = .ok (.iaload, 1) := by decide +kernel
theorem dX9_isEvent_8 : decode cX9_isEvent 8 = .ok (.iconst 1, 1) := by decide +kernel
theorem dX9_isEvent_9 : decode cX9_isEvent 9 = .ok (.isub, 1) := by decide +kernel
theorem dX9_isEvent_10 : decode cX9_isEvent 10 = .ok (.invokestatic 121, 3) := by decide +kernel
theorem dX9_isEvent_13 : decode cX9_isEvent 13 = .ok (.ireturn, 1) := by decide +kernel
theorem dX9_areEvents_0 : decode cX9_areEvents 0 = .ok (.aload_n 0, 1) := by decide +kernel
theorem dX9_areEvents_1 : decode cX9_areEvents 1 = .ok (.iload_n 1, 1) := by decide +kernel
theorem dX9_areEvents_2 : decode cX9_areEvents 2 = .ok (.invokevirtual 191, 3) := by decide +kernel
theorem dX9_areEvents_5 : decode cX9_areEvents 5 = .ok (.ifCond .eq 15, 3) := by decide +kernel
theorem dX9_areEvents_8 : decode cX9_areEvents 8 = .ok (.aload_n 0, 1) := by decide +kernel
theorem dX9_areEvents_9 : decode cX9_areEvents 9 = .ok (.iload_n 2, 1) := by decide +kernel
theorem dX9_areEvents_10 : decode cX9_areEvents 10 = .ok (.invokevirtual 191, 3) := by decide +kernel
theorem dX9_areEvents_13 : decode cX9_areEvents 13 = .ok (.ifCond .eq 7, 3) := by decide +kernel
theorem dX9_areEvents_16 : decode cX9_areEvents 16 = .ok (.iconst 1, 1) := by decide +kernel
theorem dX9_areEvents_17 : decode cX9_areEvents 17 = .ok (.goto 4, 3) := by decide +kernel
theorem dX9_areEvents_20 : decode cX9_areEvents 20 = .ok (.iconst 0, 1) := by decide +kernel
theorem dX9_areEvents_21 : decode cX9_areEvents 21 = .ok (.ireturn, 1) := by decide +kernel
theorem dX9_isSpan_0 : decode cX9_isSpan 0 = .ok (.iload_n 1, 1) := by decide +kernel
theorem dX9_isSpan_1 : decode cX9_isSpan 1 = .ok (.iconst 0, 1) := by decide +kernel
theorem dX9_isSpan_2 : decode cX9_isSpan 2 = .ok (.aload_n 0, 1) := by decide +kernel
theorem dX9_isSpan_3 : decode cX9_isSpan 3 = .ok (.getfield 7, 3) := by decide +kernel
theorem dX9_isSpan_6 : decode cX9_isSpan 6 = .ok (.bipush 20, 2) := by decide +kernel
theorem dX9_isSpan_8 : decode cX9_isSpan 8 = .ok (.iaload, 1) := by decide +kernel
theorem dX9_isSpan_9 : decode cX9_isSpan 9 = .ok (.iconst 1, 1) := by decide +kernel
theorem dX9_isSpan_10 : decode cX9_isSpan 10 = .ok (.isub, 1) := by decide +kernel
theorem dX9_isSpan_11 : decode cX9_isSpan 11 = .ok (.invokestatic 121, 3) := by decide +kernel
theorem dX9_isSpan_14 : decode cX9_isSpan 14 = .ok (.ireturn, 1) := by decide +kernel
theorem dX9_isTime_0 : decode cX9_isTime 0 = .ok (.iload_n 1, 1) := by decide +kernel
theorem dX9_isTime_1 : decode cX9_isTime 1 = .ok (.iconst 0, 1) := by decide +kernel
theorem dX9_isTime_2 : decode cX9_isTime 2 = .ok (.aload_n 0, 1) := by decide +kernel
theorem dX9_isTime_3 : decode cX9_isTime 3 = .ok (.getfield 7, 3) := by decide +kernel
theorem dX9_isTime_6 : decode cX9_isTime 6 = .ok (.iconst 0, 1) := by decide +kernel
theorem dX9_isTime_7 : decode cX9_isTime 7 = .ok (.iaload, 1) := by decide +kernel
theorem dX9_isTime_8 : decode cX9_isTime 8 = .ok (.iconst 1, 1) := by decide +kernel
theorem dX9_isTime_9 : decode cX9_isTime 9 = .ok (.isub, 1) := by decide +kernel
theorem dX9_isTime_10 : decode cX9_isTime 10 = .ok (.invokestatic 121, 3) := by decide +kernel
theorem dX9_isTime_13 : decode cX9_isTime 13 = .ok (.ireturn, 1) := by decide +kernel
theorem dX9_of_0 : decode cX9_of 0 = .ok (.aload_n 0, 1) := by decide +kernel
theorem dX9_of_1 : decode cX9_of 1 = .ok (.getfield 7, 3) := by decide +kernel
theorem dX9_of_4 : decode cX9_of 4 = .ok (.iload_n 1, 1) := by decide +kernel
theorem dX9_of_5 : decode cX9_of 5 = .ok (.invokestatic 150, 3) := by decide +kernel
theorem dX9_of_8 : decode cX9_of 8 = .ok (.iload_n 2, 1) := by decide +kernel
theorem dX9_of_9 : decode cX9_of 9 = .ok (.iadd, 1) := by decide +kernel
theorem dX9_of_10 : decode cX9_of 10 = .ok (.iaload, 1) := by decide +kernel
theorem dX9_of_11 : decode cX9_of 11 = .ok (.ireturn, 1) := by decide +kernel
theorem dX9_period_0 : decode cX9_period 0 = .ok (.aload_n 0, 1) := by decide +kernel
theorem dX9_period_1 : decode cX9_period 1 = .ok (.iconst 0, 1) := by decide +kernel
theorem dX9_period_2 : decode cX9_period 2 = .ok (.putfield 54, 3) := by decide +kernel
theorem dX9_period_5 : decode cX9_period 5 = .ok (.aload_n 0, 1) := by decide +kernel
theorem dX9_period_6 : decode cX9_period 6 = .ok (.getfield 7, 3) := by decide +kernel
theorem dX9_period_9 : decode cX9_period 9 = .ok (.iconst 0, 1) := by decide +kernel
theorem dX9_period_10 : decode cX9_period 10 = .ok (.iaload, 1) := by decide +kernel
theorem dX9_period_11 : decode cX9_period 11 = .ok (.ireturn, 1) := by decide +kernel
theorem dX9_events_0 : decode cX9_events 0 = .ok (.aload_n 0, 1) := by decide +kernel
theorem dX9_events_1 : decode cX9_events 1 = .ok (.iconst 0, 1) := by decide +kernel
theorem dX9_events_2 : decode cX9_events 2 = .ok (.putfield 54, 3) := by decide +kernel
theorem dX9_events_5 : decode cX9_events 5 = .ok (.aload_n 0, 1) := by decide +kernel
theorem dX9_events_6 : decode cX9_events 6 = .ok (.getfield 7, 3) := by decide +kernel
theorem dX9_events_9 : decode cX9_events 9 = .ok (.iconst 1, 1) := by decide +kernel
theorem dX9_events_10 : decode cX9_events 10 = .ok (.iaload, 1) := by decide +kernel
theorem dX9_events_11 : decode cX9_events 11 = .ok (.ireturn, 1) := by decide +kernel
theorem dX9_spans_0 : decode cX9_spans 0 = .ok (.aload_n 0, 1) := by decide +kernel
theorem dX9_spans_1 : decode cX9_spans 1 = .ok (.iconst 0, 1) := by decide +kernel
theorem dX9_spans_2 : decode cX9_spans 2 = .ok (.putfield 54, 3) := by decide +kernel
theorem dX9_spans_5 : decode cX9_spans 5 = .ok (.aload_n 0, 1) := by decide +kernel
theorem dX9_spans_6 : decode cX9_spans 6 = .ok (.getfield 7, 3) := by decide +kernel
theorem dX9_spans_9 : decode cX9_spans 9 = .ok (.bipush 20, 2) := by decide +kernel
theorem dX9_spans_11 : decode cX9_spans 11 = .ok (.iaload, 1) := by decide +kernel
theorem dX9_spans_12 : decode cX9_spans 12 = .ok (.ireturn, 1) := by decide +kernel
theorem dX9_time_0 : decode cX9_time 0 = .ok (.aload_n 0, 1) := by decide +kernel
theorem dX9_time_1 : decode cX9_time 1 = .ok (.aload_n 0, 1) := by decide +kernel
theorem dX9_time_2 : decode cX9_time 2 = .ok (.iload_n 1, 1) := by decide +kernel
theorem dX9_time_3 : decode cX9_time 3 = .ok (.invokevirtual 191, 3) := by decide +kernel
theorem dX9_time_6 : decode cX9_time 6 = .ok (.invokevirtual 176, 3) := by decide +kernel
theorem dX9_time_9 : decode cX9_time 9 = .ok (.ifCond .eq 15, 3) := by decide +kernel
theorem dX9_time_12 : decode cX9_time 12 = .ok (.aload_n 0, 1) := by decide +kernel
theorem dX9_time_13 : decode cX9_time 13 = .ok (.getfield 7, 3) := by decide +kernel
theorem dX9_time_16 : decode cX9_time 16 = .ok (.bipush 14, 2) := by decide +kernel
theorem dX9_time_18 : decode cX9_time 18 = .ok (.iload_n 1, 1) := by decide +kernel
theorem dX9_time_19 : decode cX9_time 19 = .ok (.iadd, 1) := by decide +kernel
theorem dX9_time_20 : decode cX9_time 20 = .ok (.iaload, 1) := by decide +kernel
theorem dX9_time_21 : decode cX9_time 21 = .ok (.goto 4, 3) := by decide +kernel
theorem dX9_time_24 : decode cX9_time 24 = .ok (.iconst 0, 1) := by decide +kernel
theorem dX9_time_25 : decode cX9_time 25 = .ok (.ireturn, 1) := by decide +kernel
theorem dX9_span_0 : decode cX9_span 0 = .ok (.aload_n 0, 1) := by decide +kernel
theorem dX9_span_1 : decode cX9_span 1 = .ok (.aload_n 0, 1) := by decide +kernel
theorem dX9_span_2 : decode cX9_span 2 = .ok (.iload_n 1, 1) := by decide +kernel
theorem dX9_span_3 : decode cX9_span 3 = .ok (.invokevirtual 194, 3) := by decide +kernel
theorem dX9_span_6 : decode cX9_span 6 = .ok (.iload_n 2, 1) := by decide +kernel
theorem dX9_span_7 : decode cX9_span 7 = .ok (.iconst 0, 1) := by decide +kernel
theorem dX9_span_8 : decode cX9_span 8 = .ok (.iconst 4, 1) := by decide +kernel
theorem dX9_span_9 : decode cX9_span 9 = .ok (.invokestatic 121, 3) := by decide +kernel
theorem dX9_span_12 : decode cX9_span 12 = .ok (.invokevirtual 197, 3) := by decide +kernel
theorem dX9_span_15 : decode cX9_span 15 = .ok (.ifCond .eq 12, 3) := by decide +kernel
theorem dX9_span_18 : decode cX9_span 18 = .ok (.aload_n 0, 1) := by decide +kernel
theorem dX9_span_19 : decode cX9_span 19 = .ok (.iload_n 1, 1) := by decide +kernel
theorem dX9_span_20 : decode cX9_span 20 = .ok (.iload_n 2, 1) := by decide +kernel
theorem dX9_span_21 : decode cX9_span 21 = .ok (.invokevirtual 200, 3) := by decide +kernel
theorem dX9_span_24 : decode cX9_span 24 = .ok (.goto 4, 3) := by decide +kernel
theorem dX9_span_27 : decode cX9_span 27 = .ok (.iconst 0, 1) := by decide +kernel
theorem dX9_span_28 : decode cX9_span 28 = .ok (.ireturn, 1) := by decide +kernel
theorem dX9_modulo_0 : decode cX9_modulo 0 = .ok (.iload_n 1, 1) := by decide +kernel
theorem dX9_modulo_1 : decode cX9_modulo 1 = .ok (.aload_n 0, 1) := by decide +kernel
theorem dX9_modulo_2 : decode cX9_modulo 2 = .ok (.getfield 7, 3) := by decide +kernel
theorem dX9_modulo_5 : decode cX9_modulo 5 = .ok (.iconst 0, 1) := by decide +kernel
theorem dX9_modulo_6 : decode cX9_modulo 6 = .ok (.iaload, 1) := by decide +kernel
theorem dX9_modulo_7 : decode cX9_modulo 7 = .ok (.irem, 1) := by decide +kernel
theorem dX9_modulo_8 : decode cX9_modulo 8 = .ok (.istore_n 2, 1) := by decide +kernel
theorem dX9_modulo_9 : decode cX9_modulo 9 = .ok (.iload_n 2, 1) := by decide +kernel
theorem dX9_modulo_10 : decode cX9_modulo 10 = .ok (.ifCond .ge 14, 3) := by decide +kernel
theorem dX9_modulo_13 : decode cX9_modulo 13 = .ok (.iload_n 2, 1) := by decide +kernel
theorem dX9_modulo_14 : decode cX9_modulo 14 = .ok (.aload_n 0, 1) := by decide +kernel
theorem dX9_modulo_15 : decode cX9_modulo 15 = .ok (.getfield 7, 3) := by decide +kernel
theorem dX9_modulo_18 : decode cX9_modulo 18 = .ok (.iconst 0, 1) := by decide +kernel
theorem dX9_modulo_19 : decode cX9_modulo 19 = .ok (.iaload, 1) := by decide +kernel
theorem dX9_modulo_20 : decode cX9_modulo 20 = .ok (.iadd, 1) := by decide +kernel
theorem dX9_modulo_21 : decode cX9_modulo 21 = .ok (.goto 4, 3) := by decide +kernel
theorem dX9_modulo_24 : decode cX9_modulo 24 = .ok (.iload_n 2, 1) := by decide +kernel
theorem dX9_modulo_25 : decode cX9_modulo 25 = .ok (.ireturn, 1) := by decide +kernel
theorem dX9_slackBy_0 : decode cX9_slackBy 0 = .ok (.aload_n 0, 1) := by decide +kernel
theorem dX9_slackBy_1 : decode cX9_slackBy 1 = .ok (.iload_n 2, 1) := by decide +kernel
theorem dX9_slackBy_2 : decode cX9_slackBy 2 = .ok (.aload_n 0, 1) := by decide +kernel
theorem dX9_slackBy_3 : decode cX9_slackBy 3 = .ok (.iload_n 1, 1) := by decide +kernel
theorem dX9_slackBy_4 : decode cX9_slackBy 4 = .ok (.iconst 2, 1) := by decide +kernel
theorem dX9_slackBy_5 : decode cX9_slackBy 5 = .ok (.invokevirtual 200, 3) := by decide +kernel
theorem dX9_slackBy_8 : decode cX9_slackBy 8 = .ok (.isub, 1) := by decide +kernel
theorem dX9_slackBy_9 : decode cX9_slackBy 9 = .ok (.invokevirtual 203, 3) := by decide +kernel
theorem dX9_slackBy_12 : decode cX9_slackBy 12 = .ok (.ireturn, 1) := by decide +kernel
theorem dX9_slackOf_0 : decode cX9_slackOf 0 = .ok (.aload_n 0, 1) := by decide +kernel
theorem dX9_slackOf_1 : decode cX9_slackOf 1 = .ok (.iload_n 1, 1) := by decide +kernel
theorem dX9_slackOf_2 : decode cX9_slackOf 2 = .ok (.aload_n 0, 1) := by decide +kernel
theorem dX9_slackOf_3 : decode cX9_slackOf 3 = .ok (.getfield 7, 3) := by decide +kernel
theorem dX9_slackOf_6 : decode cX9_slackOf 6 = .ok (.bipush 14, 2) := by decide +kernel
theorem dX9_slackOf_8 : decode cX9_slackOf 8 = .ok (.aload_n 0, 1) := by decide +kernel
theorem dX9_slackOf_9 : decode cX9_slackOf 9 = .ok (.iload_n 1, 1) := by decide +kernel
theorem dX9_slackOf_10 : decode cX9_slackOf 10 = .ok (.iconst 1, 1) := by decide +kernel
theorem dX9_slackOf_11 : decode cX9_slackOf 11 = .ok (.invokevirtual 200, 3) := by decide +kernel
theorem dX9_slackOf_14 : decode cX9_slackOf 14 = .ok (.iadd, 1) := by decide +kernel
theorem dX9_slackOf_15 : decode cX9_slackOf 15 = .ok (.iaload, 1) := by decide +kernel
theorem dX9_slackOf_16 : decode cX9_slackOf 16 = .ok (.aload_n 0, 1) := by decide +kernel
theorem dX9_slackOf_17 : decode cX9_slackOf 17 = .ok (.getfield 7, 3) := by decide +kernel
theorem dX9_slackOf_20 : decode cX9_slackOf 20 = .ok (.bipush 14, 2) := by decide +kernel
theorem dX9_slackOf_22 : decode cX9_slackOf 22 = .ok (.aload_n 0, 1) := by decide +kernel
theorem dX9_slackOf_23 : decode cX9_slackOf 23 = .ok (.iload_n 1, 1) := by decide +kernel
theorem dX9_slackOf_24 : decode cX9_slackOf 24 = .ok (.iconst 0, 1) := by decide +kernel
theorem dX9_slackOf_25 : decode cX9_slackOf 25 = .ok (.invokevirtual 200, 3) := by decide +kernel
theorem dX9_slackOf_28 : decode cX9_slackOf 28 = .ok (.iadd, 1) := by decide +kernel
theorem dX9_slackOf_29 : decode cX9_slackOf 29 = .ok (.iaload, 1) := by decide +kernel
theorem dX9_slackOf_30 : decode cX9_slackOf 30 = .ok (.isub, 1) := by decide +kernel
theorem dX9_slackOf_31 : decode cX9_slackOf 31 = .ok (.invokevirtual 206, 3) := by decide +kernel
theorem dX9_slackOf_34 : decode cX9_slackOf 34 = .ok (.ireturn, 1) := by decide +kernel
theorem dX9_durationOf_0 : decode cX9_durationOf 0 = .ok (.aload_n 0, 1) := by decide +kernel
theorem dX9_durationOf_1 : decode cX9_durationOf 1 = .ok (.iload_n 1, 1) := by decide +kernel
theorem dX9_durationOf_2 : decode cX9_durationOf 2 = .ok (.iconst 2, 1) := by decide +kernel
theorem dX9_durationOf_3 : decode cX9_durationOf 3 = .ok (.invokevirtual 200, 3) := by decide +kernel
theorem dX9_durationOf_6 : decode cX9_durationOf 6 = .ok (.aload_n 0, 1) := by decide +kernel
theorem dX9_durationOf_7 : decode cX9_durationOf 7 = .ok (.iload_n 1, 1) := by decide +kernel
theorem dX9_durationOf_8 : decode cX9_durationOf 8 = .ok (.invokevirtual 209, 3) := by decide +kernel
theorem dX9_durationOf_11 : decode cX9_durationOf 11 = .ok (.iadd, 1) := by decide +kernel
theorem dX9_durationOf_12 : decode cX9_durationOf 12 = .ok (.ireturn, 1) := by decide +kernel
theorem dX9_isKeptBy_0 : decode cX9_isKeptBy 0 = .ok (.iload_n 2, 1) := by decide +kernel
theorem dX9_isKeptBy_1 : decode cX9_isKeptBy 1 = .ok (.aload_n 0, 1) := by decide +kernel
theorem dX9_isKeptBy_2 : decode cX9_isKeptBy 2 = .ok (.iload_n 1, 1) := by decide +kernel
theorem dX9_isKeptBy_3 : decode cX9_isKeptBy 3 = .ok (.iconst 3, 1) := by decide +kernel
theorem dX9_isKeptBy_4 : decode cX9_isKeptBy 4 = .ok (.invokevirtual 200, 3) := by decide +kernel
theorem dX9_isKeptBy_7 : decode cX9_isKeptBy 7 = .ok (.aload_n 0, 1) := by decide +kernel
theorem dX9_isKeptBy_8 : decode cX9_isKeptBy 8 = .ok (.iload_n 1, 1) := by decide +kernel
theorem dX9_isKeptBy_9 : decode cX9_isKeptBy 9 = .ok (.iconst 2, 1) := by decide +kernel
theorem dX9_isKeptBy_10 : decode cX9_isKeptBy 10 = .ok (.invokevirtual 200, 3) := by decide +kernel
theorem dX9_isKeptBy_13 : decode cX9_isKeptBy 13 = .ok (.isub, 1) := by decide +kernel
theorem dX9_isKeptBy_14 : decode cX9_isKeptBy 14 = .ok (.if_icmp .gt 7, 3) := by decide +kernel
theorem dX9_isKeptBy_17 : decode cX9_isKeptBy 17 = .ok (.iconst 1, 1) := by decide +kernel
theorem dX9_isKeptBy_18 : decode cX9_isKeptBy 18 = .ok (.goto 4, 3) := by decide +kernel
theorem dX9_isKeptBy_21 : decode cX9_isKeptBy 21 = .ok (.iconst 0, 1) := by decide +kernel
theorem dX9_isKeptBy_22 : decode cX9_isKeptBy 22 = .ok (.ireturn, 1) := by decide +kernel
theorem dX9_duration_0 : decode cX9_duration 0 = .ok (.aload_n 0, 1) := by decide +kernel
theorem dX9_duration_1 : decode cX9_duration 1 = .ok (.aload_n 0, 1) := by decide +kernel
theorem dX9_duration_2 : decode cX9_duration 2 = .ok (.iload_n 1, 1) := by decide +kernel
theorem dX9_duration_3 : decode cX9_duration 3 = .ok (.invokevirtual 194, 3) := by decide +kernel
theorem dX9_duration_6 : decode cX9_duration 6 = .ok (.invokevirtual 176, 3) := by decide +kernel
theorem dX9_duration_9 : decode cX9_duration 9 = .ok (.ifCond .eq 11, 3) := by decide +kernel
theorem dX9_duration_12 : decode cX9_duration 12 = .ok (.aload_n 0, 1) := by decide +kernel
theorem dX9_duration_13 : decode cX9_duration 13 = .ok (.iload_n 1, 1) := by decide +kernel
theorem dX9_duration_14 : decode cX9_duration 14 = .ok (.invokevirtual 212, 3) := by decide +kernel
theorem dX9_duration_17 : decode cX9_duration 17 = .ok (.goto 4, 3) := by decide +kernel
theorem dX9_duration_20 : decode cX9_duration 20 = .ok (.iconst 0, 1) := by decide +kernel
theorem dX9_duration_21 : decode cX9_duration 21 = .ok (.ireturn, 1) := by decide +kernel
theorem dX9_slack_0 : decode cX9_slack 0 = .ok (.aload_n 0, 1) := by decide +kernel
theorem dX9_slack_1 : decode cX9_slack 1 = .ok (.aload_n 0, 1) := by decide +kernel
theorem dX9_slack_2 : decode cX9_slack 2 = .ok (.iload_n 1, 1) := by decide +kernel
theorem dX9_slack_3 : decode cX9_slack 3 = .ok (.invokevirtual 194, 3) := by decide +kernel
theorem dX9_slack_6 : decode cX9_slack 6 = .ok (.invokevirtual 176, 3) := by decide +kernel
theorem dX9_slack_9 : decode cX9_slack 9 = .ok (.ifCond .eq 11, 3) := by decide +kernel
theorem dX9_slack_12 : decode cX9_slack 12 = .ok (.aload_n 0, 1) := by decide +kernel
theorem dX9_slack_13 : decode cX9_slack 13 = .ok (.iload_n 1, 1) := by decide +kernel
theorem dX9_slack_14 : decode cX9_slack 14 = .ok (.invokevirtual 209, 3) := by decide +kernel
theorem dX9_slack_17 : decode cX9_slack 17 = .ok (.goto 4, 3) := by decide +kernel
theorem dX9_slack_20 : decode cX9_slack 20 = .ok (.iconst 0, 1) := by decide +kernel
theorem dX9_slack_21 : decode cX9_slack 21 = .ok (.ireturn, 1) := by decide +kernel
theorem dX9_isKept_0 : decode cX9_isKept 0 = .ok (.aload_n 0, 1) := by decide +kernel
theorem dX9_isKept_1 : decode cX9_isKept 1 = .ok (.aload_n 0, 1) := by decide +kernel
theorem dX9_isKept_2 : decode cX9_isKept 2 = .ok (.iload_n 1, 1) := by decide +kernel
theorem dX9_isKept_3 : decode cX9_isKept 3 = .ok (.invokevirtual 194, 3) := by decide +kernel
theorem dX9_isKept_6 : decode cX9_isKept 6 = .ok (.invokevirtual 176, 3) := by decide +kernel
theorem dX9_isKept_9 : decode cX9_isKept 9 = .ok (.ifCond .eq 20, 3) := by decide +kernel
theorem dX9_isKept_12 : decode cX9_isKept 12 = .ok (.aload_n 0, 1) := by decide +kernel
theorem dX9_isKept_13 : decode cX9_isKept 13 = .ok (.iload_n 1, 1) := by decide +kernel
theorem dX9_isKept_14 : decode cX9_isKept 14 = .ok (.aload_n 0, 1) := by decide +kernel
theorem dX9_isKept_15 : decode cX9_isKept 15 = .ok (.iload_n 1, 1) := by decide +kernel
theorem dX9_isKept_16 : decode cX9_isKept 16 = .ok (.invokevirtual 209, 3) := by decide +kernel
theorem dX9_isKept_19 : decode cX9_isKept 19 = .ok (.invokevirtual 215, 3) := by decide +kernel
theorem dX9_isKept_22 : decode cX9_isKept 22 = .ok (.ifCond .eq 7, 3) := by decide +kernel
theorem dX9_isKept_25 : decode cX9_isKept 25 = .ok (.iconst 1, 1) := by decide +kernel
theorem dX9_isKept_26 : decode cX9_isKept 26 = .ok (.goto 4, 3) := by decide +kernel
theorem dX9_isKept_29 : decode cX9_isKept 29 = .ok (.iconst 0, 1) := by decide +kernel
theorem dX9_isKept_30 : decode cX9_isKept 30 = .ok (.ireturn, 1) := by decide +kernel
theorem dX9_brokenMany_0 : decode cX9_brokenMany 0 = .ok (.iconst 0, 1) := by decide +kernel
theorem dX9_brokenMany_1 : decode cX9_brokenMany 1 = .ok (.istore_n 1, 1) := by decide +kernel
theorem dX9_brokenMany_2 : decode cX9_brokenMany 2 = .ok (.iconst 0, 1) := by decide +kernel
theorem dX9_brokenMany_3 : decode cX9_brokenMany 3 = .ok (.istore_n 2, 1) := by decide +kernel
theorem dX9_brokenMany_4 : decode cX9_brokenMany 4 = .ok (.iload_n 2, 1) := by decide +kernel
theorem dX9_brokenMany_5 : decode cX9_brokenMany 5 = .ok (.aload_n 0, 1) := by decide +kernel
theorem dX9_brokenMany_6 : decode cX9_brokenMany 6 = .ok (.getfield 7, 3) := by decide +kernel
theorem dX9_brokenMany_9 : decode cX9_brokenMany 9 = .ok (.bipush 20, 2) := by decide +kernel
theorem dX9_brokenMany_11 : decode cX9_brokenMany 11 = .ok (.iaload, 1) := by decide +kernel
theorem dX9_brokenMany_12 : decode cX9_brokenMany 12 = .ok (.if_icmp .ge 25, 3) := by decide +kernel
theorem dX9_brokenMany_15 : decode cX9_brokenMany 15 = .ok (.aload_n 0, 1) := by decide +kernel
theorem dX9_brokenMany_16 : decode cX9_brokenMany 16 = .ok (.iload_n 2, 1) := by decide +kernel
theorem dX9_brokenMany_17 : decode cX9_brokenMany 17 = .ok (.aload_n 0, 1) := by decide +kernel
theorem dX9_brokenMany_18 : decode cX9_brokenMany 18 = .ok (.iload_n 2, 1) := by decide +kernel
theorem dX9_brokenMany_19 : decode cX9_brokenMany 19 = .ok (.invokevirtual 209, 3) := by decide +kernel
theorem dX9_brokenMany_22 : decode cX9_brokenMany 22 = .ok (.invokevirtual 215, 3) := by decide +kernel
theorem dX9_brokenMany_25 : decode cX9_brokenMany 25 = .ok (.ifCond .ne 6, 3) := by decide +kernel
theorem dX9_brokenMany_28 : decode cX9_brokenMany 28 = .ok (.iinc 1 1, 3) := by decide +kernel
theorem dX9_brokenMany_31 : decode cX9_brokenMany 31 = .ok (.iinc 2 1, 3) := by decide +kernel
theorem dX9_brokenMany_34 : decode cX9_brokenMany 34 = .ok (.goto (-30), 3) := by decide +kernel
theorem dX9_brokenMany_37 : decode cX9_brokenMany 37 = .ok (.iload_n 1, 1) := by decide +kernel
theorem dX9_brokenMany_38 : decode cX9_brokenMany 38 = .ok (.ireturn, 1) := by decide +kernel
theorem dX9_broken_0 : decode cX9_broken 0 = .ok (.aload_n 0, 1) := by decide +kernel
theorem dX9_broken_1 : decode cX9_broken 1 = .ok (.iconst 0, 1) := by decide +kernel
theorem dX9_broken_2 : decode cX9_broken 2 = .ok (.putfield 54, 3) := by decide +kernel
theorem dX9_broken_5 : decode cX9_broken 5 = .ok (.aload_n 0, 1) := by decide +kernel
theorem dX9_broken_6 : decode cX9_broken 6 = .ok (.invokevirtual 218, 3) := by decide +kernel
theorem dX9_broken_9 : decode cX9_broken 9 = .ok (.ireturn, 1) := by decide +kernel
theorem dX9_firstBroken_0 : decode cX9_firstBroken 0 = .ok (.iconst 0, 1) := by decide +kernel
theorem dX9_firstBroken_1 : decode cX9_firstBroken 1 = .ok (.istore_n 1, 1) := by decide +kernel
theorem dX9_firstBroken_2 : decode cX9_firstBroken 2 = .ok (.iload_n 1, 1) := by decide +kernel
theorem dX9_firstBroken_3 : decode cX9_firstBroken 3 = .ok (.aload_n 0, 1) := by decide +kernel
theorem dX9_firstBroken_4 : decode cX9_firstBroken 4 = .ok (.getfield 7, 3) := by decide +kernel
theorem dX9_firstBroken_7 : decode cX9_firstBroken 7 = .ok (.bipush 20, 2) := by decide +kernel
theorem dX9_firstBroken_9 : decode cX9_firstBroken 9 = .ok (.iaload, 1) := by decide +kernel
theorem dX9_firstBroken_10 : decode cX9_firstBroken 10 = .ok (.if_icmp .ge 22, 3) := by decide +kernel
theorem dX9_firstBroken_13 : decode cX9_firstBroken 13 = .ok (.aload_n 0, 1) := by decide +kernel
theorem dX9_firstBroken_14 : decode cX9_firstBroken 14 = .ok (.iload_n 1, 1) := by decide +kernel
theorem dX9_firstBroken_15 : decode cX9_firstBroken 15 = .ok (.aload_n 0, 1) := by decide +kernel
theorem dX9_firstBroken_16 : decode cX9_firstBroken 16 = .ok (.iload_n 1, 1) := by decide +kernel
theorem dX9_firstBroken_17 : decode cX9_firstBroken 17 = .ok (.invokevirtual 209, 3) := by decide +kernel
theorem dX9_firstBroken_20 : decode cX9_firstBroken 20 = .ok (.invokevirtual 215, 3) := by decide +kernel
theorem dX9_firstBroken_23 : decode cX9_firstBroken 23 = .ok (.ifCond .eq 9, 3) := by decide +kernel
theorem dX9_firstBroken_26 : decode cX9_firstBroken 26 = .ok (.iinc 1 1, 3) := by decide +kernel
theorem dX9_firstBroken_29 : decode cX9_firstBroken 29 = .ok (.goto (-27), 3) := by decide +kernel
theorem dX9_firstBroken_32 : decode cX9_firstBroken 32 = .ok (.aload_n 0, 1) := by decide +kernel
theorem dX9_firstBroken_33 : decode cX9_firstBroken 33 = .ok (.iload_n 1, 1) := by decide +kernel
theorem dX9_firstBroken_34 : decode cX9_firstBroken 34 = .ok (.aload_n 0, 1) := by decide +kernel
theorem dX9_firstBroken_35 : decode cX9_firstBroken 35 = .ok (.getfield 7, 3) := by decide +kernel
theorem dX9_firstBroken_38 : decode cX9_firstBroken 38 = .ok (.bipush 20, 2) := by decide +kernel
theorem dX9_firstBroken_40 : decode cX9_firstBroken 40 = .ok (.iaload, 1) := by decide +kernel
theorem dX9_firstBroken_41 : decode cX9_firstBroken 41 = .ok (.if_icmp .ge 7, 3) := by decide +kernel
theorem dX9_firstBroken_44 : decode cX9_firstBroken 44 = .ok (.iconst 1, 1) := by decide +kernel
theorem dX9_firstBroken_45 : decode cX9_firstBroken 45 = .ok (.goto 4, 3) := by decide +kernel
theorem dX9_firstBroken_48 : decode cX9_firstBroken 48 = .ok (.iconst 0, 1) := by decide +kernel
theorem dX9_firstBroken_49 : decode cX9_firstBroken 49 = .ok (.invokevirtual 176, 3) := by decide +kernel
theorem dX9_firstBroken_52 : decode cX9_firstBroken 52 = .ok (.ifCond .eq 7, 3) := by decide +kernel
theorem dX9_firstBroken_55 : decode cX9_firstBroken 55 = .ok (.iload_n 1, 1) := by decide +kernel
theorem dX9_firstBroken_56 : decode cX9_firstBroken 56 = .ok (.goto 4, 3) := by decide +kernel
theorem dX9_firstBroken_59 : decode cX9_firstBroken 59 = .ok (.iconst 0, 1) := by decide +kernel
theorem dX9_firstBroken_60 : decode cX9_firstBroken 60 = .ok (.ireturn, 1) := by decide +kernel
theorem dX9_costNow_0 : decode cX9_costNow 0 = .ok (.iconst 0, 1) := by decide +kernel
theorem dX9_costNow_1 : decode cX9_costNow 1 = .ok (.istore_n 1, 1) := by decide +kernel
theorem dX9_costNow_2 : decode cX9_costNow 2 = .ok (.iconst 0, 1) := by decide +kernel
theorem dX9_costNow_3 : decode cX9_costNow 3 = .ok (.istore_n 2, 1) := by decide +kernel
theorem dX9_costNow_4 : decode cX9_costNow 4 = .ok (.iload_n 2, 1) := by decide +kernel
theorem dX9_costNow_5 : decode cX9_costNow 5 = .ok (.aload_n 0, 1) := by decide +kernel
theorem dX9_costNow_6 : decode cX9_costNow 6 = .ok (.getfield 7, 3) := by decide +kernel
theorem dX9_costNow_9 : decode cX9_costNow 9 = .ok (.bipush 20, 2) := by decide +kernel
theorem dX9_costNow_11 : decode cX9_costNow 11 = .ok (.iaload, 1) := by decide +kernel
theorem dX9_costNow_12 : decode cX9_costNow 12 = .ok (.if_icmp .ge 24, 3) := by decide +kernel
theorem dX9_costNow_15 : decode cX9_costNow 15 = .ok (.iload_n 1, 1) := by decide +kernel
theorem dX9_costNow_16 : decode cX9_costNow 16 = .ok (.aload_n 0, 1) := by decide +kernel
theorem dX9_costNow_17 : decode cX9_costNow 17 = .ok (.iload_n 2, 1) := by decide +kernel
theorem dX9_costNow_18 : decode cX9_costNow 18 = .ok (.iconst 4, 1) := by decide +kernel
theorem dX9_costNow_19 : decode cX9_costNow 19 = .ok (.invokevirtual 200, 3) := by decide +kernel
theorem dX9_costNow_22 : decode cX9_costNow 22 = .ok (.aload_n 0, 1) := by decide +kernel
theorem dX9_costNow_23 : decode cX9_costNow 23 = .ok (.iload_n 2, 1) := by decide +kernel
theorem dX9_costNow_24 : decode cX9_costNow 24 = .ok (.invokevirtual 209, 3) := by decide +kernel
theorem dX9_costNow_27 : decode cX9_costNow 27 = .ok (.imul, 1) := by decide +kernel
theorem dX9_costNow_28 : decode cX9_costNow 28 = .ok (.iadd, 1) := by decide +kernel
theorem dX9_costNow_29 : decode cX9_costNow 29 = .ok (.istore_n 1, 1) := by decide +kernel
theorem dX9_costNow_30 : decode cX9_costNow 30 = .ok (.iinc 2 1, 3) := by decide +kernel
theorem dX9_costNow_33 : decode cX9_costNow 33 = .ok (.goto (-29), 3) := by decide +kernel
theorem dX9_costNow_36 : decode cX9_costNow 36 = .ok (.iload_n 1, 1) := by decide +kernel
theorem dX9_costNow_37 : decode cX9_costNow 37 = .ok (.ireturn, 1) := by decide +kernel
theorem dX9_cost_0 : decode cX9_cost 0 = .ok (.aload_n 0, 1) := by decide +kernel
theorem dX9_cost_1 : decode cX9_cost 1 = .ok (.iconst 0, 1) := by decide +kernel
theorem dX9_cost_2 : decode cX9_cost 2 = .ok (.putfield 54, 3) := by decide +kernel
theorem dX9_cost_5 : decode cX9_cost 5 = .ok (.aload_n 0, 1) := by decide +kernel
theorem dX9_cost_6 : decode cX9_cost 6 = .ok (.invokevirtual 221, 3) := by decide +kernel
theorem dX9_cost_9 : decode cX9_cost 9 = .ok (.ireturn, 1) := by decide +kernel
theorem dX9_weights_0 : decode cX9_weights 0 = .ok (.iconst 0, 1) := by decide +kernel
theorem dX9_weights_1 : decode cX9_weights 1 = .ok (.istore_n 1, 1) := by decide +kernel
theorem dX9_weights_2 : decode cX9_weights 2 = .ok (.iconst 0, 1) := by decide +kernel
theorem dX9_weights_3 : decode cX9_weights 3 = .ok (.istore_n 2, 1) := by decide +kernel
theorem dX9_weights_4 : decode cX9_weights 4 = .ok (.iload_n 2, 1) := by decide +kernel
theorem dX9_weights_5 : decode cX9_weights 5 = .ok (.aload_n 0, 1) := by decide +kernel
theorem dX9_weights_6 : decode cX9_weights 6 = .ok (.getfield 7, 3) := by decide +kernel
theorem dX9_weights_9 : decode cX9_weights 9 = .ok (.bipush 20, 2) := by decide +kernel
theorem dX9_weights_11 : decode cX9_weights 11 = .ok (.iaload, 1) := by decide +kernel
theorem dX9_weights_12 : decode cX9_weights 12 = .ok (.if_icmp .ge 18, 3) := by decide +kernel
theorem dX9_weights_15 : decode cX9_weights 15 = .ok (.iload_n 1, 1) := by decide +kernel
theorem dX9_weights_16 : decode cX9_weights 16 = .ok (.aload_n 0, 1) := by decide +kernel
theorem dX9_weights_17 : decode cX9_weights 17 = .ok (.iload_n 2, 1) := by decide +kernel
theorem dX9_weights_18 : decode cX9_weights 18 = .ok (.iconst 4, 1) := by decide +kernel
theorem dX9_weights_19 : decode cX9_weights 19 = .ok (.invokevirtual 200, 3) := by decide +kernel
theorem dX9_weights_22 : decode cX9_weights 22 = .ok (.iadd, 1) := by decide +kernel
theorem dX9_weights_23 : decode cX9_weights 23 = .ok (.istore_n 1, 1) := by decide +kernel
theorem dX9_weights_24 : decode cX9_weights 24 = .ok (.iinc 2 1, 3) := by decide +kernel
theorem dX9_weights_27 : decode cX9_weights 27 = .ok (.goto (-23), 3) := by decide +kernel
theorem dX9_weights_30 : decode cX9_weights 30 = .ok (.iload_n 1, 1) := by decide +kernel
theorem dX9_weights_31 : decode cX9_weights 31 = .ok (.ireturn, 1) := by decide +kernel
theorem dX9_meanSlack_0 : decode cX9_meanSlack 0 = .ok (.aload_n 0, 1) := by decide +kernel
theorem dX9_meanSlack_1 : decode cX9_meanSlack 1 = .ok (.iconst 0, 1) := by decide +kernel
theorem dX9_meanSlack_2 : decode cX9_meanSlack 2 = .ok (.putfield 54, 3) := by decide +kernel
theorem dX9_meanSlack_5 : decode cX9_meanSlack 5 = .ok (.aload_n 0, 1) := by decide +kernel
theorem dX9_meanSlack_6 : decode cX9_meanSlack 6 = .ok (.invokevirtual 224, 3) := by decide +kernel
theorem dX9_meanSlack_9 : decode cX9_meanSlack 9 = .ok (.ifCond .ne 7, 3) := by decide +kernel
theorem dX9_meanSlack_12 : decode cX9_meanSlack 12 = .ok (.fconst 0, 1) := by decide +kernel
theorem dX9_meanSlack_13 : decode cX9_meanSlack 13 = .ok (.goto 14, 3) := by decide +kernel
theorem dX9_meanSlack_16 : decode cX9_meanSlack 16 = .ok (.aload_n 0, 1) := by decide +kernel
theorem dX9_meanSlack_17 : decode cX9_meanSlack 17 = .ok (.invokevirtual 221, 3) := by decide +kernel
theorem dX9_meanSlack_20 : decode cX9_meanSlack 20 = .ok (.i2f, 1) := by decide +kernel
theorem dX9_meanSlack_21 : decode cX9_meanSlack 21 = .ok (.aload_n 0, 1) := by decide +kernel
theorem dX9_meanSlack_22 : decode cX9_meanSlack 22 = .ok (.invokevirtual 224, 3) := by decide +kernel
theorem dX9_meanSlack_25 : decode cX9_meanSlack 25 = .ok (.i2f, 1) := by decide +kernel
theorem dX9_meanSlack_26 : decode cX9_meanSlack 26 = .ok (.fdiv, 1) := by decide +kernel
theorem dX9_meanSlack_27 : decode cX9_meanSlack 27 = .ok (.freturn, 1) := by decide +kernel
theorem dX9_pair_0 : decode cX9_pair 0 = .ok (.bipush 6, 2) := by decide +kernel
theorem dX9_pair_2 : decode cX9_pair 2 = .ok (.iload_n 0, 1) := by decide +kernel
theorem dX9_pair_3 : decode cX9_pair 3 = .ok (.imul, 1) := by decide +kernel
theorem dX9_pair_4 : decode cX9_pair 4 = .ok (.iload_n 1, 1) := by decide +kernel
theorem dX9_pair_5 : decode cX9_pair 5 = .ok (.iadd, 1) := by decide +kernel
theorem dX9_pair_6 : decode cX9_pair 6 = .ok (.ireturn, 1) := by decide +kernel
theorem dX9_allBits_0 : decode cX9_allBits 0 = .ok (.iconst 1, 1) := by decide +kernel
theorem dX9_allBits_1 : decode cX9_allBits 1 = .ok (.aload_n 0, 1) := by decide +kernel
theorem dX9_allBits_2 : decode cX9_allBits 2 = .ok (.getfield 7, 3) := by decide +kernel
theorem dX9_allBits_5 : decode cX9_allBits 5 = .ok (.iconst 0, 1) := by decide +kernel
theorem dX9_allBits_6 : decode cX9_allBits 6 = .ok (.iaload, 1) := by decide +kernel
theorem dX9_allBits_7 : decode cX9_allBits 7 = .ok (.ishl, 1) := by decide +kernel
theorem dX9_allBits_8 : decode cX9_allBits 8 = .ok (.iconst 1, 1) := by decide +kernel
theorem dX9_allBits_9 : decode cX9_allBits 9 = .ok (.isub, 1) := by decide +kernel
theorem dX9_allBits_10 : decode cX9_allBits 10 = .ok (.ireturn, 1) := by decide +kernel
theorem dX9_has_0 : decode cX9_has 0 = .ok (.iload_n 0, 1) := by decide +kernel
theorem dX9_has_1 : decode cX9_has 1 = .ok (.iload_n 1, 1) := by decide +kernel
theorem dX9_has_2 : decode cX9_has 2 = .ok (.ishr, 1) := by decide +kernel
theorem dX9_has_3 : decode cX9_has 3 = .ok (.iconst 1, 1) := by decide +kernel
theorem dX9_has_4 : decode cX9_has 4 = .ok (.iand, 1) := by decide +kernel
theorem dX9_has_5 : decode cX9_has 5 = .ok (.iconst 1, 1) := by decide +kernel
theorem dX9_has_6 : decode cX9_has 6 = .ok (.if_icmp .ne 7, 3) := by decide +kernel
theorem dX9_has_9 : decode cX9_has 9 = .ok (.iconst 1, 1) := by decide +kernel
theorem dX9_has_10 : decode cX9_has 10 = .ok (.goto 4, 3) := by decide +kernel
theorem dX9_has_13 : decode cX9_has 13 = .ok (.iconst 0, 1) := by decide +kernel
theorem dX9_has_14 : decode cX9_has 14 = .ok (.ireturn, 1) := by decide +kernel
theorem dX9_bits_0 : decode cX9_bits 0 = .ok (.iconst 0, 1) := by decide +kernel
theorem dX9_bits_1 : decode cX9_bits 1 = .ok (.istore_n 1, 1) := by decide +kernel
theorem dX9_bits_2 : decode cX9_bits 2 = .ok (.iload_n 0, 1) := by decide +kernel
theorem dX9_bits_3 : decode cX9_bits 3 = .ok (.istore_n 2, 1) := by decide +kernel
theorem dX9_bits_4 : decode cX9_bits 4 = .ok (.iload_n 2, 1) := by decide +kernel
theorem dX9_bits_5 : decode cX9_bits 5 = .ok (.ifCond .eq 15, 3) := by decide +kernel
theorem dX9_bits_8 : decode cX9_bits 8 = .ok (.iinc 1 1, 3) := by decide +kernel
theorem dX9_bits_11 : decode cX9_bits 11 = .ok (.iload_n 2, 1) := by decide +kernel
theorem dX9_bits_12 : decode cX9_bits 12 = .ok (.iload_n 2, 1) := by decide +kernel
theorem dX9_bits_13 : decode cX9_bits 13 = .ok (.iconst 1, 1) := by decide +kernel
theorem dX9_bits_14 : decode cX9_bits 14 = .ok (.isub, 1) := by decide +kernel
theorem dX9_bits_15 : decode cX9_bits 15 = .ok (.iand, 1) := by decide +kernel
theorem dX9_bits_16 : decode cX9_bits 16 = .ok (.istore_n 2, 1) := by decide +kernel
theorem dX9_bits_17 : decode cX9_bits 17 = .ok (.goto (-13), 3) := by decide +kernel
theorem dX9_bits_20 : decode cX9_bits 20 = .ok (.iload_n 1, 1) := by decide +kernel
theorem dX9_bits_21 : decode cX9_bits 21 = .ok (.ireturn, 1) := by decide +kernel
theorem dX9_turned_0 : decode cX9_turned 0 = .ok (.iconst 0, 1) := by decide +kernel
theorem dX9_turned_1 : decode cX9_turned 1 = .ok (.istore_n 2, 1) := by decide +kernel
theorem dX9_turned_2 : decode cX9_turned 2 = .ok (.iconst 0, 1) := by decide +kernel
theorem dX9_turned_3 : decode cX9_turned 3 = .ok (.istore_n 3, 1) := by decide +kernel
theorem dX9_turned_4 : decode cX9_turned 4 = .ok (.iload_n 3, 1) := by decide +kernel
theorem dX9_turned_5 : decode cX9_turned 5 = .ok (.aload_n 0, 1) := by decide +kernel
theorem dX9_turned_6 : decode cX9_turned 6 = .ok (.getfield 7, 3) := by decide +kernel
theorem dX9_turned_9 : decode cX9_turned 9 = .ok (.iconst 0, 1) := by decide +kernel
theorem dX9_turned_10 : decode cX9_turned 10 = .ok (.iaload, 1) := by decide +kernel
theorem dX9_turned_11 : decode cX9_turned 11 = .ok (.if_icmp .ge 32, 3) := by decide +kernel
theorem dX9_turned_14 : decode cX9_turned 14 = .ok (.iload_n 2, 1) := by decide +kernel
theorem dX9_turned_15 : decode cX9_turned 15 = .ok (.iload_n 1, 1) := by decide +kernel
theorem dX9_turned_16 : decode cX9_turned 16 = .ok (.iload_n 3, 1) := by decide +kernel
theorem dX9_turned_17 : decode cX9_turned 17 = .ok (.invokestatic 227, 3) := by decide +kernel
theorem dX9_turned_20 : decode cX9_turned 20 = .ok (.ifCond .eq 14, 3) := by decide +kernel
theorem dX9_turned_23 : decode cX9_turned 23 = .ok (.iconst 1, 1) := by decide +kernel
theorem dX9_turned_24 : decode cX9_turned 24 = .ok (.aload_n 0, 1) := by decide +kernel
theorem dX9_turned_25 : decode cX9_turned 25 = .ok (.iload_n 3, 1) := by decide +kernel
theorem dX9_turned_26 : decode cX9_turned 26 = .ok (.ineg, 1) := by decide +kernel
theorem dX9_turned_27 : decode cX9_turned 27 = .ok (.invokevirtual 203, 3) := by decide +kernel
theorem dX9_turned_30 : decode cX9_turned 30 = .ok (.ishl, 1) := by decide +kernel
theorem dX9_turned_31 : decode cX9_turned 31 = .ok (.goto 4, 3) := by decide +kernel
theorem dX9_turned_34 : decode cX9_turned 34 = .ok (.iconst 0, 1) := by decide +kernel
theorem dX9_turned_35 : decode cX9_turned 35 = .ok (.ior, 1) := by decide +kernel
theorem dX9_turned_36 : decode cX9_turned 36 = .ok (.istore_n 2, 1) := by decide +kernel
theorem dX9_turned_37 : decode cX9_turned 37 = .ok (.iinc 3 1, 3) := by decide +kernel
theorem dX9_turned_40 : decode cX9_turned 40 = .ok (.goto (-36), 3) := by decide +kernel
theorem dX9_turned_43 : decode cX9_turned 43 = .ok (.iload_n 2, 1) := by decide +kernel
theorem dX9_turned_44 : decode cX9_turned 44 = .ok (.ireturn, 1) := by decide +kernel
theorem dX9_keptBits_0 : decode cX9_keptBits 0 = .ok (.iconst 0, 1) := by decide +kernel
theorem dX9_keptBits_1 : decode cX9_keptBits 1 = .ok (.istore_n 2, 1) := by decide +kernel
theorem dX9_keptBits_2 : decode cX9_keptBits 2 = .ok (.iconst 0, 1) := by decide +kernel
theorem dX9_keptBits_3 : decode cX9_keptBits 3 = .ok (.istore_n 3, 1) := by decide +kernel
theorem dX9_keptBits_4 : decode cX9_keptBits 4 = .ok (.iload_n 3, 1) := by decide +kernel
theorem dX9_keptBits_5 : decode cX9_keptBits 5 = .ok (.aload_n 0, 1) := by decide +kernel
theorem dX9_keptBits_6 : decode cX9_keptBits 6 = .ok (.getfield 7, 3) := by decide +kernel
theorem dX9_keptBits_9 : decode cX9_keptBits 9 = .ok (.iconst 0, 1) := by decide +kernel
theorem dX9_keptBits_10 : decode cX9_keptBits 10 = .ok (.iaload, 1) := by decide +kernel
theorem dX9_keptBits_11 : decode cX9_keptBits 11 = .ok (.if_icmp .ge 33, 3) := by decide +kernel
theorem dX9_keptBits_14 : decode cX9_keptBits 14 = .ok (.iload_n 2, 1) := by decide +kernel
theorem dX9_keptBits_15 : decode cX9_keptBits 15 = .ok (.aload_n 0, 1) := by decide +kernel
theorem dX9_keptBits_16 : decode cX9_keptBits 16 = .ok (.iload_n 1, 1) := by decide +kernel
theorem dX9_keptBits_17 : decode cX9_keptBits 17 = .ok (.aload_n 0, 1) := by decide +kernel
theorem dX9_keptBits_18 : decode cX9_keptBits 18 = .ok (.iload_n 1, 1) := by decide +kernel
theorem dX9_keptBits_19 : decode cX9_keptBits 19 = .ok (.iload_n 3, 1) := by decide +kernel
theorem dX9_keptBits_20 : decode cX9_keptBits 20 = .ok (.invokevirtual 206, 3) := by decide +kernel
theorem dX9_keptBits_23 : decode cX9_keptBits 23 = .ok (.invokevirtual 215, 3) := by decide +kernel
theorem dX9_keptBits_26 : decode cX9_keptBits 26 = .ok (.ifCond .eq 9, 3) := by decide +kernel
theorem dX9_keptBits_29 : decode cX9_keptBits 29 = .ok (.iconst 1, 1) := by decide +kernel
theorem dX9_keptBits_30 : decode cX9_keptBits 30 = .ok (.iload_n 3, 1) := by decide +kernel
theorem dX9_keptBits_31 : decode cX9_keptBits 31 = .ok (.ishl, 1) := by decide +kernel
theorem dX9_keptBits_32 : decode cX9_keptBits 32 = .ok (.goto 4, 3) := by decide +kernel
theorem dX9_keptBits_35 : decode cX9_keptBits 35 = .ok (.iconst 0, 1) := by decide +kernel
theorem dX9_keptBits_36 : decode cX9_keptBits 36 = .ok (.ior, 1) := by decide +kernel
theorem dX9_keptBits_37 : decode cX9_keptBits 37 = .ok (.istore_n 2, 1) := by decide +kernel
theorem dX9_keptBits_38 : decode cX9_keptBits 38 = .ok (.iinc 3 1, 3) := by decide +kernel
theorem dX9_keptBits_41 : decode cX9_keptBits 41 = .ok (.goto (-37), 3) := by decide +kernel
theorem dX9_keptBits_44 : decode cX9_keptBits 44 = .ok (.iload_n 2, 1) := by decide +kernel
theorem dX9_keptBits_45 : decode cX9_keptBits 45 = .ok (.ireturn, 1) := by decide +kernel
theorem dX9_narrows_0 : decode cX9_narrows 0 = .ok (.aload_n 0, 1) := by decide +kernel
theorem dX9_narrows_1 : decode cX9_narrows 1 = .ok (.getfield 26, 3) := by decide +kernel
theorem dX9_narrows_4 : decode cX9_narrows 4 = .ok (.iload_n 1, 1) := by decide +kernel
theorem dX9_narrows_5 : decode cX9_narrows 5 = .ok (.iload_n 2, 1) := by decide +kernel
theorem dX9_narrows_6 : decode cX9_narrows 6 = .ok (.invokestatic 230, 3) := by decide +kernel
theorem dX9_narrows_9 : decode cX9_narrows 9 = .ok (.dup2, 1) := by decide +kernel
theorem dX9_narrows_10 : decode cX9_narrows 10 = .ok (.iaload, 1) := by decide +kernel
theorem dX9_narrows_11 : decode cX9_narrows 11 = .ok (.iload_n 3, 1) := by decide +kernel
theorem dX9_narrows_12 : decode cX9_narrows 12 = .ok (.iand, 1) := by decide +kernel
theorem dX9_narrows_13 : decode cX9_narrows 13 = .ok (.iastore, 1) := by decide +kernel
theorem dX9_narrows_14 : decode cX9_narrows 14 = .ok (.aload_n 0, 1) := by decide +kernel
theorem dX9_narrows_15 : decode cX9_narrows 15 = .ok (.getfield 26, 3) := by decide +kernel
theorem dX9_narrows_18 : decode cX9_narrows 18 = .ok (.iload_n 2, 1) := by decide +kernel
theorem dX9_narrows_19 : decode cX9_narrows 19 = .ok (.iload_n 1, 1) := by decide +kernel
theorem dX9_narrows_20 : decode cX9_narrows 20 = .ok (.invokestatic 230, 3) := by decide +kernel
theorem dX9_narrows_23 : decode cX9_narrows 23 = .ok (.aload_n 0, 1) := by decide +kernel
theorem dX9_narrows_24 : decode cX9_narrows 24 = .ok (.aload_n 0, 1) := by decide +kernel
theorem dX9_narrows_25 : decode cX9_narrows 25 = .ok (.getfield 26, 3) := by decide +kernel
theorem dX9_narrows_28 : decode cX9_narrows 28 = .ok (.iload_n 1, 1) := by decide +kernel
theorem dX9_narrows_29 : decode cX9_narrows 29 = .ok (.iload_n 2, 1) := by decide +kernel
theorem dX9_narrows_30 : decode cX9_narrows 30 = .ok (.invokestatic 230, 3) := by decide +kernel
theorem dX9_narrows_33 : decode cX9_narrows 33 = .ok (.iaload, 1) := by decide +kernel
theorem dX9_narrows_34 : decode cX9_narrows 34 = .ok (.invokevirtual 233, 3) := by decide +kernel
theorem dX9_narrows_37 : decode cX9_narrows 37 = .ok (.iastore, 1) := by decide +kernel
theorem dX9_narrows_38 : decode cX9_narrows 38 = .ok (.return_, 1) := by decide +kernel
theorem dX9_laysSets_0 : decode cX9_laysSets 0 = .ok (.iconst 0, 1) := by decide +kernel
theorem dX9_laysSets_1 : decode cX9_laysSets 1 = .ok (.istore_n 1, 1) := by decide +kernel
theorem dX9_laysSets_2 : decode cX9_laysSets 2 = .ok (.iload_n 1, 1) := by decide +kernel
theorem dX9_laysSets_3 : decode cX9_laysSets 3 = .ok (.bipush 6, 2) := by decide +kernel
theorem dX9_laysSets_5 : decode cX9_laysSets 5 = .ok (.if_icmp .ge 46, 3) := by decide +kernel
theorem dX9_laysSets_8 : decode cX9_laysSets 8 = .ok (.iconst 0, 1) := by decide +kernel
theorem dX9_laysSets_9 : decode cX9_laysSets 9 = .ok (.istore_n 2, 1) := by decide +kernel
theorem dX9_laysSets_10 : decode cX9_laysSets 10 = .ok (.iload_n 2, 1) := by decide +kernel
theorem dX9_laysSets_11 : decode cX9_laysSets 11 = .ok (.bipush 6, 2) := by decide +kernel
theorem dX9_laysSets_13 : decode cX9_laysSets 13 = .ok (.if_icmp .ge 32, 3) := by decide +kernel
theorem dX9_laysSets_16 : decode cX9_laysSets 16 = .ok (.aload_n 0, 1) := by decide +kernel
theorem dX9_laysSets_17 : decode cX9_laysSets 17 = .ok (.getfield 26, 3) := by decide +kernel
theorem dX9_laysSets_20 : decode cX9_laysSets 20 = .ok (.iload_n 1, 1) := by decide +kernel
theorem dX9_laysSets_21 : decode cX9_laysSets 21 = .ok (.iload_n 2, 1) := by decide +kernel
theorem dX9_laysSets_22 : decode cX9_laysSets 22 = .ok (.invokestatic 230, 3) := by decide +kernel
theorem dX9_laysSets_25 : decode cX9_laysSets 25 = .ok (.iload_n 1, 1) := by decide +kernel
theorem dX9_laysSets_26 : decode cX9_laysSets 26 = .ok (.iload_n 2, 1) := by decide +kernel
theorem dX9_laysSets_27 : decode cX9_laysSets 27 = .ok (.if_icmp .ne 7, 3) := by decide +kernel
theorem dX9_laysSets_30 : decode cX9_laysSets 30 = .ok (.iconst 1, 1) := by decide +kernel
theorem dX9_laysSets_31 : decode cX9_laysSets 31 = .ok (.goto 7, 3) := by decide +kernel
theorem dX9_laysSets_34 : decode cX9_laysSets 34 = .ok (.aload_n 0, 1) := by decide +kernel
theorem dX9_laysSets_35 : decode cX9_laysSets 35 = .ok (.invokevirtual 236, 3) := by decide +kernel
theorem dX9_laysSets_38 : decode cX9_laysSets 38 = .ok (.iastore, 1) := by decide +kernel
theorem dX9_laysSets_39 : decode cX9_laysSets 39 = .ok (.iinc 2 1, 3) := by decide +kernel
theorem dX9_laysSets_42 : decode cX9_laysSets 42 = .ok (.goto (-32), 3) := by decide +kernel
theorem dX9_laysSets_45 : decode cX9_laysSets 45 = .ok (.iinc 1 1, 3) := by decide +kernel
theorem dX9_laysSets_48 : decode cX9_laysSets 48 = .ok (.goto (-46), 3) := by decide +kernel
theorem dX9_laysSets_51 : decode cX9_laysSets 51 = .ok (.iconst 0, 1) := by decide +kernel
theorem dX9_laysSets_52 : decode cX9_laysSets 52 = .ok (.istore_n 1, 1) := by decide +kernel
theorem dX9_laysSets_53 : decode cX9_laysSets 53 = .ok (.iload_n 1, 1) := by decide +kernel
theorem dX9_laysSets_54 : decode cX9_laysSets 54 = .ok (.aload_n 0, 1) := by decide +kernel
theorem dX9_laysSets_55 : decode cX9_laysSets 55 = .ok (.getfield 7, 3) := by decide +kernel
theorem dX9_laysSets_58 : decode cX9_laysSets 58 = .ok (.bipush 20, 2) := by decide +kernel
theorem dX9_laysSets_60 : decode cX9_laysSets 60 = .ok (.iaload, 1) := by decide +kernel
theorem dX9_laysSets_61 : decode cX9_laysSets 61 = .ok (.if_icmp .ge 30, 3) := by decide +kernel
theorem dX9_laysSets_64 : decode cX9_laysSets 64 = .ok (.aload_n 0, 1) := by decide +kernel
theorem dX9_laysSets_65 : decode cX9_laysSets 65 = .ok (.aload_n 0, 1) := by decide +kernel
theorem dX9_laysSets_66 : decode cX9_laysSets 66 = .ok (.iload_n 1, 1) := by decide +kernel
theorem dX9_laysSets_67 : decode cX9_laysSets 67 = .ok (.iconst 0, 1) := by decide +kernel
theorem dX9_laysSets_68 : decode cX9_laysSets 68 = .ok (.invokevirtual 200, 3) := by decide +kernel
theorem dX9_laysSets_71 : decode cX9_laysSets 71 = .ok (.aload_n 0, 1) := by decide +kernel
theorem dX9_laysSets_72 : decode cX9_laysSets 72 = .ok (.iload_n 1, 1) := by decide +kernel
theorem dX9_laysSets_73 : decode cX9_laysSets 73 = .ok (.iconst 1, 1) := by decide +kernel
theorem dX9_laysSets_74 : decode cX9_laysSets 74 = .ok (.invokevirtual 200, 3) := by decide +kernel
theorem dX9_laysSets_77 : decode cX9_laysSets 77 = .ok (.aload_n 0, 1) := by decide +kernel
theorem dX9_laysSets_78 : decode cX9_laysSets 78 = .ok (.iload_n 1, 1) := by decide +kernel
theorem dX9_laysSets_79 : decode cX9_laysSets 79 = .ok (.invokevirtual 239, 3) := by decide +kernel
theorem dX9_laysSets_82 : decode cX9_laysSets 82 = .ok (.invokevirtual 242, 3) := by decide +kernel
theorem dX9_laysSets_85 : decode cX9_laysSets 85 = .ok (.iinc 1 1, 3) := by decide +kernel
theorem dX9_laysSets_88 : decode cX9_laysSets 88 = .ok (.goto (-35), 3) := by decide +kernel
theorem dX9_laysSets_91 : decode cX9_laysSets 91 = .ok (.return_, 1) := by decide +kernel
theorem dX9_sums_0 : decode cX9_sums 0 = .ok (.iconst 0, 1) := by decide +kernel
theorem dX9_sums_1 : decode cX9_sums 1 = .ok (.istore_n 3, 1) := by decide +kernel
theorem dX9_sums_2 : decode cX9_sums 2 = .ok (.iconst 0, 1) := by decide +kernel
theorem dX9_sums_3 : decode cX9_sums 3 = .ok (.istore 4, 2) := by decide +kernel
theorem dX9_sums_5 : decode cX9_sums 5 = .ok (.iload 4, 2) := by decide +kernel
theorem dX9_sums_7 : decode cX9_sums 7 = .ok (.aload_n 0, 1) := by decide +kernel
theorem dX9_sums_8 : decode cX9_sums 8 = .ok (.getfield 7, 3) := by decide +kernel
theorem dX9_sums_11 : decode cX9_sums 11 = .ok (.iconst 0, 1) := by decide +kernel
theorem dX9_sums_12 : decode cX9_sums 12 = .ok (.iaload, 1) := by decide +kernel
theorem dX9_sums_13 : decode cX9_sums 13 = .ok (.if_icmp .ge 65, 3) := by decide +kernel
theorem dX9_sums_16 : decode cX9_sums 16 = .ok (.iconst 0, 1) := by decide +kernel
theorem dX9_sums_17 : decode cX9_sums 17 = .ok (.istore 5, 2) := by decide +kernel
theorem dX9_sums_19 : decode cX9_sums 19 = .ok (.iload 5, 2) := by decide +kernel
theorem dX9_sums_21 : decode cX9_sums 21 = .ok (.aload_n 0, 1) := by decide +kernel
theorem dX9_sums_22 : decode cX9_sums 22 = .ok (.getfield 7, 3) := by decide +kernel
theorem dX9_sums_25 : decode cX9_sums 25 = .ok (.iconst 0, 1) := by decide +kernel
theorem dX9_sums_26 : decode cX9_sums 26 = .ok (.iaload, 1) := by decide +kernel
theorem dX9_sums_27 : decode cX9_sums 27 = .ok (.if_icmp .ge 45, 3) := by decide +kernel
theorem dX9_sums_30 : decode cX9_sums 30 = .ok (.iload_n 1, 1) := by decide +kernel
theorem dX9_sums_31 : decode cX9_sums 31 = .ok (.iload 4, 2) := by decide +kernel
theorem dX9_sums_33 : decode cX9_sums 33 = .ok (.invokestatic 227, 3) := by decide +kernel
theorem dX9_sums_36 : decode cX9_sums 36 = .ok (.ifCond .eq 36, 3) := by decide +kernel
theorem dX9_sums_39 : decode cX9_sums 39 = .ok (.iload_n 3, 1) := by decide +kernel
theorem dX9_sums_40 : decode cX9_sums 40 = .ok (.iload_n 2, 1) := by decide +kernel
theorem dX9_sums_41 : decode cX9_sums 41 = .ok (.iload 5, 2) := by decide +kernel
theorem dX9_sums_43 : decode cX9_sums 43 = .ok (.invokestatic 227, 3) := by decide +kernel
theorem dX9_sums_46 : decode cX9_sums 46 = .ok (.ifCond .eq 17, 3) := by decide +kernel
theorem dX9_sums_49 : decode cX9_sums 49 = .ok (.iconst 1, 1) := by decide +kernel
theorem dX9_sums_50 : decode cX9_sums 50 = .ok (.aload_n 0, 1) := by decide +kernel
theorem dX9_sums_51 : decode cX9_sums 51 = .ok (.iload 4, 2) := by decide +kernel
theorem dX9_sums_53 : decode cX9_sums 53 = .ok (.iload 5, 2) := by decide +kernel
theorem dX9_sums_55 : decode cX9_sums 55 = .ok (.iadd, 1) := by decide +kernel
theorem dX9_sums_56 : decode cX9_sums 56 = .ok (.invokevirtual 203, 3) := by decide +kernel
theorem dX9_sums_59 : decode cX9_sums 59 = .ok (.ishl, 1) := by decide +kernel
theorem dX9_sums_60 : decode cX9_sums 60 = .ok (.goto 4, 3) := by decide +kernel
theorem dX9_sums_63 : decode cX9_sums 63 = .ok (.iconst 0, 1) := by decide +kernel
theorem dX9_sums_64 : decode cX9_sums 64 = .ok (.ior, 1) := by decide +kernel
theorem dX9_sums_65 : decode cX9_sums 65 = .ok (.istore_n 3, 1) := by decide +kernel
theorem dX9_sums_66 : decode cX9_sums 66 = .ok (.iinc 5 1, 3) := by decide +kernel
theorem dX9_sums_69 : decode cX9_sums 69 = .ok (.goto (-50), 3) := by decide +kernel
theorem dX9_sums_72 : decode cX9_sums 72 = .ok (.iinc 4 1, 3) := by decide +kernel
theorem dX9_sums_75 : decode cX9_sums 75 = .ok (.goto (-70), 3) := by decide +kernel
theorem dX9_sums_78 : decode cX9_sums 78 = .ok (.iload_n 3, 1) := by decide +kernel
theorem dX9_sums_79 : decode cX9_sums 79 = .ok (.ireturn, 1) := by decide +kernel
theorem dX9_goesRound_0 : decode cX9_goesRound 0 = .ok (.iconst 0, 1) := by decide +kernel
theorem dX9_goesRound_1 : decode cX9_goesRound 1 = .ok (.istore_n 1, 1) := by decide +kernel
theorem dX9_goesRound_2 : decode cX9_goesRound 2 = .ok (.iconst 0, 1) := by decide +kernel
theorem dX9_goesRound_3 : decode cX9_goesRound 3 = .ok (.istore_n 2, 1) := by decide +kernel
theorem dX9_goesRound_4 : decode cX9_goesRound 4 = .ok (.iload_n 2, 1) := by decide +kernel
theorem dX9_goesRound_5 : decode cX9_goesRound 5 = .ok (.aload_n 0, 1) := by decide +kernel
theorem dX9_goesRound_6 : decode cX9_goesRound 6 = .ok (.getfield 7, 3) := by decide +kernel
theorem dX9_goesRound_9 : decode cX9_goesRound 9 = .ok (.iconst 1, 1) := by decide +kernel
theorem dX9_goesRound_10 : decode cX9_goesRound 10 = .ok (.iaload, 1) := by decide +kernel
theorem dX9_goesRound_11 : decode cX9_goesRound 11 = .ok (.if_icmp .ge 138, 3) := by decide +kernel
theorem dX9_goesRound_14 : decode cX9_goesRound 14 = .ok (.iconst 0, 1) := by decide +kernel
theorem dX9_goesRound_15 : decode cX9_goesRound 15 = .ok (.istore_n 3, 1) := by decide +kernel
theorem dX9_goesRound_16 : decode cX9_goesRound 16 = .ok (.iload_n 3, 1) := by decide +kernel
theorem dX9_goesRound_17 : decode cX9_goesRound 17 = .ok (.aload_n 0, 1) := by decide +kernel
theorem dX9_goesRound_18 : decode cX9_goesRound 18 = .ok (.getfield 7, 3) := by decide +kernel
theorem dX9_goesRound_21 : decode cX9_goesRound 21 = .ok (.iconst 1, 1) := by decide +kernel
theorem dX9_goesRound_22 : decode cX9_goesRound 22 = .ok (.iaload, 1) := by decide +kernel
theorem dX9_goesRound_23 : decode cX9_goesRound 23 = .ok (.if_icmp .ge 120, 3) := by decide +kernel
theorem dX9_goesRound_26 : decode cX9_goesRound 26 = .ok (.iconst 0, 1) := by decide +kernel
theorem dX9_goesRound_27 : decode cX9_goesRound 27 = .ok (.istore 4, 2) := by decide +kernel
theorem dX9_goesRound_29 : decode cX9_goesRound 29 = .ok (.iload 4, 2) := by decide +kernel
theorem dX9_goesRound_31 : decode cX9_goesRound 31 = .ok (.aload_n 0, 1) := by decide +kernel
theorem dX9_goesRound_32 : decode cX9_goesRound 32 = .ok (.getfield 7, 3) := by decide +kernel
theorem dX9_goesRound_35 : decode cX9_goesRound 35 = .ok (.iconst 1, 1) := by decide +kernel
theorem dX9_goesRound_36 : decode cX9_goesRound 36 = .ok (.iaload, 1) := by decide +kernel
theorem dX9_goesRound_37 : decode cX9_goesRound 37 = .ok (.if_icmp .ge 100, 3) := by decide +kernel
theorem dX9_goesRound_40 : decode cX9_goesRound 40 = .ok (.iload_n 3, 1) := by decide +kernel
theorem dX9_goesRound_41 : decode cX9_goesRound 41 = .ok (.iload 4, 2) := by decide +kernel
theorem dX9_goesRound_43 : decode cX9_goesRound 43 = .ok (.if_icmp .eq 88, 3) := by decide +kernel
theorem dX9_goesRound_46 : decode cX9_goesRound 46 = .ok (.iload_n 3, 1) := by decide +kernel
theorem dX9_goesRound_47 : decode cX9_goesRound 47 = .ok (.iload_n 2, 1) := by decide +kernel
theorem dX9_goesRound_48 : decode cX9_goesRound 48 = .ok (.if_icmp .eq 83, 3) := by decide +kernel
theorem dX9_goesRound_51 : decode cX9_goesRound 51 = .ok (.iload 4, 2) := by decide +kernel
theorem dX9_goesRound_53 : decode cX9_goesRound 53 = .ok (.iload_n 2, 1) := by decide +kernel
theorem dX9_goesRound_54 : decode cX9_goesRound 54 = .ok (.if_icmp .ne 6, 3) := by decide +kernel
theorem dX9_goesRound_57 : decode cX9_goesRound 57 = .ok (.goto 74, 3) := by decide +kernel
theorem dX9_goesRound_60 : decode cX9_goesRound 60 = .ok (.aload_n 0, 1) := by decide +kernel
theorem dX9_goesRound_61 : decode cX9_goesRound 61 = .ok (.getfield 26, 3) := by decide +kernel
theorem dX9_goesRound_64 : decode cX9_goesRound 64 = .ok (.iload_n 3, 1) := by decide +kernel
theorem dX9_goesRound_65 : decode cX9_goesRound 65 = .ok (.iload 4, 2) := by decide +kernel
theorem dX9_goesRound_67 : decode cX9_goesRound 67 = .ok (.invokestatic 230, 3) := by decide +kernel
theorem dX9_goesRound_70 : decode cX9_goesRound 70 = .ok (.iaload, 1) := by decide +kernel
theorem dX9_goesRound_71 : decode cX9_goesRound 71 = .ok (.istore 5, 2) := by decide +kernel
theorem dX9_goesRound_73 : decode cX9_goesRound 73 = .ok (.aload_n 0, 1) := by decide +kernel
theorem dX9_goesRound_74 : decode cX9_goesRound 74 = .ok (.iload_n 3, 1) := by decide +kernel
theorem dX9_goesRound_75 : decode cX9_goesRound 75 = .ok (.iload 4, 2) := by decide +kernel
theorem dX9_goesRound_77 : decode cX9_goesRound 77 = .ok (.aload_n 0, 1) := by decide +kernel
theorem dX9_goesRound_78 : decode cX9_goesRound 78 = .ok (.aload_n 0, 1) := by decide +kernel
theorem dX9_goesRound_79 : decode cX9_goesRound 79 = .ok (.getfield 26, 3) := by decide +kernel
theorem dX9_goesRound_82 : decode cX9_goesRound 82 = .ok (.iload_n 3, 1) := by decide +kernel
theorem dX9_goesRound_83 : decode cX9_goesRound 83 = .ok (.iload_n 2, 1) := by decide +kernel
theorem dX9_goesRound_84 : decode cX9_goesRound 84 = .ok (.invokestatic 230, 3) := by decide +kernel
theorem dX9_goesRound_87 : decode cX9_goesRound 87 = .ok (.iaload, 1) := by decide +kernel
theorem dX9_goesRound_88 : decode cX9_goesRound 88 = .ok (.aload_n 0, 1) := by decide +kernel
theorem dX9_goesRound_89 : decode cX9_goesRound 89 = .ok (.getfield 26, 3) := by decide +kernel
theorem dX9_goesRound_92 : decode cX9_goesRound 92 = .ok (.iload_n 2, 1) := by decide +kernel
theorem dX9_goesRound_93 : decode cX9_goesRound 93 = .ok (.iload 4, 2) := by decide +kernel
theorem dX9_goesRound_95 : decode cX9_goesRound 95 = .ok (.invokestatic 230, 3) := by decide +kernel
theorem dX9_goesRound_98 : decode cX9_goesRound 98 = .ok (.iaload, 1) := by decide +kernel
theorem dX9_goesRound_99 : decode cX9_goesRound 99 = .ok (.invokevirtual 246, 3) := by decide +kernel
theorem dX9_goesRound_102 : decode cX9_goesRound 102 = .ok (.invokevirtual 242, 3) := by decide +kernel
theorem dX9_goesRound_105 : decode cX9_goesRound 105 = .ok (.iload_n 1, 1) := by decide +kernel
theorem dX9_goesRound_106 : decode cX9_goesRound 106 = .ok (.ifCond .ne 19, 3) := by decide +kernel
theorem dX9_goesRound_109 : decode cX9_goesRound 109 = .ok (.aload_n 0, 1) := by decide +kernel
theorem dX9_goesRound_110 : decode cX9_goesRound 110 = .ok (.getfield 26, 3) := by decide +kernel
theorem dX9_goesRound_113 : decode cX9_goesRound 113 = .ok (.iload_n 3, 1) := by decide +kernel
theorem dX9_goesRound_114 : decode cX9_goesRound 114 = .ok (.iload 4, 2) := by decide +kernel
theorem dX9_goesRound_116 : decode cX9_goesRound 116 = .ok (.invokestatic 230, 3) := by decide +kernel
theorem dX9_goesRound_119 : decode cX9_goesRound 119 = .ok (.iaload, 1) := by decide +kernel
theorem dX9_goesRound_120 : decode cX9_goesRound 120 = .ok (.iload 5, 2) := by decide +kernel
theorem dX9_goesRound_122 : decode cX9_goesRound 122 = .ok (.if_icmp .eq 7, 3) := by decide +kernel
theorem dX9_goesRound_125 : decode cX9_goesRound 125 = .ok (.iconst 1, 1) := by decide +kernel
theorem dX9_goesRound_126 : decode cX9_goesRound 126 = .ok (.goto 4, 3) := by decide +kernel
theorem dX9_goesRound_129 : decode cX9_goesRound 129 = .ok (.iconst 0, 1) := by decide +kernel
theorem dX9_goesRound_130 : decode cX9_goesRound 130 = .ok (.istore_n 1, 1) := by decide +kernel
theorem dX9_goesRound_131 : decode cX9_goesRound 131 = .ok (.iinc 4 1, 3) := by decide +kernel
theorem dX9_goesRound_134 : decode cX9_goesRound 134 = .ok (.goto (-105), 3) := by decide +kernel
theorem dX9_goesRound_137 : decode cX9_goesRound 137 = .ok (.iinc 3 1, 3) := by decide +kernel
theorem dX9_goesRound_140 : decode cX9_goesRound 140 = .ok (.goto (-124), 3) := by decide +kernel
theorem dX9_goesRound_143 : decode cX9_goesRound 143 = .ok (.iinc 2 1, 3) := by decide +kernel
theorem dX9_goesRound_146 : decode cX9_goesRound 146 = .ok (.goto (-142), 3) := by decide +kernel
theorem dX9_goesRound_149 : decode cX9_goesRound 149 = .ok (.iload_n 1, 1) := by decide +kernel
theorem dX9_goesRound_150 : decode cX9_goesRound 150 = .ok (.ireturn, 1) := by decide +kernel
theorem dX9_tightens_0 : decode cX9_tightens 0 = .ok (.aload_n 0, 1) := by decide +kernel
theorem dX9_tightens_1 : decode cX9_tightens 1 = .ok (.invokevirtual 249, 3) := by decide +kernel
theorem dX9_tightens_4 : decode cX9_tightens 4 = .ok (.aload_n 0, 1) := by decide +kernel
theorem dX9_tightens_5 : decode cX9_tightens 5 = .ok (.iconst 1, 1) := by decide +kernel
theorem dX9_tightens_6 : decode cX9_tightens 6 = .ok (.putfield 252, 3) := by decide +kernel
theorem dX9_tightens_9 : decode cX9_tightens 9 = .ok (.aload_n 0, 1) := by decide +kernel
theorem dX9_tightens_10 : decode cX9_tightens 10 = .ok (.invokevirtual 255, 3) := by decide +kernel
theorem dX9_tightens_13 : decode cX9_tightens 13 = .ok (.ifCond .eq 16, 3) := by decide +kernel
theorem dX9_tightens_16 : decode cX9_tightens 16 = .ok (.aload_n 0, 1) := by decide +kernel
theorem dX9_tightens_17 : decode cX9_tightens 17 = .ok (.dup, 1) := by decide +kernel
theorem dX9_tightens_18 : decode cX9_tightens 18 = .ok (.getfield 252, 3) := by decide +kernel
theorem dX9_tightens_21 : decode cX9_tightens 21 = .ok (.iconst 1, 1) := by decide +kernel
theorem dX9_tightens_22 : decode cX9_tightens 22 = .ok (.iadd, 1) := by decide +kernel
theorem dX9_tightens_23 : decode cX9_tightens 23 = .ok (.putfield 252, 3) := by decide +kernel
theorem dX9_tightens_26 : decode cX9_tightens 26 = .ok (.goto (-17), 3) := by decide +kernel
theorem dX9_tightens_29 : decode cX9_tightens 29 = .ok (.return_, 1) := by decide +kernel
theorem dX9_allowed_0 : decode cX9_allowed 0 = .ok (.aload_n 0, 1) := by decide +kernel
theorem dX9_allowed_1 : decode cX9_allowed 1 = .ok (.aload_n 0, 1) := by decide +kernel
theorem dX9_allowed_2 : decode cX9_allowed 2 = .ok (.iload_n 1, 1) := by decide +kernel
theorem dX9_allowed_3 : decode cX9_allowed 3 = .ok (.iload_n 2, 1) := by decide +kernel
theorem dX9_allowed_4 : decode cX9_allowed 4 = .ok (.invokevirtual 258, 3) := by decide +kernel
theorem dX9_allowed_7 : decode cX9_allowed 7 = .ok (.invokevirtual 176, 3) := by decide +kernel
theorem dX9_allowed_10 : decode cX9_allowed 10 = .ok (.ifCond .ne 5, 3) := by decide +kernel
theorem dX9_allowed_13 : decode cX9_allowed 13 = .ok (.iconst 0, 1) := by decide +kernel
theorem dX9_allowed_14 : decode cX9_allowed 14 = .ok (.ireturn, 1) := by decide +kernel
theorem dX9_allowed_15 : decode cX9_allowed 15 = .ok (.iload_n 3, 1) := by decide +kernel
theorem dX9_allowed_16 : decode cX9_allowed 16 = .ok (.ifCond .eq 10, 3) := by decide +kernel
theorem dX9_allowed_19 : decode cX9_allowed 19 = .ok (.aload_n 0, 1) := by decide +kernel
theorem dX9_allowed_20 : decode cX9_allowed 20 = .ok (.invokevirtual 261, 3) := by decide +kernel
theorem dX9_allowed_23 : decode cX9_allowed 23 = .ok (.goto 7, 3) := by decide +kernel
theorem dX9_allowed_26 : decode cX9_allowed 26 = .ok (.aload_n 0, 1) := by decide +kernel
theorem dX9_allowed_27 : decode cX9_allowed 27 = .ok (.invokevirtual 249, 3) := by decide +kernel
theorem dX9_allowed_30 : decode cX9_allowed 30 = .ok (.aload_n 0, 1) := by decide +kernel
theorem dX9_allowed_31 : decode cX9_allowed 31 = .ok (.getfield 26, 3) := by decide +kernel
theorem dX9_allowed_34 : decode cX9_allowed 34 = .ok (.iload_n 1, 1) := by decide +kernel
theorem dX9_allowed_35 : decode cX9_allowed 35 = .ok (.iload_n 2, 1) := by decide +kernel
theorem dX9_allowed_36 : decode cX9_allowed 36 = .ok (.invokestatic 230, 3) := by decide +kernel
theorem dX9_allowed_39 : decode cX9_allowed 39 = .ok (.iaload, 1) := by decide +kernel
theorem dX9_allowed_40 : decode cX9_allowed 40 = .ok (.invokestatic 264, 3) := by decide +kernel
theorem dX9_allowed_43 : decode cX9_allowed 43 = .ok (.ireturn, 1) := by decide +kernel
theorem dX9_isAllowed_0 : decode cX9_isAllowed 0 = .ok (.aload_n 0, 1) := by decide +kernel
theorem dX9_isAllowed_1 : decode cX9_isAllowed 1 = .ok (.aload_n 0, 1) := by decide +kernel
theorem dX9_isAllowed_2 : decode cX9_isAllowed 2 = .ok (.iload_n 1, 1) := by decide +kernel
theorem dX9_isAllowed_3 : decode cX9_isAllowed 3 = .ok (.iload_n 2, 1) := by decide +kernel
theorem dX9_isAllowed_4 : decode cX9_isAllowed 4 = .ok (.invokevirtual 258, 3) := by decide +kernel
theorem dX9_isAllowed_7 : decode cX9_isAllowed 7 = .ok (.aload_n 0, 1) := by decide +kernel
theorem dX9_isAllowed_8 : decode cX9_isAllowed 8 = .ok (.iload_n 3, 1) := by decide +kernel
theorem dX9_isAllowed_9 : decode cX9_isAllowed 9 = .ok (.invokevirtual 267, 3) := by decide +kernel
theorem dX9_isAllowed_12 : decode cX9_isAllowed 12 = .ok (.invokevirtual 197, 3) := by decide +kernel
theorem dX9_isAllowed_15 : decode cX9_isAllowed 15 = .ok (.ifCond .ne 5, 3) := by decide +kernel
theorem dX9_isAllowed_18 : decode cX9_isAllowed 18 = .ok (.iconst 0, 1) := by decide +kernel
theorem dX9_isAllowed_19 : decode cX9_isAllowed 19 = .ok (.ireturn, 1) := by decide +kernel
theorem dX9_isAllowed_20 : decode cX9_isAllowed 20 = .ok (.aload_n 0, 1) := by decide +kernel
theorem dX9_isAllowed_21 : decode cX9_isAllowed 21 = .ok (.invokevirtual 261, 3) := by decide +kernel
theorem dX9_isAllowed_24 : decode cX9_isAllowed 24 = .ok (.aload_n 0, 1) := by decide +kernel
theorem dX9_isAllowed_25 : decode cX9_isAllowed 25 = .ok (.getfield 26, 3) := by decide +kernel
theorem dX9_isAllowed_28 : decode cX9_isAllowed 28 = .ok (.iload_n 1, 1) := by decide +kernel
theorem dX9_isAllowed_29 : decode cX9_isAllowed 29 = .ok (.iload_n 2, 1) := by decide +kernel
theorem dX9_isAllowed_30 : decode cX9_isAllowed 30 = .ok (.invokestatic 230, 3) := by decide +kernel
theorem dX9_isAllowed_33 : decode cX9_isAllowed 33 = .ok (.iaload, 1) := by decide +kernel
theorem dX9_isAllowed_34 : decode cX9_isAllowed 34 = .ok (.iload_n 3, 1) := by decide +kernel
theorem dX9_isAllowed_35 : decode cX9_isAllowed 35 = .ok (.invokestatic 227, 3) := by decide +kernel
theorem dX9_isAllowed_38 : decode cX9_isAllowed 38 = .ok (.ireturn, 1) := by decide +kernel
theorem dX9_rounds_0 : decode cX9_rounds 0 = .ok (.aload_n 0, 1) := by decide +kernel
theorem dX9_rounds_1 : decode cX9_rounds 1 = .ok (.iconst 0, 1) := by decide +kernel
theorem dX9_rounds_2 : decode cX9_rounds 2 = .ok (.putfield 54, 3) := by decide +kernel
theorem dX9_rounds_5 : decode cX9_rounds 5 = .ok (.aload_n 0, 1) := by decide +kernel
theorem dX9_rounds_6 : decode cX9_rounds 6 = .ok (.invokevirtual 261, 3) := by decide +kernel
theorem dX9_rounds_9 : decode cX9_rounds 9 = .ok (.aload_n 0, 1) := by decide +kernel
theorem dX9_rounds_10 : decode cX9_rounds 10 = .ok (.getfield 252, 3) := by decide +kernel
theorem dX9_rounds_13 : decode cX9_rounds 13 = .ok (.ireturn, 1) := by decide +kernel
theorem dX9_isTightNow_0 : decode cX9_isTightNow 0 = .ok (.aload_n 0, 1) := by decide +kernel
theorem dX9_isTightNow_1 : decode cX9_isTightNow 1 = .ok (.invokevirtual 261, 3) := by decide +kernel
theorem dX9_isTightNow_4 : decode cX9_isTightNow 4 = .ok (.iconst 1, 1) := by decide +kernel
theorem dX9_isTightNow_5 : decode cX9_isTightNow 5 = .ok (.istore_n 1, 1) := by decide +kernel
theorem dX9_isTightNow_6 : decode cX9_isTightNow 6 = .ok (.iconst 0, 1) := by decide +kernel
theorem dX9_isTightNow_7 : decode cX9_isTightNow 7 = .ok (.istore_n 2, 1) := by decide +kernel
theorem dX9_isTightNow_8 : decode cX9_isTightNow 8 = .ok (.iload_n 2, 1) := by decide +kernel
theorem dX9_isTightNow_9 : decode cX9_isTightNow 9 = .ok (.aload_n 0, 1) := by decide +kernel
theorem dX9_isTightNow_10 : decode cX9_isTightNow 10 = .ok (.getfield 7, 3) := by decide +kernel
theorem dX9_isTightNow_13 : decode cX9_isTightNow 13 = .ok (.iconst 1, 1) := by decide +kernel
theorem dX9_isTightNow_14 : decode cX9_isTightNow 14 = .ok (.iaload, 1) := by decide +kernel
theorem dX9_isTightNow_15 : decode cX9_isTightNow 15 = .ok (.if_icmp .ge 50, 3) := by decide +kernel
theorem dX9_isTightNow_18 : decode cX9_isTightNow 18 = .ok (.iconst 0, 1) := by decide +kernel
theorem dX9_isTightNow_19 : decode cX9_isTightNow 19 = .ok (.istore_n 3, 1) := by decide +kernel
theorem dX9_isTightNow_20 : decode cX9_isTightNow 20 = .ok (.iload_n 3, 1) := by decide +kernel
theorem dX9_isTightNow_21 : decode cX9_isTightNow 21 = .ok (.aload_n 0, 1) := by decide +kernel
theorem dX9_isTightNow_22 : decode cX9_isTightNow 22 = .ok (.getfield 7, 3) := by decide +kernel
theorem dX9_isTightNow_25 : decode cX9_isTightNow 25 = .ok (.iconst 1, 1) := by decide +kernel
theorem dX9_isTightNow_26 : decode cX9_isTightNow 26 = .ok (.iaload, 1) := by decide +kernel
theorem dX9_isTightNow_27 : decode cX9_isTightNow 27 = .ok (.if_icmp .ge 32, 3) := by decide +kernel
theorem dX9_isTightNow_30 : decode cX9_isTightNow 30 = .ok (.iload_n 1, 1) := by decide +kernel
theorem dX9_isTightNow_31 : decode cX9_isTightNow 31 = .ok (.ifCond .eq 20, 3) := by decide +kernel
theorem dX9_isTightNow_34 : decode cX9_isTightNow 34 = .ok (.aload_n 0, 1) := by decide +kernel
theorem dX9_isTightNow_35 : decode cX9_isTightNow 35 = .ok (.getfield 26, 3) := by decide +kernel
theorem dX9_isTightNow_38 : decode cX9_isTightNow 38 = .ok (.iload_n 2, 1) := by decide +kernel
theorem dX9_isTightNow_39 : decode cX9_isTightNow 39 = .ok (.iload_n 3, 1) := by decide +kernel
theorem dX9_isTightNow_40 : decode cX9_isTightNow 40 = .ok (.invokestatic 230, 3) := by decide +kernel
theorem dX9_isTightNow_43 : decode cX9_isTightNow 43 = .ok (.iaload, 1) := by decide +kernel
theorem dX9_isTightNow_44 : decode cX9_isTightNow 44 = .ok (.ifCond .eq 7, 3) := by decide +kernel
theorem dX9_isTightNow_47 : decode cX9_isTightNow 47 = .ok (.iconst 1, 1) := by decide +kernel
theorem dX9_isTightNow_48 : decode cX9_isTightNow 48 = .ok (.goto 4, 3) := by decide +kernel
theorem dX9_isTightNow_51 : decode cX9_isTightNow 51 = .ok (.iconst 0, 1) := by decide +kernel
theorem dX9_isTightNow_52 : decode cX9_isTightNow 52 = .ok (.istore_n 1, 1) := by decide +kernel
theorem dX9_isTightNow_53 : decode cX9_isTightNow 53 = .ok (.iinc 3 1, 3) := by decide +kernel
theorem dX9_isTightNow_56 : decode cX9_isTightNow 56 = .ok (.goto (-36), 3) := by decide +kernel
theorem dX9_isTightNow_59 : decode cX9_isTightNow 59 = .ok (.iinc 2 1, 3) := by decide +kernel
theorem dX9_isTightNow_62 : decode cX9_isTightNow 62 = .ok (.goto (-54), 3) := by decide +kernel
theorem dX9_isTightNow_65 : decode cX9_isTightNow 65 = .ok (.iload_n 1, 1) := by decide +kernel
theorem dX9_isTightNow_66 : decode cX9_isTightNow 66 = .ok (.ireturn, 1) := by decide +kernel
theorem dX9_isTight_0 : decode cX9_isTight 0 = .ok (.aload_n 0, 1) := by decide +kernel
theorem dX9_isTight_1 : decode cX9_isTight 1 = .ok (.iconst 0, 1) := by decide +kernel
theorem dX9_isTight_2 : decode cX9_isTight 2 = .ok (.putfield 54, 3) := by decide +kernel
theorem dX9_isTight_5 : decode cX9_isTight 5 = .ok (.aload_n 0, 1) := by decide +kernel
theorem dX9_isTight_6 : decode cX9_isTight 6 = .ok (.invokevirtual 270, 3) := by decide +kernel
theorem dX9_isTight_9 : decode cX9_isTight 9 = .ok (.ireturn, 1) := by decide +kernel
theorem dX9_boundOf_0 : decode cX9_boundOf 0 = .ok (.aload_n 0, 1) := by decide +kernel
theorem dX9_boundOf_1 : decode cX9_boundOf 1 = .ok (.invokevirtual 261, 3) := by decide +kernel
theorem dX9_boundOf_4 : decode cX9_boundOf 4 = .ok (.aload_n 0, 1) := by decide +kernel
theorem dX9_boundOf_5 : decode cX9_boundOf 5 = .ok (.getfield 26, 3) := by decide +kernel
theorem dX9_boundOf_8 : decode cX9_boundOf 8 = .ok (.aload_n 0, 1) := by decide +kernel
theorem dX9_boundOf_9 : decode cX9_boundOf 9 = .ok (.iload_n 1, 1) := by decide +kernel
theorem dX9_boundOf_10 : decode cX9_boundOf 10 = .ok (.iconst 0, 1) := by decide +kernel
theorem dX9_boundOf_11 : decode cX9_boundOf 11 = .ok (.invokevirtual 200, 3) := by decide +kernel
theorem dX9_boundOf_14 : decode cX9_boundOf 14 = .ok (.aload_n 0, 1) := by decide +kernel
theorem dX9_boundOf_15 : decode cX9_boundOf 15 = .ok (.iload_n 1, 1) := by decide +kernel
theorem dX9_boundOf_16 : decode cX9_boundOf 16 = .ok (.iconst 1, 1) := by decide +kernel
theorem dX9_boundOf_17 : decode cX9_boundOf 17 = .ok (.invokevirtual 200, 3) := by decide +kernel
theorem dX9_boundOf_20 : decode cX9_boundOf 20 = .ok (.invokestatic 230, 3) := by decide +kernel
theorem dX9_boundOf_23 : decode cX9_boundOf 23 = .ok (.iaload, 1) := by decide +kernel
theorem dX9_boundOf_24 : decode cX9_boundOf 24 = .ok (.istore_n 3, 1) := by decide +kernel
theorem dX9_boundOf_25 : decode cX9_boundOf 25 = .ok (.iconst (-1), 1) := by decide +kernel
theorem dX9_boundOf_26 : decode cX9_boundOf 26 = .ok (.istore 4, 2) := by decide +kernel
theorem dX9_boundOf_28 : decode cX9_boundOf 28 = .ok (.iconst 0, 1) := by decide +kernel
theorem dX9_boundOf_29 : decode cX9_boundOf 29 = .ok (.istore 5, 2) := by decide +kernel
theorem dX9_boundOf_31 : decode cX9_boundOf 31 = .ok (.iload 5, 2) := by decide +kernel
theorem dX9_boundOf_33 : decode cX9_boundOf 33 = .ok (.aload_n 0, 1) := by decide +kernel
theorem dX9_boundOf_34 : decode cX9_boundOf 34 = .ok (.getfield 7, 3) := by decide +kernel
theorem dX9_boundOf_37 : decode cX9_boundOf 37 = .ok (.iconst 0, 1) := by decide +kernel
theorem dX9_boundOf_38 : decode cX9_boundOf 38 = .ok (.iaload, 1) := by decide +kernel
theorem dX9_boundOf_39 : decode cX9_boundOf 39 = .ok (.if_icmp .ge 50, 3) := by decide +kernel
theorem dX9_boundOf_42 : decode cX9_boundOf 42 = .ok (.iload_n 3, 1) := by decide +kernel
theorem dX9_boundOf_43 : decode cX9_boundOf 43 = .ok (.aload_n 0, 1) := by decide +kernel
theorem dX9_boundOf_44 : decode cX9_boundOf 44 = .ok (.aload_n 0, 1) := by decide +kernel
theorem dX9_boundOf_45 : decode cX9_boundOf 45 = .ok (.iload_n 1, 1) := by decide +kernel
theorem dX9_boundOf_46 : decode cX9_boundOf 46 = .ok (.iconst 2, 1) := by decide +kernel
theorem dX9_boundOf_47 : decode cX9_boundOf 47 = .ok (.invokevirtual 200, 3) := by decide +kernel
theorem dX9_boundOf_50 : decode cX9_boundOf 50 = .ok (.iload 5, 2) := by decide +kernel
theorem dX9_boundOf_52 : decode cX9_boundOf 52 = .ok (.iadd, 1) := by decide +kernel
theorem dX9_boundOf_53 : decode cX9_boundOf 53 = .ok (.invokevirtual 203, 3) := by decide +kernel
theorem dX9_boundOf_56 : decode cX9_boundOf 56 = .ok (.invokestatic 227, 3) := by decide +kernel
theorem dX9_boundOf_59 : decode cX9_boundOf 59 = .ok (.ifCond .eq 24, 3) := by decide +kernel
theorem dX9_boundOf_62 : decode cX9_boundOf 62 = .ok (.iload 4, 2) := by decide +kernel
theorem dX9_boundOf_64 : decode cX9_boundOf 64 = .ok (.iconst (-1), 1) := by decide +kernel
theorem dX9_boundOf_65 : decode cX9_boundOf 65 = .ok (.if_icmp .eq 7, 3) := by decide +kernel
theorem dX9_boundOf_68 : decode cX9_boundOf 68 = .ok (.iload_n 2, 1) := by decide +kernel
theorem dX9_boundOf_69 : decode cX9_boundOf 69 = .ok (.ifCond .eq 14, 3) := by decide +kernel
theorem dX9_boundOf_72 : decode cX9_boundOf 72 = .ok (.aload_n 0, 1) := by decide +kernel
theorem dX9_boundOf_73 : decode cX9_boundOf 73 = .ok (.iload_n 1, 1) := by decide +kernel
theorem dX9_boundOf_74 : decode cX9_boundOf 74 = .ok (.iconst 2, 1) := by decide +kernel
theorem dX9_boundOf_75 : decode cX9_boundOf 75 = .ok (.invokevirtual 200, 3) := by decide +kernel
theorem dX9_boundOf_78 : decode cX9_boundOf 78 = .ok (.iload 5, 2) := by decide +kernel
theorem dX9_boundOf_80 : decode cX9_boundOf 80 = .ok (.iadd, 1) := by decide +kernel
theorem dX9_boundOf_81 : decode cX9_boundOf 81 = .ok (.istore 4, 2) := by decide +kernel
theorem dX9_boundOf_83 : decode cX9_boundOf 83 = .ok (.iinc 5 1, 3) := by decide +kernel
theorem dX9_boundOf_86 : decode cX9_boundOf 86 = .ok (.goto (-55), 3) := by decide +kernel
theorem dX9_boundOf_89 : decode cX9_boundOf 89 = .ok (.iload 4, 2) := by decide +kernel
theorem dX9_boundOf_91 : decode cX9_boundOf 91 = .ok (.ireturn, 1) := by decide +kernel
theorem dX9_bound_0 : decode cX9_bound 0 = .ok (.aload_n 0, 1) := by decide +kernel
theorem dX9_bound_1 : decode cX9_bound 1 = .ok (.iload_n 1, 1) := by decide +kernel
theorem dX9_bound_2 : decode cX9_bound 2 = .ok (.invokevirtual 194, 3) := by decide +kernel
theorem dX9_bound_5 : decode cX9_bound 5 = .ok (.istore_n 3, 1) := by decide +kernel
theorem dX9_bound_6 : decode cX9_bound 6 = .ok (.iload_n 3, 1) := by decide +kernel
theorem dX9_bound_7 : decode cX9_bound 7 = .ok (.ifCond .eq 12, 3) := by decide +kernel
theorem dX9_bound_10 : decode cX9_bound 10 = .ok (.aload_n 0, 1) := by decide +kernel
theorem dX9_bound_11 : decode cX9_bound 11 = .ok (.iload_n 1, 1) := by decide +kernel
theorem dX9_bound_12 : decode cX9_bound 12 = .ok (.iload_n 2, 1) := by decide +kernel
theorem dX9_bound_13 : decode cX9_bound 13 = .ok (.invokevirtual 273, 3) := by decide +kernel
theorem dX9_bound_16 : decode cX9_bound 16 = .ok (.goto 4, 3) := by decide +kernel
theorem dX9_bound_19 : decode cX9_bound 19 = .ok (.iconst (-1), 1) := by decide +kernel
theorem dX9_bound_20 : decode cX9_bound 20 = .ok (.istore 4, 2) := by decide +kernel
theorem dX9_bound_22 : decode cX9_bound 22 = .ok (.aload_n 0, 1) := by decide +kernel
theorem dX9_bound_23 : decode cX9_bound 23 = .ok (.iload_n 3, 1) := by decide +kernel
theorem dX9_bound_24 : decode cX9_bound 24 = .ok (.iload 4, 2) := by decide +kernel
theorem dX9_bound_26 : decode cX9_bound 26 = .ok (.iconst (-1), 1) := by decide +kernel
theorem dX9_bound_27 : decode cX9_bound 27 = .ok (.if_icmp .eq 7, 3) := by decide +kernel
theorem dX9_bound_30 : decode cX9_bound 30 = .ok (.iconst 1, 1) := by decide +kernel
theorem dX9_bound_31 : decode cX9_bound 31 = .ok (.goto 4, 3) := by decide +kernel
theorem dX9_bound_34 : decode cX9_bound 34 = .ok (.iconst 0, 1) := by decide +kernel
theorem dX9_bound_35 : decode cX9_bound 35 = .ok (.invokevirtual 197, 3) := by decide +kernel
theorem dX9_bound_38 : decode cX9_bound 38 = .ok (.ifCond .eq 8, 3) := by decide +kernel
theorem dX9_bound_41 : decode cX9_bound 41 = .ok (.iload 4, 2) := by decide +kernel
theorem dX9_bound_43 : decode cX9_bound 43 = .ok (.goto 4, 3) := by decide +kernel
theorem dX9_bound_46 : decode cX9_bound 46 = .ok (.iconst 0, 1) := by decide +kernel
theorem dX9_bound_47 : decode cX9_bound 47 = .ok (.ireturn, 1) := by decide +kernel
theorem dX9_laysTree_0 : decode cX9_laysTree 0 = .ok (.aload_n 0, 1) := by decide +kernel
theorem dX9_laysTree_1 : decode cX9_laysTree 1 = .ok (.iconst 0, 1) := by decide +kernel
theorem dX9_laysTree_2 : decode cX9_laysTree 2 = .ok (.putfield 277, 3) := by decide +kernel
theorem dX9_laysTree_5 : decode cX9_laysTree 5 = .ok (.iconst 0, 1) := by decide +kernel
theorem dX9_laysTree_6 : decode cX9_laysTree 6 = .ok (.istore_n 1, 1) := by decide +kernel
theorem dX9_laysTree_7 : decode cX9_laysTree 7 = .ok (.iload_n 1, 1) := by decide +kernel
theorem dX9_laysTree_8 : decode cX9_laysTree 8 = .ok (.bipush 6, 2) := by decide +kernel
theorem dX9_laysTree_10 : decode cX9_laysTree 10 = .ok (.if_icmp .ge 16, 3) := by decide +kernel
theorem dX9_laysTree_13 : decode cX9_laysTree 13 = .ok (.aload_n 0, 1) := by decide +kernel
theorem dX9_laysTree_14 : decode cX9_laysTree 14 = .ok (.getfield 33, 3) := by decide +kernel
theorem dX9_laysTree_17 : decode cX9_laysTree 17 = .ok (.iload_n 1, 1) := by decide +kernel
theorem dX9_laysTree_18 : decode cX9_laysTree 18 = .ok (.iload_n 1, 1) := by decide +kernel
theorem dX9_laysTree_19 : decode cX9_laysTree 19 = .ok (.iastore, 1) := by decide +kernel
theorem dX9_laysTree_20 : decode cX9_laysTree 20 = .ok (.iinc 1 1, 3) := by decide +kernel
theorem dX9_laysTree_23 : decode cX9_laysTree 23 = .ok (.goto (-16), 3) := by decide +kernel
theorem dX9_laysTree_26 : decode cX9_laysTree 26 = .ok (.iconst 0, 1) := by decide +kernel
theorem dX9_laysTree_27 : decode cX9_laysTree 27 = .ok (.istore_n 1, 1) := by decide +kernel
theorem dX9_laysTree_28 : decode cX9_laysTree 28 = .ok (.iload_n 1, 1) := by decide +kernel
theorem dX9_laysTree_29 : decode cX9_laysTree 29 = .ok (.aload_n 0, 1) := by decide +kernel
theorem dX9_laysTree_30 : decode cX9_laysTree 30 = .ok (.getfield 7, 3) := by decide +kernel
theorem dX9_laysTree_33 : decode cX9_laysTree 33 = .ok (.bipush 20, 2) := by decide +kernel
theorem dX9_laysTree_35 : decode cX9_laysTree 35 = .ok (.iaload, 1) := by decide +kernel
theorem dX9_laysTree_36 : decode cX9_laysTree 36 = .ok (.if_icmp .ge 119, 3) := by decide +kernel
theorem dX9_laysTree_39 : decode cX9_laysTree 39 = .ok (.aload_n 0, 1) := by decide +kernel
theorem dX9_laysTree_40 : decode cX9_laysTree 40 = .ok (.getfield 33, 3) := by decide +kernel
theorem dX9_laysTree_43 : decode cX9_laysTree 43 = .ok (.aload_n 0, 1) := by decide +kernel
theorem dX9_laysTree_44 : decode cX9_laysTree 44 = .ok (.iload_n 1, 1) := by decide +kernel
theorem dX9_laysTree_45 : decode cX9_laysTree 45 = .ok (.iconst 0, 1) := by decide +kernel
theorem dX9_laysTree_46 : decode cX9_laysTree 46 = .ok (.invokevirtual 200, 3) := by decide +kernel
theorem dX9_laysTree_49 : decode cX9_laysTree 49 = .ok (.iaload, 1) := by decide +kernel
theorem dX9_laysTree_50 : decode cX9_laysTree 50 = .ok (.istore_n 2, 1) := by decide +kernel
theorem dX9_laysTree_51 : decode cX9_laysTree 51 = .ok (.aload_n 0, 1) := by decide +kernel
theorem dX9_laysTree_52 : decode cX9_laysTree 52 = .ok (.getfield 33, 3) := by decide +kernel
theorem dX9_laysTree_55 : decode cX9_laysTree 55 = .ok (.aload_n 0, 1) := by decide +kernel
theorem dX9_laysTree_56 : decode cX9_laysTree 56 = .ok (.iload_n 1, 1) := by decide +kernel
theorem dX9_laysTree_57 : decode cX9_laysTree 57 = .ok (.iconst 1, 1) := by decide +kernel
theorem dX9_laysTree_58 : decode cX9_laysTree 58 = .ok (.invokevirtual 200, 3) := by decide +kernel
theorem dX9_laysTree_61 : decode cX9_laysTree 61 = .ok (.iaload, 1) := by decide +kernel
theorem dX9_laysTree_62 : decode cX9_laysTree 62 = .ok (.istore_n 3, 1) := by decide +kernel
theorem dX9_laysTree_63 : decode cX9_laysTree 63 = .ok (.aload_n 0, 1) := by decide +kernel
theorem dX9_laysTree_64 : decode cX9_laysTree 64 = .ok (.getfield 29, 3) := by decide +kernel
theorem dX9_laysTree_67 : decode cX9_laysTree 67 = .ok (.iload_n 1, 1) := by decide +kernel
theorem dX9_laysTree_68 : decode cX9_laysTree 68 = .ok (.iload_n 2, 1) := by decide +kernel
theorem dX9_laysTree_69 : decode cX9_laysTree 69 = .ok (.iload_n 3, 1) := by decide +kernel
theorem dX9_laysTree_70 : decode cX9_laysTree 70 = .ok (.if_icmp .eq 7, 3) := by decide +kernel
theorem dX9_laysTree_73 : decode cX9_laysTree 73 = .ok (.iconst 1, 1) := by decide +kernel
theorem dX9_laysTree_74 : decode cX9_laysTree 74 = .ok (.goto 4, 3) := by decide +kernel
theorem dX9_laysTree_77 : decode cX9_laysTree 77 = .ok (.iconst 0, 1) := by decide +kernel
theorem dX9_laysTree_78 : decode cX9_laysTree 78 = .ok (.bastore, 1) := by decide +kernel
theorem dX9_laysTree_79 : decode cX9_laysTree 79 = .ok (.iload_n 2, 1) := by decide +kernel
theorem dX9_laysTree_80 : decode cX9_laysTree 80 = .ok (.iload_n 3, 1) := by decide +kernel
theorem dX9_laysTree_81 : decode cX9_laysTree 81 = .ok (.if_icmp .ne 23, 3) := by decide +kernel
theorem dX9_laysTree_84 : decode cX9_laysTree 84 = .ok (.aload_n 0, 1) := by decide +kernel
theorem dX9_laysTree_85 : decode cX9_laysTree 85 = .ok (.getfield 36, 3) := by decide +kernel
theorem dX9_laysTree_88 : decode cX9_laysTree 88 = .ok (.aload_n 0, 1) := by decide +kernel
theorem dX9_laysTree_89 : decode cX9_laysTree 89 = .ok (.getfield 277, 3) := by decide +kernel
theorem dX9_laysTree_92 : decode cX9_laysTree 92 = .ok (.iload_n 1, 1) := by decide +kernel
theorem dX9_laysTree_93 : decode cX9_laysTree 93 = .ok (.iastore, 1) := by decide +kernel
theorem dX9_laysTree_94 : decode cX9_laysTree 94 = .ok (.aload_n 0, 1) := by decide +kernel
theorem dX9_laysTree_95 : decode cX9_laysTree 95 = .ok (.dup, 1) := by decide +kernel
theorem dX9_laysTree_96 : decode cX9_laysTree 96 = .ok (.getfield 277, 3) := by decide +kernel
theorem dX9_laysTree_99 : decode cX9_laysTree 99 = .ok (.iconst 1, 1) := by decide +kernel
theorem dX9_laysTree_100 : decode cX9_laysTree 100 = .ok (.iadd, 1) := by decide +kernel
theorem dX9_laysTree_101 : decode cX9_laysTree 101 = .ok (.putfield 277, 3) := by decide +kernel
theorem dX9_laysTree_104 : decode cX9_laysTree 104 = .ok (.iconst 0, 1) := by decide +kernel
theorem dX9_laysTree_105 : decode cX9_laysTree 105 = .ok (.istore 4, 2) := by decide +kernel
theorem dX9_laysTree_107 : decode cX9_laysTree 107 = .ok (.iload 4, 2) := by decide +kernel
theorem dX9_laysTree_109 : decode cX9_laysTree 109 = .ok (.bipush 6, 2) := by decide +kernel
theorem dX9_laysTree_111 : decode cX9_laysTree 111 = .ok (.if_icmp .ge 38, 3) := by decide +kernel
theorem dX9_laysTree_114 : decode cX9_laysTree 114 = .ok (.aload_n 0, 1) := by decide +kernel
theorem dX9_laysTree_115 : decode cX9_laysTree 115 = .ok (.getfield 33, 3) := by decide +kernel
theorem dX9_laysTree_118 : decode cX9_laysTree 118 = .ok (.iload 4, 2) := by decide +kernel
theorem dX9_laysTree_120 : decode cX9_laysTree 120 = .ok (.aload_n 0, 1) := by decide +kernel
theorem dX9_laysTree_121 : decode cX9_laysTree 121 = .ok (.getfield 33, 3) := by decide +kernel
theorem dX9_laysTree_124 : decode cX9_laysTree 124 = .ok (.iload 4, 2) := by decide +kernel
theorem dX9_laysTree_126 : decode cX9_laysTree 126 = .ok (.iaload, 1) := by decide +kernel
theorem dX9_laysTree_127 : decode cX9_laysTree 127 = .ok (.iload_n 3, 1) := by decide +kernel
theorem dX9_laysTree_128 : decode cX9_laysTree 128 = .ok (.if_icmp .ne 7, 3) := by decide +kernel
theorem dX9_laysTree_131 : decode cX9_laysTree 131 = .ok (.iload_n 2, 1) := by decide +kernel
theorem dX9_laysTree_132 : decode cX9_laysTree 132 = .ok (.goto 10, 3) := by decide +kernel
theorem dX9_laysTree_135 : decode cX9_laysTree 135 = .ok (.aload_n 0, 1) := by decide +kernel
theorem dX9_laysTree_136 : decode cX9_laysTree 136 = .ok (.getfield 33, 3) := by decide +kernel
theorem dX9_laysTree_139 : decode cX9_laysTree 139 = .ok (.iload 4, 2) := by decide +kernel
theorem dX9_laysTree_141 : decode cX9_laysTree 141 = .ok (.iaload, 1) := by decide +kernel
theorem dX9_laysTree_142 : decode cX9_laysTree 142 = .ok (.iastore, 1) := by decide +kernel
theorem dX9_laysTree_143 : decode cX9_laysTree 143 = .ok (.iinc 4 1, 3) := by decide +kernel
theorem dX9_laysTree_146 : decode cX9_laysTree 146 = .ok (.goto (-39), 3) := by decide +kernel
theorem dX9_laysTree_149 : decode cX9_laysTree 149 = .ok (.iinc 1 1, 3) := by decide +kernel
theorem dX9_laysTree_152 : decode cX9_laysTree 152 = .ok (.goto (-124), 3) := by decide +kernel
theorem dX9_laysTree_155 : decode cX9_laysTree 155 = .ok (.return_, 1) := by decide +kernel
theorem dX9_goes_0 : decode cX9_goes 0 = .ok (.aload_n 0, 1) := by decide +kernel
theorem dX9_goes_1 : decode cX9_goes 1 = .ok (.getfield 39, 3) := by decide +kernel
theorem dX9_goes_4 : decode cX9_goes 4 = .ok (.aload_n 0, 1) := by decide +kernel
theorem dX9_goes_5 : decode cX9_goes 5 = .ok (.getfield 280, 3) := by decide +kernel
theorem dX9_goes_8 : decode cX9_goes 8 = .ok (.iload_n 1, 1) := by decide +kernel
theorem dX9_goes_9 : decode cX9_goes 9 = .ok (.iastore, 1) := by decide +kernel
theorem dX9_goes_10 : decode cX9_goes 10 = .ok (.aload_n 0, 1) := by decide +kernel
theorem dX9_goes_11 : decode cX9_goes 11 = .ok (.getfield 42, 3) := by decide +kernel
theorem dX9_goes_14 : decode cX9_goes 14 = .ok (.aload_n 0, 1) := by decide +kernel
theorem dX9_goes_15 : decode cX9_goes 15 = .ok (.getfield 280, 3) := by decide +kernel
theorem dX9_goes_18 : decode cX9_goes 18 = .ok (.iload_n 2, 1) := by decide +kernel
theorem dX9_goes_19 : decode cX9_goes 19 = .ok (.bastore, 1) := by decide +kernel
theorem dX9_goes_20 : decode cX9_goes 20 = .ok (.aload_n 0, 1) := by decide +kernel
theorem dX9_goes_21 : decode cX9_goes 21 = .ok (.dup, 1) := by decide +kernel
theorem dX9_goes_22 : decode cX9_goes 22 = .ok (.getfield 280, 3) := by decide +kernel
theorem dX9_goes_25 : decode cX9_goes 25 = .ok (.iconst 1, 1) := by decide +kernel
theorem dX9_goes_26 : decode cX9_goes 26 = .ok (.iadd, 1) := by decide +kernel
theorem dX9_goes_27 : decode cX9_goes 27 = .ok (.putfield 280, 3) := by decide +kernel
theorem dX9_goes_30 : decode cX9_goes 30 = .ok (.return_, 1) := by decide +kernel
theorem dX9_leads_0 : decode cX9_leads 0 = .ok (.iload_n 1, 1) := by decide +kernel
theorem dX9_leads_1 : decode cX9_leads 1 = .ok (.iload_n 2, 1) := by decide +kernel
theorem dX9_leads_2 : decode cX9_leads 2 = .ok (.if_icmp .ne 5, 3) := by decide +kernel
theorem dX9_leads_5 : decode cX9_leads 5 = .ok (.iconst 1, 1) := by decide +kernel
theorem dX9_leads_6 : decode cX9_leads 6 = .ok (.ireturn, 1) := by decide +kernel
theorem dX9_leads_7 : decode cX9_leads 7 = .ok (.aload_n 0, 1) := by decide +kernel
theorem dX9_leads_8 : decode cX9_leads 8 = .ok (.getfield 280, 3) := by decide +kernel
theorem dX9_leads_11 : decode cX9_leads 11 = .ok (.istore 4, 2) := by decide +kernel
theorem dX9_leads_13 : decode cX9_leads 13 = .ok (.iconst 0, 1) := by decide +kernel
theorem dX9_leads_14 : decode cX9_leads 14 = .ok (.istore 5, 2) := by decide +kernel
theorem dX9_leads_16 : decode cX9_leads 16 = .ok (.iload 5, 2) := by decide +kernel
theorem dX9_leads_18 : decode cX9_leads 18 = .ok (.aload_n 0, 1) := by decide +kernel
theorem dX9_leads_19 : decode cX9_leads 19 = .ok (.getfield 7, 3) := by decide +kernel
theorem dX9_leads_22 : decode cX9_leads 22 = .ok (.bipush 20, 2) := by decide +kernel
theorem dX9_leads_24 : decode cX9_leads 24 = .ok (.iaload, 1) := by decide +kernel
theorem dX9_leads_25 : decode cX9_leads 25 = .ok (.if_icmp .ge 104, 3) := by decide +kernel
theorem dX9_leads_28 : decode cX9_leads 28 = .ok (.aload_n 0, 1) := by decide +kernel
theorem dX9_leads_29 : decode cX9_leads 29 = .ok (.iload 5, 2) := by decide +kernel
theorem dX9_leads_31 : decode cX9_leads 31 = .ok (.iconst 0, 1) := by decide +kernel
theorem dX9_leads_32 : decode cX9_leads 32 = .ok (.invokevirtual 200, 3) := by decide +kernel
theorem dX9_leads_35 : decode cX9_leads 35 = .ok (.iload_n 1, 1) := by decide +kernel
theorem dX9_leads_36 : decode cX9_leads 36 = .ok (.if_icmp .ne 7, 3) := by decide +kernel
theorem dX9_leads_39 : decode cX9_leads 39 = .ok (.iconst 1, 1) := by decide +kernel
theorem dX9_leads_40 : decode cX9_leads 40 = .ok (.goto 4, 3) := by decide +kernel
theorem dX9_leads_43 : decode cX9_leads 43 = .ok (.iconst 0, 1) := by decide +kernel
theorem dX9_leads_44 : decode cX9_leads 44 = .ok (.istore 6, 2) := by decide +kernel
theorem dX9_leads_46 : decode cX9_leads 46 = .ok (.aload_n 0, 1) := by decide +kernel
theorem dX9_leads_47 : decode cX9_leads 47 = .ok (.getfield 29, 3) := by decide +kernel
theorem dX9_leads_50 : decode cX9_leads 50 = .ok (.iload 5, 2) := by decide +kernel
theorem dX9_leads_52 : decode cX9_leads 52 = .ok (.baload, 1) := by decide +kernel
theorem dX9_leads_53 : decode cX9_leads 53 = .ok (.ifCond .eq 70, 3) := by decide +kernel
theorem dX9_leads_56 : decode cX9_leads 56 = .ok (.iload 5, 2) := by decide +kernel
theorem dX9_leads_58 : decode cX9_leads 58 = .ok (.iload_n 3, 1) := by decide +kernel
theorem dX9_leads_59 : decode cX9_leads 59 = .ok (.if_icmp .eq 64, 3) := by decide +kernel
theorem dX9_leads_62 : decode cX9_leads 62 = .ok (.iload 6, 2) := by decide +kernel
theorem dX9_leads_64 : decode cX9_leads 64 = .ok (.ifCond .ne 17, 3) := by decide +kernel
theorem dX9_leads_67 : decode cX9_leads 67 = .ok (.aload_n 0, 1) := by decide +kernel
theorem dX9_leads_68 : decode cX9_leads 68 = .ok (.iload 5, 2) := by decide +kernel
theorem dX9_leads_70 : decode cX9_leads 70 = .ok (.iconst 1, 1) := by decide +kernel
theorem dX9_leads_71 : decode cX9_leads 71 = .ok (.invokevirtual 200, 3) := by decide +kernel
theorem dX9_leads_74 : decode cX9_leads 74 = .ok (.iload_n 1, 1) := by decide +kernel
theorem dX9_leads_75 : decode cX9_leads 75 = .ok (.if_icmp .eq 6, 3) := by decide +kernel
theorem dX9_leads_78 : decode cX9_leads 78 = .ok (.goto 45, 3) := by decide +kernel
theorem dX9_leads_81 : decode cX9_leads 81 = .ok (.aload_n 0, 1) := by decide +kernel
theorem dX9_leads_82 : decode cX9_leads 82 = .ok (.iload 5, 2) := by decide +kernel
theorem dX9_leads_84 : decode cX9_leads 84 = .ok (.iload 6, 2) := by decide +kernel
theorem dX9_leads_86 : decode cX9_leads 86 = .ok (.invokevirtual 283, 3) := by decide +kernel
theorem dX9_leads_89 : decode cX9_leads 89 = .ok (.aload_n 0, 1) := by decide +kernel
theorem dX9_leads_90 : decode cX9_leads 90 = .ok (.aload_n 0, 1) := by decide +kernel
theorem dX9_leads_91 : decode cX9_leads 91 = .ok (.iload 5, 2) := by decide +kernel
theorem dX9_leads_93 : decode cX9_leads 93 = .ok (.iload 6, 2) := by decide +kernel
theorem dX9_leads_95 : decode cX9_leads 95 = .ok (.ifCond .eq 7, 3) := by decide +kernel
theorem dX9_leads_98 : decode cX9_leads 98 = .ok (.iconst 1, 1) := by decide +kernel
theorem dX9_leads_99 : decode cX9_leads 99 = .ok (.goto 4, 3) := by decide +kernel
theorem dX9_leads_102 : decode cX9_leads 102 = .ok (.iconst 0, 1) := by decide +kernel
theorem dX9_leads_103 : decode cX9_leads 103 = .ok (.invokevirtual 200, 3) := by decide +kernel
theorem dX9_leads_106 : decode cX9_leads 106 = .ok (.iload_n 2, 1) := by decide +kernel
theorem dX9_leads_107 : decode cX9_leads 107 = .ok (.iload 5, 2) := by decide +kernel
theorem dX9_leads_109 : decode cX9_leads 109 = .ok (.invokevirtual 287, 3) := by decide +kernel
theorem dX9_leads_112 : decode cX9_leads 112 = .ok (.ifCond .eq 5, 3) := by decide +kernel
theorem dX9_leads_115 : decode cX9_leads 115 = .ok (.iconst 1, 1) := by decide +kernel
theorem dX9_leads_116 : decode cX9_leads 116 = .ok (.ireturn, 1) := by decide +kernel
theorem dX9_leads_117 : decode cX9_leads 117 = .ok (.aload_n 0, 1) := by decide +kernel
theorem dX9_leads_118 : decode cX9_leads 118 = .ok (.iload 4, 2) := by decide +kernel
theorem dX9_leads_120 : decode cX9_leads 120 = .ok (.putfield 280, 3) := by decide +kernel
theorem dX9_leads_123 : decode cX9_leads 123 = .ok (.iinc 5 1, 3) := by decide +kernel
theorem dX9_leads_126 : decode cX9_leads 126 = .ok (.goto (-110), 3) := by decide +kernel
theorem dX9_leads_129 : decode cX9_leads 129 = .ok (.iconst 0, 1) := by decide +kernel
theorem dX9_leads_130 : decode cX9_leads 130 = .ok (.ireturn, 1) := by decide +kernel
theorem dX9_isCycle_0 : decode cX9_isCycle 0 = .ok (.aload_n 0, 1) := by decide +kernel
theorem dX9_isCycle_1 : decode cX9_isCycle 1 = .ok (.invokevirtual 290, 3) := by decide +kernel
theorem dX9_isCycle_4 : decode cX9_isCycle 4 = .ok (.iload_n 1, 1) := by decide +kernel
theorem dX9_isCycle_5 : decode cX9_isCycle 5 = .ok (.iconst 0, 1) := by decide +kernel
theorem dX9_isCycle_6 : decode cX9_isCycle 6 = .ok (.aload_n 0, 1) := by decide +kernel
theorem dX9_isCycle_7 : decode cX9_isCycle 7 = .ok (.getfield 277, 3) := by decide +kernel
theorem dX9_isCycle_10 : decode cX9_isCycle 10 = .ok (.iconst 1, 1) := by decide +kernel
theorem dX9_isCycle_11 : decode cX9_isCycle 11 = .ok (.isub, 1) := by decide +kernel
theorem dX9_isCycle_12 : decode cX9_isCycle 12 = .ok (.invokestatic 121, 3) := by decide +kernel
theorem dX9_isCycle_15 : decode cX9_isCycle 15 = .ok (.ireturn, 1) := by decide +kernel
theorem dX9_laysCycle_0 : decode cX9_laysCycle 0 = .ok (.aload_n 0, 1) := by decide +kernel
theorem dX9_laysCycle_1 : decode cX9_laysCycle 1 = .ok (.iconst 0, 1) := by decide +kernel
theorem dX9_laysCycle_2 : decode cX9_laysCycle 2 = .ok (.putfield 280, 3) := by decide +kernel
theorem dX9_laysCycle_5 : decode cX9_laysCycle 5 = .ok (.aload_n 0, 1) := by decide +kernel
theorem dX9_laysCycle_6 : decode cX9_laysCycle 6 = .ok (.aload_n 0, 1) := by decide +kernel
theorem dX9_laysCycle_7 : decode cX9_laysCycle 7 = .ok (.getfield 36, 3) := by decide +kernel
theorem dX9_laysCycle_10 : decode cX9_laysCycle 10 = .ok (.iload_n 1, 1) := by decide +kernel
theorem dX9_laysCycle_11 : decode cX9_laysCycle 11 = .ok (.iaload, 1) := by decide +kernel
theorem dX9_laysCycle_12 : decode cX9_laysCycle 12 = .ok (.iconst 1, 1) := by decide +kernel
theorem dX9_laysCycle_13 : decode cX9_laysCycle 13 = .ok (.invokevirtual 283, 3) := by decide +kernel
theorem dX9_laysCycle_16 : decode cX9_laysCycle 16 = .ok (.aload_n 0, 1) := by decide +kernel
theorem dX9_laysCycle_17 : decode cX9_laysCycle 17 = .ok (.aload_n 0, 1) := by decide +kernel
theorem dX9_laysCycle_18 : decode cX9_laysCycle 18 = .ok (.aload_n 0, 1) := by decide +kernel
theorem dX9_laysCycle_19 : decode cX9_laysCycle 19 = .ok (.getfield 36, 3) := by decide +kernel
theorem dX9_laysCycle_22 : decode cX9_laysCycle 22 = .ok (.iload_n 1, 1) := by decide +kernel
theorem dX9_laysCycle_23 : decode cX9_laysCycle 23 = .ok (.iaload, 1) := by decide +kernel
theorem dX9_laysCycle_24 : decode cX9_laysCycle 24 = .ok (.iconst 1, 1) := by decide +kernel
theorem dX9_laysCycle_25 : decode cX9_laysCycle 25 = .ok (.invokevirtual 200, 3) := by decide +kernel
theorem dX9_laysCycle_28 : decode cX9_laysCycle 28 = .ok (.aload_n 0, 1) := by decide +kernel
theorem dX9_laysCycle_29 : decode cX9_laysCycle 29 = .ok (.aload_n 0, 1) := by decide +kernel
theorem dX9_laysCycle_30 : decode cX9_laysCycle 30 = .ok (.getfield 36, 3) := by decide +kernel
theorem dX9_laysCycle_33 : decode cX9_laysCycle 33 = .ok (.iload_n 1, 1) := by decide +kernel
theorem dX9_laysCycle_34 : decode cX9_laysCycle 34 = .ok (.iaload, 1) := by decide +kernel
theorem dX9_laysCycle_35 : decode cX9_laysCycle 35 = .ok (.iconst 0, 1) := by decide +kernel
theorem dX9_laysCycle_36 : decode cX9_laysCycle 36 = .ok (.invokevirtual 200, 3) := by decide +kernel
theorem dX9_laysCycle_39 : decode cX9_laysCycle 39 = .ok (.iconst (-1), 1) := by decide +kernel
theorem dX9_laysCycle_40 : decode cX9_laysCycle 40 = .ok (.invokevirtual 287, 3) := by decide +kernel
theorem dX9_laysCycle_43 : decode cX9_laysCycle 43 = .ok (.ireturn, 1) := by decide +kernel
theorem dX9_cycles_0 : decode cX9_cycles 0 = .ok (.aload_n 0, 1) := by decide +kernel
theorem dX9_cycles_1 : decode cX9_cycles 1 = .ok (.iconst 0, 1) := by decide +kernel
theorem dX9_cycles_2 : decode cX9_cycles 2 = .ok (.putfield 54, 3) := by decide +kernel
theorem dX9_cycles_5 : decode cX9_cycles 5 = .ok (.aload_n 0, 1) := by decide +kernel
theorem dX9_cycles_6 : decode cX9_cycles 6 = .ok (.invokevirtual 290, 3) := by decide +kernel
theorem dX9_cycles_9 : decode cX9_cycles 9 = .ok (.aload_n 0, 1) := by decide +kernel
theorem dX9_cycles_10 : decode cX9_cycles 10 = .ok (.getfield 277, 3) := by decide +kernel
theorem dX9_cycles_13 : decode cX9_cycles 13 = .ok (.ireturn, 1) := by decide +kernel
theorem dX9_isStep_0 : decode cX9_isStep 0 = .ok (.aload_n 0, 1) := by decide +kernel
theorem dX9_isStep_1 : decode cX9_isStep 1 = .ok (.iload_n 1, 1) := by decide +kernel
theorem dX9_isStep_2 : decode cX9_isStep 2 = .ok (.invokevirtual 293, 3) := by decide +kernel
theorem dX9_isStep_5 : decode cX9_isStep 5 = .ok (.ifCond .eq 29, 3) := by decide +kernel
theorem dX9_isStep_8 : decode cX9_isStep 8 = .ok (.aload_n 0, 1) := by decide +kernel
theorem dX9_isStep_9 : decode cX9_isStep 9 = .ok (.iload_n 1, 1) := by decide +kernel
theorem dX9_isStep_10 : decode cX9_isStep 10 = .ok (.invokevirtual 296, 3) := by decide +kernel
theorem dX9_isStep_13 : decode cX9_isStep 13 = .ok (.ifCond .eq 21, 3) := by decide +kernel
theorem dX9_isStep_16 : decode cX9_isStep 16 = .ok (.iload_n 2, 1) := by decide +kernel
theorem dX9_isStep_17 : decode cX9_isStep 17 = .ok (.iconst 0, 1) := by decide +kernel
theorem dX9_isStep_18 : decode cX9_isStep 18 = .ok (.aload_n 0, 1) := by decide +kernel
theorem dX9_isStep_19 : decode cX9_isStep 19 = .ok (.getfield 280, 3) := by decide +kernel
theorem dX9_isStep_22 : decode cX9_isStep 22 = .ok (.iconst 1, 1) := by decide +kernel
theorem dX9_isStep_23 : decode cX9_isStep 23 = .ok (.isub, 1) := by decide +kernel
theorem dX9_isStep_24 : decode cX9_isStep 24 = .ok (.invokestatic 121, 3) := by decide +kernel
theorem dX9_isStep_27 : decode cX9_isStep 27 = .ok (.ifCond .eq 7, 3) := by decide +kernel
theorem dX9_isStep_30 : decode cX9_isStep 30 = .ok (.iconst 1, 1) := by decide +kernel
theorem dX9_isStep_31 : decode cX9_isStep 31 = .ok (.goto 4, 3) := by decide +kernel
theorem dX9_isStep_34 : decode cX9_isStep 34 = .ok (.iconst 0, 1) := by decide +kernel
theorem dX9_isStep_35 : decode cX9_isStep 35 = .ok (.ireturn, 1) := by decide +kernel
theorem dX9_cycleLength_0 : decode cX9_cycleLength 0 = .ok (.aload_n 0, 1) := by decide +kernel
theorem dX9_cycleLength_1 : decode cX9_cycleLength 1 = .ok (.aload_n 0, 1) := by decide +kernel
theorem dX9_cycleLength_2 : decode cX9_cycleLength 2 = .ok (.iload_n 1, 1) := by decide +kernel
theorem dX9_cycleLength_3 : decode cX9_cycleLength 3 = .ok (.invokevirtual 293, 3) := by decide +kernel
theorem dX9_cycleLength_6 : decode cX9_cycleLength 6 = .ok (.ifCond .eq 15, 3) := by decide +kernel
theorem dX9_cycleLength_9 : decode cX9_cycleLength 9 = .ok (.aload_n 0, 1) := by decide +kernel
theorem dX9_cycleLength_10 : decode cX9_cycleLength 10 = .ok (.iload_n 1, 1) := by decide +kernel
theorem dX9_cycleLength_11 : decode cX9_cycleLength 11 = .ok (.invokevirtual 296, 3) := by decide +kernel
theorem dX9_cycleLength_14 : decode cX9_cycleLength 14 = .ok (.ifCond .eq 7, 3) := by decide +kernel
theorem dX9_cycleLength_17 : decode cX9_cycleLength 17 = .ok (.iconst 1, 1) := by decide +kernel
theorem dX9_cycleLength_18 : decode cX9_cycleLength 18 = .ok (.goto 4, 3) := by decide +kernel
theorem dX9_cycleLength_21 : decode cX9_cycleLength 21 = .ok (.iconst 0, 1) := by decide +kernel
theorem dX9_cycleLength_22 : decode cX9_cycleLength 22 = .ok (.invokevirtual 176, 3) := by decide +kernel
theorem dX9_cycleLength_25 : decode cX9_cycleLength 25 = .ok (.ifCond .eq 10, 3) := by decide +kernel
theorem dX9_cycleLength_28 : decode cX9_cycleLength 28 = .ok (.aload_n 0, 1) := by decide +kernel
theorem dX9_cycleLength_29 : decode cX9_cycleLength 29 = .ok (.getfield 280, 3) := by decide +kernel
theorem dX9_cycleLength_32 : decode cX9_cycleLength 32 = .ok (.goto 4, 3) := by decide +kernel
theorem dX9_cycleLength_35 : decode cX9_cycleLength 35 = .ok (.iconst 0, 1) := by decide +kernel
theorem dX9_cycleLength_36 : decode cX9_cycleLength 36 = .ok (.ireturn, 1) := by decide +kernel
theorem dX9_cycleSpan_0 : decode cX9_cycleSpan 0 = .ok (.aload_n 0, 1) := by decide +kernel
theorem dX9_cycleSpan_1 : decode cX9_cycleSpan 1 = .ok (.aload_n 0, 1) := by decide +kernel
theorem dX9_cycleSpan_2 : decode cX9_cycleSpan 2 = .ok (.iload_n 1, 1) := by decide +kernel
theorem dX9_cycleSpan_3 : decode cX9_cycleSpan 3 = .ok (.iload_n 2, 1) := by decide +kernel
theorem dX9_cycleSpan_4 : decode cX9_cycleSpan 4 = .ok (.invokevirtual 299, 3) := by decide +kernel
theorem dX9_cycleSpan_7 : decode cX9_cycleSpan 7 = .ok (.invokevirtual 176, 3) := by decide +kernel
theorem dX9_cycleSpan_10 : decode cX9_cycleSpan 10 = .ok (.ifCond .eq 12, 3) := by decide +kernel
theorem dX9_cycleSpan_13 : decode cX9_cycleSpan 13 = .ok (.aload_n 0, 1) := by decide +kernel
theorem dX9_cycleSpan_14 : decode cX9_cycleSpan 14 = .ok (.getfield 39, 3) := by decide +kernel
theorem dX9_cycleSpan_17 : decode cX9_cycleSpan 17 = .ok (.iload_n 2, 1) := by decide +kernel
theorem dX9_cycleSpan_18 : decode cX9_cycleSpan 18 = .ok (.iaload, 1) := by decide +kernel
theorem dX9_cycleSpan_19 : decode cX9_cycleSpan 19 = .ok (.goto 4, 3) := by decide +kernel
theorem dX9_cycleSpan_22 : decode cX9_cycleSpan 22 = .ok (.iconst 0, 1) := by decide +kernel
theorem dX9_cycleSpan_23 : decode cX9_cycleSpan 23 = .ok (.ireturn, 1) := by decide +kernel
theorem dX9_isForward_0 : decode cX9_isForward 0 = .ok (.aload_n 0, 1) := by decide +kernel
theorem dX9_isForward_1 : decode cX9_isForward 1 = .ok (.aload_n 0, 1) := by decide +kernel
theorem dX9_isForward_2 : decode cX9_isForward 2 = .ok (.iload_n 1, 1) := by decide +kernel
theorem dX9_isForward_3 : decode cX9_isForward 3 = .ok (.iload_n 2, 1) := by decide +kernel
theorem dX9_isForward_4 : decode cX9_isForward 4 = .ok (.invokevirtual 299, 3) := by decide +kernel
theorem dX9_isForward_7 : decode cX9_isForward 7 = .ok (.invokevirtual 176, 3) := by decide +kernel
theorem dX9_isForward_10 : decode cX9_isForward 10 = .ok (.ifCond .eq 16, 3) := by decide +kernel
theorem dX9_isForward_13 : decode cX9_isForward 13 = .ok (.aload_n 0, 1) := by decide +kernel
theorem dX9_isForward_14 : decode cX9_isForward 14 = .ok (.getfield 42, 3) := by decide +kernel
theorem dX9_isForward_17 : decode cX9_isForward 17 = .ok (.iload_n 2, 1) := by decide +kernel
theorem dX9_isForward_18 : decode cX9_isForward 18 = .ok (.baload, 1) := by decide +kernel
theorem dX9_isForward_19 : decode cX9_isForward 19 = .ok (.ifCond .eq 7, 3) := by decide +kernel
theorem dX9_isForward_22 : decode cX9_isForward 22 = .ok (.iconst 1, 1) := by decide +kernel
theorem dX9_isForward_23 : decode cX9_isForward 23 = .ok (.goto 4, 3) := by decide +kernel
theorem dX9_isForward_26 : decode cX9_isForward 26 = .ok (.iconst 0, 1) := by decide +kernel
theorem dX9_isForward_27 : decode cX9_isForward 27 = .ok (.ireturn, 1) := by decide +kernel
theorem dX9_sumOf_0 : decode cX9_sumOf 0 = .ok (.iconst 0, 1) := by decide +kernel
theorem dX9_sumOf_1 : decode cX9_sumOf 1 = .ok (.istore_n 3, 1) := by decide +kernel
theorem dX9_sumOf_2 : decode cX9_sumOf 2 = .ok (.iconst 0, 1) := by decide +kernel
theorem dX9_sumOf_3 : decode cX9_sumOf 3 = .ok (.istore 4, 2) := by decide +kernel
theorem dX9_sumOf_5 : decode cX9_sumOf 5 = .ok (.iload 4, 2) := by decide +kernel
theorem dX9_sumOf_7 : decode cX9_sumOf 7 = .ok (.aload_n 0, 1) := by decide +kernel
theorem dX9_sumOf_8 : decode cX9_sumOf 8 = .ok (.getfield 280, 3) := by decide +kernel
theorem dX9_sumOf_11 : decode cX9_sumOf 11 = .ok (.if_icmp .ge 50, 3) := by decide +kernel
theorem dX9_sumOf_14 : decode cX9_sumOf 14 = .ok (.iload_n 3, 1) := by decide +kernel
theorem dX9_sumOf_15 : decode cX9_sumOf 15 = .ok (.aload_n 0, 1) := by decide +kernel
theorem dX9_sumOf_16 : decode cX9_sumOf 16 = .ok (.getfield 42, 3) := by decide +kernel
theorem dX9_sumOf_19 : decode cX9_sumOf 19 = .ok (.iload 4, 2) := by decide +kernel
theorem dX9_sumOf_21 : decode cX9_sumOf 21 = .ok (.baload, 1) := by decide +kernel
theorem dX9_sumOf_22 : decode cX9_sumOf 22 = .ok (.ifCond .eq 18, 3) := by decide +kernel
theorem dX9_sumOf_25 : decode cX9_sumOf 25 = .ok (.aload_n 0, 1) := by decide +kernel
theorem dX9_sumOf_26 : decode cX9_sumOf 26 = .ok (.aload_n 0, 1) := by decide +kernel
theorem dX9_sumOf_27 : decode cX9_sumOf 27 = .ok (.getfield 39, 3) := by decide +kernel
theorem dX9_sumOf_30 : decode cX9_sumOf 30 = .ok (.iload 4, 2) := by decide +kernel
theorem dX9_sumOf_32 : decode cX9_sumOf 32 = .ok (.iaload, 1) := by decide +kernel
theorem dX9_sumOf_33 : decode cX9_sumOf 33 = .ok (.iload_n 1, 1) := by decide +kernel
theorem dX9_sumOf_34 : decode cX9_sumOf 34 = .ok (.invokevirtual 200, 3) := by decide +kernel
theorem dX9_sumOf_37 : decode cX9_sumOf 37 = .ok (.goto 16, 3) := by decide +kernel
theorem dX9_sumOf_40 : decode cX9_sumOf 40 = .ok (.aload_n 0, 1) := by decide +kernel
theorem dX9_sumOf_41 : decode cX9_sumOf 41 = .ok (.aload_n 0, 1) := by decide +kernel
theorem dX9_sumOf_42 : decode cX9_sumOf 42 = .ok (.getfield 39, 3) := by decide +kernel
theorem dX9_sumOf_45 : decode cX9_sumOf 45 = .ok (.iload 4, 2) := by decide +kernel
theorem dX9_sumOf_47 : decode cX9_sumOf 47 = .ok (.iaload, 1) := by decide +kernel
theorem dX9_sumOf_48 : decode cX9_sumOf 48 = .ok (.iload_n 2, 1) := by decide +kernel
theorem dX9_sumOf_49 : decode cX9_sumOf 49 = .ok (.invokevirtual 200, 3) := by decide +kernel
theorem dX9_sumOf_52 : decode cX9_sumOf 52 = .ok (.ineg, 1) := by decide +kernel
theorem dX9_sumOf_53 : decode cX9_sumOf 53 = .ok (.iadd, 1) := by decide +kernel
theorem dX9_sumOf_54 : decode cX9_sumOf 54 = .ok (.istore_n 3, 1) := by decide +kernel
theorem dX9_sumOf_55 : decode cX9_sumOf 55 = .ok (.iinc 4 1, 3) := by decide +kernel
theorem dX9_sumOf_58 : decode cX9_sumOf 58 = .ok (.goto (-53), 3) := by decide +kernel
theorem dX9_sumOf_61 : decode cX9_sumOf 61 = .ok (.iload_n 3, 1) := by decide +kernel
theorem dX9_sumOf_62 : decode cX9_sumOf 62 = .ok (.ireturn, 1) := by decide +kernel
theorem dX9_turnsNow_0 : decode cX9_turnsNow 0 = .ok (.iconst 0, 1) := by decide +kernel
theorem dX9_turnsNow_1 : decode cX9_turnsNow 1 = .ok (.istore_n 1, 1) := by decide +kernel
theorem dX9_turnsNow_2 : decode cX9_turnsNow 2 = .ok (.iconst 0, 1) := by decide +kernel
theorem dX9_turnsNow_3 : decode cX9_turnsNow 3 = .ok (.istore_n 2, 1) := by decide +kernel
theorem dX9_turnsNow_4 : decode cX9_turnsNow 4 = .ok (.iload_n 2, 1) := by decide +kernel
theorem dX9_turnsNow_5 : decode cX9_turnsNow 5 = .ok (.aload_n 0, 1) := by decide +kernel
theorem dX9_turnsNow_6 : decode cX9_turnsNow 6 = .ok (.getfield 280, 3) := by decide +kernel
theorem dX9_turnsNow_9 : decode cX9_turnsNow 9 = .ok (.if_icmp .ge 45, 3) := by decide +kernel
theorem dX9_turnsNow_12 : decode cX9_turnsNow 12 = .ok (.iload_n 1, 1) := by decide +kernel
theorem dX9_turnsNow_13 : decode cX9_turnsNow 13 = .ok (.aload_n 0, 1) := by decide +kernel
theorem dX9_turnsNow_14 : decode cX9_turnsNow 14 = .ok (.getfield 42, 3) := by decide +kernel
theorem dX9_turnsNow_17 : decode cX9_turnsNow 17 = .ok (.iload_n 2, 1) := by decide +kernel
theorem dX9_turnsNow_18 : decode cX9_turnsNow 18 = .ok (.baload, 1) := by decide +kernel
theorem dX9_turnsNow_19 : decode cX9_turnsNow 19 = .ok (.ifCond .eq 16, 3) := by decide +kernel
theorem dX9_turnsNow_22 : decode cX9_turnsNow 22 = .ok (.aload_n 0, 1) := by decide +kernel
theorem dX9_turnsNow_23 : decode cX9_turnsNow 23 = .ok (.aload_n 0, 1) := by decide +kernel
theorem dX9_turnsNow_24 : decode cX9_turnsNow 24 = .ok (.getfield 39, 3) := by decide +kernel
theorem dX9_turnsNow_27 : decode cX9_turnsNow 27 = .ok (.iload_n 2, 1) := by decide +kernel
theorem dX9_turnsNow_28 : decode cX9_turnsNow 28 = .ok (.iaload, 1) := by decide +kernel
theorem dX9_turnsNow_29 : decode cX9_turnsNow 29 = .ok (.invokevirtual 212, 3) := by decide +kernel
theorem dX9_turnsNow_32 : decode cX9_turnsNow 32 = .ok (.goto 14, 3) := by decide +kernel
theorem dX9_turnsNow_35 : decode cX9_turnsNow 35 = .ok (.aload_n 0, 1) := by decide +kernel
theorem dX9_turnsNow_36 : decode cX9_turnsNow 36 = .ok (.aload_n 0, 1) := by decide +kernel
theorem dX9_turnsNow_37 : decode cX9_turnsNow 37 = .ok (.getfield 39, 3) := by decide +kernel
theorem dX9_turnsNow_40 : decode cX9_turnsNow 40 = .ok (.iload_n 2, 1) := by decide +kernel
theorem dX9_turnsNow_41 : decode cX9_turnsNow 41 = .ok (.iaload, 1) := by decide +kernel
theorem dX9_turnsNow_42 : decode cX9_turnsNow 42 = .ok (.invokevirtual 212, 3) := by decide +kernel
theorem dX9_turnsNow_45 : decode cX9_turnsNow 45 = .ok (.ineg, 1) := by decide +kernel
theorem dX9_turnsNow_46 : decode cX9_turnsNow 46 = .ok (.iadd, 1) := by decide +kernel
theorem dX9_turnsNow_47 : decode cX9_turnsNow 47 = .ok (.istore_n 1, 1) := by decide +kernel
theorem dX9_turnsNow_48 : decode cX9_turnsNow 48 = .ok (.iinc 2 1, 3) := by decide +kernel
theorem dX9_turnsNow_51 : decode cX9_turnsNow 51 = .ok (.goto (-47), 3) := by decide +kernel
theorem dX9_turnsNow_54 : decode cX9_turnsNow 54 = .ok (.iload_n 1, 1) := by decide +kernel
theorem dX9_turnsNow_55 : decode cX9_turnsNow 55 = .ok (.aload_n 0, 1) := by decide +kernel
theorem dX9_turnsNow_56 : decode cX9_turnsNow 56 = .ok (.getfield 7, 3) := by decide +kernel
theorem dX9_turnsNow_59 : decode cX9_turnsNow 59 = .ok (.iconst 0, 1) := by decide +kernel
theorem dX9_turnsNow_60 : decode cX9_turnsNow 60 = .ok (.iaload, 1) := by decide +kernel
theorem dX9_turnsNow_61 : decode cX9_turnsNow 61 = .ok (.idiv, 1) := by decide +kernel
theorem dX9_turnsNow_62 : decode cX9_turnsNow 62 = .ok (.ireturn, 1) := by decide +kernel
theorem dX9_mostTurns_0 : decode cX9_mostTurns 0 = .ok (.aload_n 0, 1) := by decide +kernel
theorem dX9_mostTurns_1 : decode cX9_mostTurns 1 = .ok (.iconst 3, 1) := by decide +kernel
theorem dX9_mostTurns_2 : decode cX9_mostTurns 2 = .ok (.iconst 2, 1) := by decide +kernel
theorem dX9_mostTurns_3 : decode cX9_mostTurns 3 = .ok (.invokevirtual 302, 3) := by decide +kernel
theorem dX9_mostTurns_6 : decode cX9_mostTurns 6 = .ok (.aload_n 0, 1) := by decide +kernel
theorem dX9_mostTurns_7 : decode cX9_mostTurns 7 = .ok (.getfield 7, 3) := by decide +kernel
theorem dX9_mostTurns_10 : decode cX9_mostTurns 10 = .ok (.iconst 0, 1) := by decide +kernel
theorem dX9_mostTurns_11 : decode cX9_mostTurns 11 = .ok (.iaload, 1) := by decide +kernel
theorem dX9_mostTurns_12 : decode cX9_mostTurns 12 = .ok (.invokestatic 305, 3) := by decide +kernel
theorem dX9_mostTurns_15 : decode cX9_mostTurns 15 = .ok (.ireturn, 1) := by decide +kernel
theorem dX9_leastTurns_0 : decode cX9_leastTurns 0 = .ok (.aload_n 0, 1) := by decide +kernel
theorem dX9_leastTurns_1 : decode cX9_leastTurns 1 = .ok (.iconst 2, 1) := by decide +kernel
theorem dX9_leastTurns_2 : decode cX9_leastTurns 2 = .ok (.iconst 3, 1) := by decide +kernel
theorem dX9_leastTurns_3 : decode cX9_leastTurns 3 = .ok (.invokevirtual 302, 3) := by decide +kernel
theorem dX9_leastTurns_6 : decode cX9_leastTurns 6 = .ok (.ineg, 1) := by decide +kernel
theorem dX9_leastTurns_7 : decode cX9_leastTurns 7 = .ok (.aload_n 0, 1) := by decide +kernel
theorem dX9_leastTurns_8 : decode cX9_leastTurns 8 = .ok (.getfield 7, 3) := by decide +kernel
theorem dX9_leastTurns_11 : decode cX9_leastTurns 11 = .ok (.iconst 0, 1) := by decide +kernel
theorem dX9_leastTurns_12 : decode cX9_leastTurns 12 = .ok (.iaload, 1) := by decide +kernel
theorem dX9_leastTurns_13 : decode cX9_leastTurns 13 = .ok (.invokestatic 305, 3) := by decide +kernel
theorem dX9_leastTurns_16 : decode cX9_leastTurns 16 = .ok (.ineg, 1) := by decide +kernel
theorem dX9_leastTurns_17 : decode cX9_leastTurns 17 = .ok (.ireturn, 1) := by decide +kernel
theorem dX9_turns_0 : decode cX9_turns 0 = .ok (.aload_n 0, 1) := by decide +kernel
theorem dX9_turns_1 : decode cX9_turns 1 = .ok (.aload_n 0, 1) := by decide +kernel
theorem dX9_turns_2 : decode cX9_turns 2 = .ok (.iload_n 1, 1) := by decide +kernel
theorem dX9_turns_3 : decode cX9_turns 3 = .ok (.invokevirtual 293, 3) := by decide +kernel
theorem dX9_turns_6 : decode cX9_turns 6 = .ok (.ifCond .eq 15, 3) := by decide +kernel
theorem dX9_turns_9 : decode cX9_turns 9 = .ok (.aload_n 0, 1) := by decide +kernel
theorem dX9_turns_10 : decode cX9_turns 10 = .ok (.iload_n 1, 1) := by decide +kernel
theorem dX9_turns_11 : decode cX9_turns 11 = .ok (.invokevirtual 296, 3) := by decide +kernel
theorem dX9_turns_14 : decode cX9_turns 14 = .ok (.ifCond .eq 7, 3) := by decide +kernel
theorem dX9_turns_17 : decode cX9_turns 17 = .ok (.iconst 1, 1) := by decide +kernel
theorem dX9_turns_18 : decode cX9_turns 18 = .ok (.goto 4, 3) := by decide +kernel
theorem dX9_turns_21 : decode cX9_turns 21 = .ok (.iconst 0, 1) := by decide +kernel
theorem dX9_turns_22 : decode cX9_turns 22 = .ok (.iload_n 2, 1) := by decide +kernel
theorem dX9_turns_23 : decode cX9_turns 23 = .ok (.iconst 0, 1) := by decide +kernel
theorem dX9_turns_24 : decode cX9_turns 24 = .ok (.iconst 2, 1) := by decide +kernel
theorem dX9_turns_25 : decode cX9_turns 25 = .ok (.invokestatic 121, 3) := by decide +kernel
theorem dX9_turns_28 : decode cX9_turns 28 = .ok (.invokevirtual 197, 3) := by decide +kernel
theorem dX9_turns_31 : decode cX9_turns 31 = .ok (.ifCond .ne 5, 3) := by decide +kernel
theorem dX9_turns_34 : decode cX9_turns 34 = .ok (.iconst 0, 1) := by decide +kernel
theorem dX9_turns_35 : decode cX9_turns 35 = .ok (.ireturn, 1) := by decide +kernel
theorem dX9_turns_36 : decode cX9_turns 36 = .ok (.iload_n 2, 1) := by decide +kernel
theorem dX9_turns_37 : decode cX9_turns 37 = .ok (.ifCond .ne 8, 3) := by decide +kernel
theorem dX9_turns_40 : decode cX9_turns 40 = .ok (.aload_n 0, 1) := by decide +kernel
theorem dX9_turns_41 : decode cX9_turns 41 = .ok (.invokevirtual 308, 3) := by decide +kernel
theorem dX9_turns_44 : decode cX9_turns 44 = .ok (.ireturn, 1) := by decide +kernel
theorem dX9_turns_45 : decode cX9_turns 45 = .ok (.iload_n 2, 1) := by decide +kernel
theorem dX9_turns_46 : decode cX9_turns 46 = .ok (.iconst 1, 1) := by decide +kernel
theorem dX9_turns_47 : decode cX9_turns 47 = .ok (.if_icmp .ne 10, 3) := by decide +kernel
theorem dX9_turns_50 : decode cX9_turns 50 = .ok (.aload_n 0, 1) := by decide +kernel
theorem dX9_turns_51 : decode cX9_turns 51 = .ok (.invokevirtual 311, 3) := by decide +kernel
theorem dX9_turns_54 : decode cX9_turns 54 = .ok (.goto 7, 3) := by decide +kernel
theorem dX9_turns_57 : decode cX9_turns 57 = .ok (.aload_n 0, 1) := by decide +kernel
theorem dX9_turns_58 : decode cX9_turns 58 = .ok (.invokevirtual 314, 3) := by decide +kernel
theorem dX9_turns_61 : decode cX9_turns 61 = .ok (.ireturn, 1) := by decide +kernel
theorem dX9_firstImpossible_0 : decode cX9_firstImpossible 0 = .ok (.aload_n 0, 1) := by decide +kernel
theorem dX9_firstImpossible_1 : decode cX9_firstImpossible 1 = .ok (.invokevirtual 290, 3) := by decide +kernel
theorem dX9_firstImpossible_4 : decode cX9_firstImpossible 4 = .ok (.iconst 0, 1) := by decide +kernel
theorem dX9_firstImpossible_5 : decode cX9_firstImpossible 5 = .ok (.istore_n 1, 1) := by decide +kernel
theorem dX9_firstImpossible_6 : decode cX9_firstImpossible 6 = .ok (.iload_n 1, 1) := by decide +kernel
theorem dX9_firstImpossible_7 : decode cX9_firstImpossible 7 = .ok (.aload_n 0, 1) := by decide +kernel
theorem dX9_firstImpossible_8 : decode cX9_firstImpossible 8 = .ok (.getfield 277, 3) := by decide +kernel
theorem dX9_firstImpossible_11 : decode cX9_firstImpossible 11 = .ok (.if_icmp .ge 35, 3) := by decide +kernel
theorem dX9_firstImpossible_14 : decode cX9_firstImpossible 14 = .ok (.aload_n 0, 1) := by decide +kernel
theorem dX9_firstImpossible_15 : decode cX9_firstImpossible 15 = .ok (.iload_n 1, 1) := by decide +kernel
theorem dX9_firstImpossible_16 : decode cX9_firstImpossible 16 = .ok (.invokevirtual 296, 3) := by decide +kernel
theorem dX9_firstImpossible_19 : decode cX9_firstImpossible 19 = .ok (.ifCond .eq 21, 3) := by decide +kernel
theorem dX9_firstImpossible_22 : decode cX9_firstImpossible 22 = .ok (.aload_n 0, 1) := by decide +kernel
theorem dX9_firstImpossible_23 : decode cX9_firstImpossible 23 = .ok (.invokevirtual 311, 3) := by decide +kernel
theorem dX9_firstImpossible_26 : decode cX9_firstImpossible 26 = .ok (.aload_n 0, 1) := by decide +kernel
theorem dX9_firstImpossible_27 : decode cX9_firstImpossible 27 = .ok (.invokevirtual 314, 3) := by decide +kernel
theorem dX9_firstImpossible_30 : decode cX9_firstImpossible 30 = .ok (.if_icmp .le 10, 3) := by decide +kernel
theorem dX9_firstImpossible_33 : decode cX9_firstImpossible 33 = .ok (.aload_n 0, 1) := by decide +kernel
theorem dX9_firstImpossible_34 : decode cX9_firstImpossible 34 = .ok (.iconst 0, 1) := by decide +kernel
theorem dX9_firstImpossible_35 : decode cX9_firstImpossible 35 = .ok (.putfield 54, 3) := by decide +kernel
theorem dX9_firstImpossible_38 : decode cX9_firstImpossible 38 = .ok (.iload_n 1, 1) := by decide +kernel
theorem dX9_firstImpossible_39 : decode cX9_firstImpossible 39 = .ok (.ireturn, 1) := by decide +kernel
theorem dX9_firstImpossible_40 : decode cX9_firstImpossible 40 = .ok (.iinc 1 1, 3) := by decide +kernel
theorem dX9_firstImpossible_43 : decode cX9_firstImpossible 43 = .ok (.goto (-37), 3) := by decide +kernel
theorem dX9_firstImpossible_46 : decode cX9_firstImpossible 46 = .ok (.aload_n 0, 1) := by decide +kernel
theorem dX9_firstImpossible_47 : decode cX9_firstImpossible 47 = .ok (.iconst 1, 1) := by decide +kernel
theorem dX9_firstImpossible_48 : decode cX9_firstImpossible 48 = .ok (.putfield 54, 3) := by decide +kernel
theorem dX9_firstImpossible_51 : decode cX9_firstImpossible 51 = .ok (.iconst 0, 1) := by decide +kernel
theorem dX9_firstImpossible_52 : decode cX9_firstImpossible 52 = .ok (.ireturn, 1) := by decide +kernel
theorem dX9_fits_0 : decode cX9_fits 0 = .ok (.iconst 0, 1) := by decide +kernel
theorem dX9_fits_1 : decode cX9_fits 1 = .ok (.istore_n 3, 1) := by decide +kernel
theorem dX9_fits_2 : decode cX9_fits 2 = .ok (.iload_n 3, 1) := by decide +kernel
theorem dX9_fits_3 : decode cX9_fits 3 = .ok (.iload_n 1, 1) := by decide +kernel
theorem dX9_fits_4 : decode cX9_fits 4 = .ok (.if_icmp .ge 39, 3) := by decide +kernel
theorem dX9_fits_7 : decode cX9_fits 7 = .ok (.aload_n 0, 1) := by decide +kernel
theorem dX9_fits_8 : decode cX9_fits 8 = .ok (.getfield 26, 3) := by decide +kernel
theorem dX9_fits_11 : decode cX9_fits 11 = .ok (.iload_n 3, 1) := by decide +kernel
theorem dX9_fits_12 : decode cX9_fits 12 = .ok (.iload_n 1, 1) := by decide +kernel
theorem dX9_fits_13 : decode cX9_fits 13 = .ok (.invokestatic 230, 3) := by decide +kernel
theorem dX9_fits_16 : decode cX9_fits 16 = .ok (.iaload, 1) := by decide +kernel
theorem dX9_fits_17 : decode cX9_fits 17 = .ok (.aload_n 0, 1) := by decide +kernel
theorem dX9_fits_18 : decode cX9_fits 18 = .ok (.iload_n 2, 1) := by decide +kernel
theorem dX9_fits_19 : decode cX9_fits 19 = .ok (.aload_n 0, 1) := by decide +kernel
theorem dX9_fits_20 : decode cX9_fits 20 = .ok (.getfield 45, 3) := by decide +kernel
theorem dX9_fits_23 : decode cX9_fits 23 = .ok (.iload_n 3, 1) := by decide +kernel
theorem dX9_fits_24 : decode cX9_fits 24 = .ok (.iaload, 1) := by decide +kernel
theorem dX9_fits_25 : decode cX9_fits 25 = .ok (.isub, 1) := by decide +kernel
theorem dX9_fits_26 : decode cX9_fits 26 = .ok (.invokevirtual 203, 3) := by decide +kernel
theorem dX9_fits_29 : decode cX9_fits 29 = .ok (.invokestatic 227, 3) := by decide +kernel
theorem dX9_fits_32 : decode cX9_fits 32 = .ok (.ifCond .ne 5, 3) := by decide +kernel
theorem dX9_fits_35 : decode cX9_fits 35 = .ok (.iconst 0, 1) := by decide +kernel
theorem dX9_fits_36 : decode cX9_fits 36 = .ok (.ireturn, 1) := by decide +kernel
theorem dX9_fits_37 : decode cX9_fits 37 = .ok (.iinc 3 1, 3) := by decide +kernel
theorem dX9_fits_40 : decode cX9_fits 40 = .ok (.goto (-38), 3) := by decide +kernel
theorem dX9_fits_43 : decode cX9_fits 43 = .ok (.iconst 1, 1) := by decide +kernel
theorem dX9_fits_44 : decode cX9_fits 44 = .ok (.ireturn, 1) := by decide +kernel
theorem dX9_costAt_0 : decode cX9_costAt 0 = .ok (.iconst 0, 1) := by decide +kernel
theorem dX9_costAt_1 : decode cX9_costAt 1 = .ok (.istore_n 2, 1) := by decide +kernel
theorem dX9_costAt_2 : decode cX9_costAt 2 = .ok (.iconst 0, 1) := by decide +kernel
theorem dX9_costAt_3 : decode cX9_costAt 3 = .ok (.istore_n 3, 1) := by decide +kernel
theorem dX9_costAt_4 : decode cX9_costAt 4 = .ok (.iload_n 3, 1) := by decide +kernel
theorem dX9_costAt_5 : decode cX9_costAt 5 = .ok (.aload_n 0, 1) := by decide +kernel
theorem dX9_costAt_6 : decode cX9_costAt 6 = .ok (.getfield 7, 3) := by decide +kernel
theorem dX9_costAt_9 : decode cX9_costAt 9 = .ok (.bipush 20, 2) := by decide +kernel
theorem dX9_costAt_11 : decode cX9_costAt 11 = .ok (.iaload, 1) := by decide +kernel
theorem dX9_costAt_12 : decode cX9_costAt 12 = .ok (.if_icmp .ge 66, 3) := by decide +kernel
theorem dX9_costAt_15 : decode cX9_costAt 15 = .ok (.aload_n 0, 1) := by decide +kernel
theorem dX9_costAt_16 : decode cX9_costAt 16 = .ok (.iload_n 3, 1) := by decide +kernel
theorem dX9_costAt_17 : decode cX9_costAt 17 = .ok (.iconst 0, 1) := by decide +kernel
theorem dX9_costAt_18 : decode cX9_costAt 18 = .ok (.invokevirtual 200, 3) := by decide +kernel
theorem dX9_costAt_21 : decode cX9_costAt 21 = .ok (.istore 4, 2) := by decide +kernel
theorem dX9_costAt_23 : decode cX9_costAt 23 = .ok (.aload_n 0, 1) := by decide +kernel
theorem dX9_costAt_24 : decode cX9_costAt 24 = .ok (.iload_n 3, 1) := by decide +kernel
theorem dX9_costAt_25 : decode cX9_costAt 25 = .ok (.iconst 1, 1) := by decide +kernel
theorem dX9_costAt_26 : decode cX9_costAt 26 = .ok (.invokevirtual 200, 3) := by decide +kernel
theorem dX9_costAt_29 : decode cX9_costAt 29 = .ok (.istore 5, 2) := by decide +kernel
theorem dX9_costAt_31 : decode cX9_costAt 31 = .ok (.iload 4, 2) := by decide +kernel
theorem dX9_costAt_33 : decode cX9_costAt 33 = .ok (.iload 5, 2) := by decide +kernel
theorem dX9_costAt_35 : decode cX9_costAt 35 = .ok (.invokestatic 317, 3) := by decide +kernel
theorem dX9_costAt_38 : decode cX9_costAt 38 = .ok (.iload_n 1, 1) := by decide +kernel
theorem dX9_costAt_39 : decode cX9_costAt 39 = .ok (.if_icmp .ne 33, 3) := by decide +kernel
theorem dX9_costAt_42 : decode cX9_costAt 42 = .ok (.iload_n 2, 1) := by decide +kernel
theorem dX9_costAt_43 : decode cX9_costAt 43 = .ok (.aload_n 0, 1) := by decide +kernel
theorem dX9_costAt_44 : decode cX9_costAt 44 = .ok (.iload_n 3, 1) := by decide +kernel
theorem dX9_costAt_45 : decode cX9_costAt 45 = .ok (.iconst 4, 1) := by decide +kernel
theorem dX9_costAt_46 : decode cX9_costAt 46 = .ok (.invokevirtual 200, 3) := by decide +kernel
theorem dX9_costAt_49 : decode cX9_costAt 49 = .ok (.aload_n 0, 1) := by decide +kernel
theorem dX9_costAt_50 : decode cX9_costAt 50 = .ok (.iload_n 3, 1) := by decide +kernel
theorem dX9_costAt_51 : decode cX9_costAt 51 = .ok (.aload_n 0, 1) := by decide +kernel
theorem dX9_costAt_52 : decode cX9_costAt 52 = .ok (.getfield 45, 3) := by decide +kernel
theorem dX9_costAt_55 : decode cX9_costAt 55 = .ok (.iload 5, 2) := by decide +kernel
theorem dX9_costAt_57 : decode cX9_costAt 57 = .ok (.iaload, 1) := by decide +kernel
theorem dX9_costAt_58 : decode cX9_costAt 58 = .ok (.aload_n 0, 1) := by decide +kernel
theorem dX9_costAt_59 : decode cX9_costAt 59 = .ok (.getfield 45, 3) := by decide +kernel
theorem dX9_costAt_62 : decode cX9_costAt 62 = .ok (.iload 4, 2) := by decide +kernel
theorem dX9_costAt_64 : decode cX9_costAt 64 = .ok (.iaload, 1) := by decide +kernel
theorem dX9_costAt_65 : decode cX9_costAt 65 = .ok (.isub, 1) := by decide +kernel
theorem dX9_costAt_66 : decode cX9_costAt 66 = .ok (.invokevirtual 206, 3) := by decide +kernel
theorem dX9_costAt_69 : decode cX9_costAt 69 = .ok (.imul, 1) := by decide +kernel
theorem dX9_costAt_70 : decode cX9_costAt 70 = .ok (.iadd, 1) := by decide +kernel
theorem dX9_costAt_71 : decode cX9_costAt 71 = .ok (.istore_n 2, 1) := by decide +kernel
theorem dX9_costAt_72 : decode cX9_costAt 72 = .ok (.iinc 3 1, 3) := by decide +kernel
theorem dX9_costAt_75 : decode cX9_costAt 75 = .ok (.goto (-71), 3) := by decide +kernel
theorem dX9_costAt_78 : decode cX9_costAt 78 = .ok (.iload_n 2, 1) := by decide +kernel
theorem dX9_costAt_79 : decode cX9_costAt 79 = .ok (.ireturn, 1) := by decide +kernel
theorem dX9_tries_0 : decode cX9_tries 0 = .ok (.aload_n 0, 1) := by decide +kernel
theorem dX9_tries_1 : decode cX9_tries 1 = .ok (.getfield 320, 3) := by decide +kernel
theorem dX9_tries_4 : decode cX9_tries 4 = .ok (.ifCond .lt 13, 3) := by decide +kernel
theorem dX9_tries_7 : decode cX9_tries 7 = .ok (.iload_n 2, 1) := by decide +kernel
theorem dX9_tries_8 : decode cX9_tries 8 = .ok (.aload_n 0, 1) := by decide +kernel
theorem dX9_tries_9 : decode cX9_tries 9 = .ok (.getfield 320, 3) := by decide +kernel
theorem dX9_tries_12 : decode cX9_tries 12 = .ok (.if_icmp .lt 5, 3) := by decide +kernel
theorem dX9_tries_15 : decode cX9_tries 15 = .ok (.iconst 0, 1) := by decide +kernel
theorem dX9_tries_16 : decode cX9_tries 16 = .ok (.ireturn, 1) := by decide +kernel
theorem dX9_tries_17 : decode cX9_tries 17 = .ok (.iload_n 1, 1) := by decide +kernel
theorem dX9_tries_18 : decode cX9_tries 18 = .ok (.aload_n 0, 1) := by decide +kernel
theorem dX9_tries_19 : decode cX9_tries 19 = .ok (.getfield 7, 3) := by decide +kernel
theorem dX9_tries_22 : decode cX9_tries 22 = .ok (.iconst 1, 1) := by decide +kernel
theorem dX9_tries_23 : decode cX9_tries 23 = .ok (.iaload, 1) := by decide +kernel
theorem dX9_tries_24 : decode cX9_tries 24 = .ok (.if_icmp .lt 44, 3) := by decide +kernel
theorem dX9_tries_27 : decode cX9_tries 27 = .ok (.aload_n 0, 1) := by decide +kernel
theorem dX9_tries_28 : decode cX9_tries 28 = .ok (.iload_n 2, 1) := by decide +kernel
theorem dX9_tries_29 : decode cX9_tries 29 = .ok (.putfield 320, 3) := by decide +kernel
theorem dX9_tries_32 : decode cX9_tries 32 = .ok (.iconst 0, 1) := by decide +kernel
theorem dX9_tries_33 : decode cX9_tries 33 = .ok (.istore 4, 2) := by decide +kernel
theorem dX9_tries_35 : decode cX9_tries 35 = .ok (.iload 4, 2) := by decide +kernel
theorem dX9_tries_37 : decode cX9_tries 37 = .ok (.aload_n 0, 1) := by decide +kernel
theorem dX9_tries_38 : decode cX9_tries 38 = .ok (.getfield 7, 3) := by decide +kernel
theorem dX9_tries_41 : decode cX9_tries 41 = .ok (.iconst 1, 1) := by decide +kernel
theorem dX9_tries_42 : decode cX9_tries 42 = .ok (.iaload, 1) := by decide +kernel
theorem dX9_tries_43 : decode cX9_tries 43 = .ok (.if_icmp .ge 23, 3) := by decide +kernel
theorem dX9_tries_46 : decode cX9_tries 46 = .ok (.aload_n 0, 1) := by decide +kernel
theorem dX9_tries_47 : decode cX9_tries 47 = .ok (.getfield 48, 3) := by decide +kernel
theorem dX9_tries_50 : decode cX9_tries 50 = .ok (.iload 4, 2) := by decide +kernel
theorem dX9_tries_52 : decode cX9_tries 52 = .ok (.aload_n 0, 1) := by decide +kernel
theorem dX9_tries_53 : decode cX9_tries 53 = .ok (.getfield 45, 3) := by decide +kernel
theorem dX9_tries_56 : decode cX9_tries 56 = .ok (.iload 4, 2) := by decide +kernel
theorem dX9_tries_58 : decode cX9_tries 58 = .ok (.iaload, 1) := by decide +kernel
theorem dX9_tries_59 : decode cX9_tries 59 = .ok (.iastore, 1) := by decide +kernel
theorem dX9_tries_60 : decode cX9_tries 60 = .ok (.iinc 4 1, 3) := by decide +kernel
theorem dX9_tries_63 : decode cX9_tries 63 = .ok (.goto (-28), 3) := by decide +kernel
theorem dX9_tries_66 : decode cX9_tries 66 = .ok (.iload_n 3, 1) := by decide +kernel
theorem dX9_tries_67 : decode cX9_tries 67 = .ok (.ireturn, 1) := by decide +kernel
theorem dX9_tries_68 : decode cX9_tries 68 = .ok (.iconst 0, 1) := by decide +kernel
theorem dX9_tries_69 : decode cX9_tries 69 = .ok (.istore 4, 2) := by decide +kernel
theorem dX9_tries_71 : decode cX9_tries 71 = .ok (.iload 4, 2) := by decide +kernel
theorem dX9_tries_73 : decode cX9_tries 73 = .ok (.aload_n 0, 1) := by decide +kernel
theorem dX9_tries_74 : decode cX9_tries 74 = .ok (.getfield 7, 3) := by decide +kernel
theorem dX9_tries_77 : decode cX9_tries 77 = .ok (.iconst 0, 1) := by decide +kernel
theorem dX9_tries_78 : decode cX9_tries 78 = .ok (.iaload, 1) := by decide +kernel
theorem dX9_tries_79 : decode cX9_tries 79 = .ok (.if_icmp .ge 66, 3) := by decide +kernel
theorem dX9_tries_82 : decode cX9_tries 82 = .ok (.iload_n 1, 1) := by decide +kernel
theorem dX9_tries_83 : decode cX9_tries 83 = .ok (.ifCond .ne 15, 3) := by decide +kernel
theorem dX9_tries_86 : decode cX9_tries 86 = .ok (.iload 4, 2) := by decide +kernel
theorem dX9_tries_88 : decode cX9_tries 88 = .ok (.aload_n 0, 1) := by decide +kernel
theorem dX9_tries_89 : decode cX9_tries 89 = .ok (.getfield 7, 3) := by decide +kernel
theorem dX9_tries_92 : decode cX9_tries 92 = .ok (.bipush 14, 2) := by decide +kernel
theorem dX9_tries_94 : decode cX9_tries 94 = .ok (.iaload, 1) := by decide +kernel
theorem dX9_tries_95 : decode cX9_tries 95 = .ok (.if_icmp .ne 44, 3) := by decide +kernel
theorem dX9_tries_98 : decode cX9_tries 98 = .ok (.aload_n 0, 1) := by decide +kernel
theorem dX9_tries_99 : decode cX9_tries 99 = .ok (.iload_n 1, 1) := by decide +kernel
theorem dX9_tries_100 : decode cX9_tries 100 = .ok (.iload 4, 2) := by decide +kernel
theorem dX9_tries_102 : decode cX9_tries 102 = .ok (.invokevirtual 323, 3) := by decide +kernel
theorem dX9_tries_105 : decode cX9_tries 105 = .ok (.ifCond .ne 6, 3) := by decide +kernel
theorem dX9_tries_108 : decode cX9_tries 108 = .ok (.goto 31, 3) := by decide +kernel
theorem dX9_tries_111 : decode cX9_tries 111 = .ok (.aload_n 0, 1) := by decide +kernel
theorem dX9_tries_112 : decode cX9_tries 112 = .ok (.getfield 45, 3) := by decide +kernel
theorem dX9_tries_115 : decode cX9_tries 115 = .ok (.iload_n 1, 1) := by decide +kernel
theorem dX9_tries_116 : decode cX9_tries 116 = .ok (.iload 4, 2) := by decide +kernel
theorem dX9_tries_118 : decode cX9_tries 118 = .ok (.iastore, 1) := by decide +kernel
theorem dX9_tries_119 : decode cX9_tries 119 = .ok (.aload_n 0, 1) := by decide +kernel
theorem dX9_tries_120 : decode cX9_tries 120 = .ok (.iload_n 1, 1) := by decide +kernel
theorem dX9_tries_121 : decode cX9_tries 121 = .ok (.iconst 1, 1) := by decide +kernel
theorem dX9_tries_122 : decode cX9_tries 122 = .ok (.iadd, 1) := by decide +kernel
theorem dX9_tries_123 : decode cX9_tries 123 = .ok (.iload_n 2, 1) := by decide +kernel
theorem dX9_tries_124 : decode cX9_tries 124 = .ok (.aload_n 0, 1) := by decide +kernel
theorem dX9_tries_125 : decode cX9_tries 125 = .ok (.iload_n 1, 1) := by decide +kernel
theorem dX9_tries_126 : decode cX9_tries 126 = .ok (.invokevirtual 326, 3) := by decide +kernel
theorem dX9_tries_129 : decode cX9_tries 129 = .ok (.iadd, 1) := by decide +kernel
theorem dX9_tries_130 : decode cX9_tries 130 = .ok (.iload_n 3, 1) := by decide +kernel
theorem dX9_tries_131 : decode cX9_tries 131 = .ok (.invokevirtual 329, 3) := by decide +kernel
theorem dX9_tries_134 : decode cX9_tries 134 = .ok (.ifCond .eq 5, 3) := by decide +kernel
theorem dX9_tries_137 : decode cX9_tries 137 = .ok (.iconst 1, 1) := by decide +kernel
theorem dX9_tries_138 : decode cX9_tries 138 = .ok (.ireturn, 1) := by decide +kernel
theorem dX9_tries_139 : decode cX9_tries 139 = .ok (.iinc 4 1, 3) := by decide +kernel
theorem dX9_tries_142 : decode cX9_tries 142 = .ok (.goto (-71), 3) := by decide +kernel
theorem dX9_tries_145 : decode cX9_tries 145 = .ok (.iconst 0, 1) := by decide +kernel
theorem dX9_tries_146 : decode cX9_tries 146 = .ok (.ireturn, 1) := by decide +kernel
theorem dX9_finds_0 : decode cX9_finds 0 = .ok (.aload_n 0, 1) := by decide +kernel
theorem dX9_finds_1 : decode cX9_finds 1 = .ok (.iconst (-1), 1) := by decide +kernel
theorem dX9_finds_2 : decode cX9_finds 2 = .ok (.putfield 320, 3) := by decide +kernel
theorem dX9_finds_5 : decode cX9_finds 5 = .ok (.aload_n 0, 1) := by decide +kernel
theorem dX9_finds_6 : decode cX9_finds 6 = .ok (.invokevirtual 270, 3) := by decide +kernel
theorem dX9_finds_9 : decode cX9_finds 9 = .ok (.ifCond .ne 5, 3) := by decide +kernel
theorem dX9_finds_12 : decode cX9_finds 12 = .ok (.iconst 0, 1) := by decide +kernel
theorem dX9_finds_13 : decode cX9_finds 13 = .ok (.ireturn, 1) := by decide +kernel
theorem dX9_finds_14 : decode cX9_finds 14 = .ok (.aload_n 0, 1) := by decide +kernel
theorem dX9_finds_15 : decode cX9_finds 15 = .ok (.iconst 0, 1) := by decide +kernel
theorem dX9_finds_16 : decode cX9_finds 16 = .ok (.iconst 0, 1) := by decide +kernel
theorem dX9_finds_17 : decode cX9_finds 17 = .ok (.iload_n 1, 1) := by decide +kernel
theorem dX9_finds_18 : decode cX9_finds 18 = .ok (.invokevirtual 329, 3) := by decide +kernel
theorem dX9_finds_21 : decode cX9_finds 21 = .ok (.istore_n 2, 1) := by decide +kernel
theorem dX9_finds_22 : decode cX9_finds 22 = .ok (.iload_n 2, 1) := by decide +kernel
theorem dX9_finds_23 : decode cX9_finds 23 = .ok (.ifCond .ne 10, 3) := by decide +kernel
theorem dX9_finds_26 : decode cX9_finds 26 = .ok (.aload_n 0, 1) := by decide +kernel
theorem dX9_finds_27 : decode cX9_finds 27 = .ok (.getfield 320, 3) := by decide +kernel
theorem dX9_finds_30 : decode cX9_finds 30 = .ok (.ifCond .lt 7, 3) := by decide +kernel
theorem dX9_finds_33 : decode cX9_finds 33 = .ok (.iconst 1, 1) := by decide +kernel
theorem dX9_finds_34 : decode cX9_finds 34 = .ok (.goto 4, 3) := by decide +kernel
theorem dX9_finds_37 : decode cX9_finds 37 = .ok (.iconst 0, 1) := by decide +kernel
theorem dX9_finds_38 : decode cX9_finds 38 = .ok (.ireturn, 1) := by decide +kernel
theorem dX9_isSolvable_0 : decode cX9_isSolvable 0 = .ok (.aload_n 0, 1) := by decide +kernel
theorem dX9_isSolvable_1 : decode cX9_isSolvable 1 = .ok (.iconst 0, 1) := by decide +kernel
theorem dX9_isSolvable_2 : decode cX9_isSolvable 2 = .ok (.putfield 54, 3) := by decide +kernel
theorem dX9_isSolvable_5 : decode cX9_isSolvable 5 = .ok (.aload_n 0, 1) := by decide +kernel
theorem dX9_isSolvable_6 : decode cX9_isSolvable 6 = .ok (.iconst 1, 1) := by decide +kernel
theorem dX9_isSolvable_7 : decode cX9_isSolvable 7 = .ok (.invokevirtual 333, 3) := by decide +kernel
theorem dX9_isSolvable_10 : decode cX9_isSolvable 10 = .ok (.ireturn, 1) := by decide +kernel
theorem dX9_leastCost_0 : decode cX9_leastCost 0 = .ok (.aload_n 0, 1) := by decide +kernel
theorem dX9_leastCost_1 : decode cX9_leastCost 1 = .ok (.aload_n 0, 1) := by decide +kernel
theorem dX9_leastCost_2 : decode cX9_leastCost 2 = .ok (.iconst 0, 1) := by decide +kernel
theorem dX9_leastCost_3 : decode cX9_leastCost 3 = .ok (.invokevirtual 333, 3) := by decide +kernel
theorem dX9_leastCost_6 : decode cX9_leastCost 6 = .ok (.invokevirtual 176, 3) := by decide +kernel
theorem dX9_leastCost_9 : decode cX9_leastCost 9 = .ok (.ifCond .eq 10, 3) := by decide +kernel
theorem dX9_leastCost_12 : decode cX9_leastCost 12 = .ok (.aload_n 0, 1) := by decide +kernel
theorem dX9_leastCost_13 : decode cX9_leastCost 13 = .ok (.getfield 320, 3) := by decide +kernel
theorem dX9_leastCost_16 : decode cX9_leastCost 16 = .ok (.goto 4, 3) := by decide +kernel
theorem dX9_leastCost_19 : decode cX9_leastCost 19 = .ok (.iconst 0, 1) := by decide +kernel
theorem dX9_leastCost_20 : decode cX9_leastCost 20 = .ok (.ireturn, 1) := by decide +kernel
theorem dX9_costBy_0 : decode cX9_costBy 0 = .ok (.aload_n 0, 1) := by decide +kernel
theorem dX9_costBy_1 : decode cX9_costBy 1 = .ok (.getfield 7, 3) := by decide +kernel
theorem dX9_costBy_4 : decode cX9_costBy 4 = .ok (.iload_n 1, 1) := by decide +kernel
theorem dX9_costBy_5 : decode cX9_costBy 5 = .ok (.iaload, 1) := by decide +kernel
theorem dX9_costBy_6 : decode cX9_costBy 6 = .ok (.istore_n 3, 1) := by decide +kernel
theorem dX9_costBy_7 : decode cX9_costBy 7 = .ok (.aload_n 0, 1) := by decide +kernel
theorem dX9_costBy_8 : decode cX9_costBy 8 = .ok (.getfield 7, 3) := by decide +kernel
theorem dX9_costBy_11 : decode cX9_costBy 11 = .ok (.iload_n 1, 1) := by decide +kernel
theorem dX9_costBy_12 : decode cX9_costBy 12 = .ok (.iload_n 2, 1) := by decide +kernel
theorem dX9_costBy_13 : decode cX9_costBy 13 = .ok (.iastore, 1) := by decide +kernel
theorem dX9_costBy_14 : decode cX9_costBy 14 = .ok (.aload_n 0, 1) := by decide +kernel
theorem dX9_costBy_15 : decode cX9_costBy 15 = .ok (.invokevirtual 221, 3) := by decide +kernel
theorem dX9_costBy_18 : decode cX9_costBy 18 = .ok (.istore 4, 2) := by decide +kernel
theorem dX9_costBy_20 : decode cX9_costBy 20 = .ok (.aload_n 0, 1) := by decide +kernel
theorem dX9_costBy_21 : decode cX9_costBy 21 = .ok (.getfield 7, 3) := by decide +kernel
theorem dX9_costBy_24 : decode cX9_costBy 24 = .ok (.iload_n 1, 1) := by decide +kernel
theorem dX9_costBy_25 : decode cX9_costBy 25 = .ok (.iload_n 3, 1) := by decide +kernel
theorem dX9_costBy_26 : decode cX9_costBy 26 = .ok (.iastore, 1) := by decide +kernel
theorem dX9_costBy_27 : decode cX9_costBy 27 = .ok (.iload 4, 2) := by decide +kernel
theorem dX9_costBy_29 : decode cX9_costBy 29 = .ok (.ireturn, 1) := by decide +kernel
theorem dX9_costIf_0 : decode cX9_costIf 0 = .ok (.aload_n 0, 1) := by decide +kernel
theorem dX9_costIf_1 : decode cX9_costIf 1 = .ok (.aload_n 0, 1) := by decide +kernel
theorem dX9_costIf_2 : decode cX9_costIf 2 = .ok (.iload_n 1, 1) := by decide +kernel
theorem dX9_costIf_3 : decode cX9_costIf 3 = .ok (.invokevirtual 191, 3) := by decide +kernel
theorem dX9_costIf_6 : decode cX9_costIf 6 = .ok (.aload_n 0, 1) := by decide +kernel
theorem dX9_costIf_7 : decode cX9_costIf 7 = .ok (.iload_n 2, 1) := by decide +kernel
theorem dX9_costIf_8 : decode cX9_costIf 8 = .ok (.invokevirtual 267, 3) := by decide +kernel
theorem dX9_costIf_11 : decode cX9_costIf 11 = .ok (.invokevirtual 197, 3) := by decide +kernel
theorem dX9_costIf_14 : decode cX9_costIf 14 = .ok (.ifCond .eq 15, 3) := by decide +kernel
theorem dX9_costIf_17 : decode cX9_costIf 17 = .ok (.aload_n 0, 1) := by decide +kernel
theorem dX9_costIf_18 : decode cX9_costIf 18 = .ok (.bipush 14, 2) := by decide +kernel
theorem dX9_costIf_20 : decode cX9_costIf 20 = .ok (.iload_n 1, 1) := by decide +kernel
theorem dX9_costIf_21 : decode cX9_costIf 21 = .ok (.iadd, 1) := by decide +kernel
theorem dX9_costIf_22 : decode cX9_costIf 22 = .ok (.iload_n 2, 1) := by decide +kernel
theorem dX9_costIf_23 : decode cX9_costIf 23 = .ok (.invokevirtual 336, 3) := by decide +kernel
theorem dX9_costIf_26 : decode cX9_costIf 26 = .ok (.goto 4, 3) := by decide +kernel
theorem dX9_costIf_29 : decode cX9_costIf 29 = .ok (.iconst 0, 1) := by decide +kernel
theorem dX9_costIf_30 : decode cX9_costIf 30 = .ok (.ireturn, 1) := by decide +kernel
theorem dX9_canRaise_0 : decode cX9_canRaise 0 = .ok (.aload_n 0, 1) := by decide +kernel
theorem dX9_canRaise_1 : decode cX9_canRaise 1 = .ok (.aload_n 0, 1) := by decide +kernel
theorem dX9_canRaise_2 : decode cX9_canRaise 2 = .ok (.iload_n 1, 1) := by decide +kernel
theorem dX9_canRaise_3 : decode cX9_canRaise 3 = .ok (.invokevirtual 194, 3) := by decide +kernel
theorem dX9_canRaise_6 : decode cX9_canRaise 6 = .ok (.invokevirtual 176, 3) := by decide +kernel
theorem dX9_canRaise_9 : decode cX9_canRaise 9 = .ok (.ifCond .ne 5, 3) := by decide +kernel
theorem dX9_canRaise_12 : decode cX9_canRaise 12 = .ok (.iconst 0, 1) := by decide +kernel
theorem dX9_canRaise_13 : decode cX9_canRaise 13 = .ok (.ireturn, 1) := by decide +kernel
theorem dX9_canRaise_14 : decode cX9_canRaise 14 = .ok (.aload_n 0, 1) := by decide +kernel
theorem dX9_canRaise_15 : decode cX9_canRaise 15 = .ok (.iload_n 1, 1) := by decide +kernel
theorem dX9_canRaise_16 : decode cX9_canRaise 16 = .ok (.iconst 2, 1) := by decide +kernel
theorem dX9_canRaise_17 : decode cX9_canRaise 17 = .ok (.invokevirtual 200, 3) := by decide +kernel
theorem dX9_canRaise_20 : decode cX9_canRaise 20 = .ok (.istore_n 2, 1) := by decide +kernel
theorem dX9_canRaise_21 : decode cX9_canRaise 21 = .ok (.aload_n 0, 1) := by decide +kernel
theorem dX9_canRaise_22 : decode cX9_canRaise 22 = .ok (.iload_n 1, 1) := by decide +kernel
theorem dX9_canRaise_23 : decode cX9_canRaise 23 = .ok (.iconst 3, 1) := by decide +kernel
theorem dX9_canRaise_24 : decode cX9_canRaise 24 = .ok (.invokevirtual 200, 3) := by decide +kernel
theorem dX9_canRaise_27 : decode cX9_canRaise 27 = .ok (.iload_n 2, 1) := by decide +kernel
theorem dX9_canRaise_28 : decode cX9_canRaise 28 = .ok (.isub, 1) := by decide +kernel
theorem dX9_canRaise_29 : decode cX9_canRaise 29 = .ok (.istore_n 3, 1) := by decide +kernel
theorem dX9_canRaise_30 : decode cX9_canRaise 30 = .ok (.iconst (-1), 1) := by decide +kernel
theorem dX9_canRaise_31 : decode cX9_canRaise 31 = .ok (.istore 4, 2) := by decide +kernel
theorem dX9_canRaise_33 : decode cX9_canRaise 33 = .ok (.iload 4, 2) := by decide +kernel
theorem dX9_canRaise_35 : decode cX9_canRaise 35 = .ok (.iload_n 3, 1) := by decide +kernel
theorem dX9_canRaise_36 : decode cX9_canRaise 36 = .ok (.if_icmp .ge 28, 3) := by decide +kernel
theorem dX9_canRaise_39 : decode cX9_canRaise 39 = .ok (.aload_n 0, 1) := by decide +kernel
theorem dX9_canRaise_40 : decode cX9_canRaise 40 = .ok (.iload_n 1, 1) := by decide +kernel
theorem dX9_canRaise_41 : decode cX9_canRaise 41 = .ok (.invokestatic 150, 3) := by decide +kernel
theorem dX9_canRaise_44 : decode cX9_canRaise 44 = .ok (.iconst 2, 1) := by decide +kernel
theorem dX9_canRaise_45 : decode cX9_canRaise 45 = .ok (.iadd, 1) := by decide +kernel
theorem dX9_canRaise_46 : decode cX9_canRaise 46 = .ok (.iload_n 2, 1) := by decide +kernel
theorem dX9_canRaise_47 : decode cX9_canRaise 47 = .ok (.iload 4, 2) := by decide +kernel
theorem dX9_canRaise_49 : decode cX9_canRaise 49 = .ok (.iadd, 1) := by decide +kernel
theorem dX9_canRaise_50 : decode cX9_canRaise 50 = .ok (.iconst 1, 1) := by decide +kernel
theorem dX9_canRaise_51 : decode cX9_canRaise 51 = .ok (.iadd, 1) := by decide +kernel
theorem dX9_canRaise_52 : decode cX9_canRaise 52 = .ok (.invokevirtual 339, 3) := by decide +kernel
theorem dX9_canRaise_55 : decode cX9_canRaise 55 = .ok (.ifCond .eq 9, 3) := by decide +kernel
theorem dX9_canRaise_58 : decode cX9_canRaise 58 = .ok (.iinc 4 1, 3) := by decide +kernel
theorem dX9_canRaise_61 : decode cX9_canRaise 61 = .ok (.goto (-28), 3) := by decide +kernel
theorem dX9_canRaise_64 : decode cX9_canRaise 64 = .ok (.iload 4, 2) := by decide +kernel
theorem dX9_canRaise_66 : decode cX9_canRaise 66 = .ok (.ireturn, 1) := by decide +kernel
theorem dX9_isGoodWith_0 : decode cX9_isGoodWith 0 = .ok (.aload_n 0, 1) := by decide +kernel
theorem dX9_isGoodWith_1 : decode cX9_isGoodWith 1 = .ok (.getfield 7, 3) := by decide +kernel
theorem dX9_isGoodWith_4 : decode cX9_isGoodWith 4 = .ok (.iload_n 1, 1) := by decide +kernel
theorem dX9_isGoodWith_5 : decode cX9_isGoodWith 5 = .ok (.iaload, 1) := by decide +kernel
theorem dX9_isGoodWith_6 : decode cX9_isGoodWith 6 = .ok (.istore_n 3, 1) := by decide +kernel
theorem dX9_isGoodWith_7 : decode cX9_isGoodWith 7 = .ok (.aload_n 0, 1) := by decide +kernel
theorem dX9_isGoodWith_8 : decode cX9_isGoodWith 8 = .ok (.getfield 7, 3) := by decide +kernel
theorem dX9_isGoodWith_11 : decode cX9_isGoodWith 11 = .ok (.iload_n 1, 1) := by decide +kernel
theorem dX9_isGoodWith_12 : decode cX9_isGoodWith 12 = .ok (.iload_n 2, 1) := by decide +kernel
theorem dX9_isGoodWith_13 : decode cX9_isGoodWith 13 = .ok (.iastore, 1) := by decide +kernel
theorem dX9_isGoodWith_14 : decode cX9_isGoodWith 14 = .ok (.aload_n 0, 1) := by decide +kernel
theorem dX9_isGoodWith_15 : decode cX9_isGoodWith 15 = .ok (.iconst 1, 1) := by decide +kernel
theorem dX9_isGoodWith_16 : decode cX9_isGoodWith 16 = .ok (.invokevirtual 333, 3) := by decide +kernel
theorem dX9_isGoodWith_19 : decode cX9_isGoodWith 19 = .ok (.istore 4, 2) := by decide +kernel
theorem dX9_isGoodWith_21 : decode cX9_isGoodWith 21 = .ok (.aload_n 0, 1) := by decide +kernel
theorem dX9_isGoodWith_22 : decode cX9_isGoodWith 22 = .ok (.getfield 7, 3) := by decide +kernel
theorem dX9_isGoodWith_25 : decode cX9_isGoodWith 25 = .ok (.iload_n 1, 1) := by decide +kernel
theorem dX9_isGoodWith_26 : decode cX9_isGoodWith 26 = .ok (.iload_n 3, 1) := by decide +kernel
theorem dX9_isGoodWith_27 : decode cX9_isGoodWith 27 = .ok (.iastore, 1) := by decide +kernel
theorem dX9_isGoodWith_28 : decode cX9_isGoodWith 28 = .ok (.iload 4, 2) := by decide +kernel
theorem dX9_isGoodWith_30 : decode cX9_isGoodWith 30 = .ok (.ireturn, 1) := by decide +kernel
theorem dX9_closes_0 : decode cX9_closes 0 = .ok (.aload_n 0, 1) := by decide +kernel
theorem dX9_closes_1 : decode cX9_closes 1 = .ok (.getfield 7, 3) := by decide +kernel
theorem dX9_closes_4 : decode cX9_closes 4 = .ok (.bipush 20, 2) := by decide +kernel
theorem dX9_closes_6 : decode cX9_closes 6 = .ok (.dup2, 1) := by decide +kernel
theorem dX9_closes_7 : decode cX9_closes 7 = .ok (.iaload, 1) := by decide +kernel
theorem dX9_closes_8 : decode cX9_closes 8 = .ok (.iconst 1, 1) := by decide +kernel
theorem dX9_closes_9 : decode cX9_closes 9 = .ok (.isub, 1) := by decide +kernel
theorem dX9_closes_10 : decode cX9_closes 10 = .ok (.iastore, 1) := by decide +kernel
theorem dX9_closes_11 : decode cX9_closes 11 = .ok (.iload_n 1, 1) := by decide +kernel
theorem dX9_closes_12 : decode cX9_closes 12 = .ok (.invokestatic 150, 3) := by decide +kernel
theorem dX9_closes_15 : decode cX9_closes 15 = .ok (.istore_n 2, 1) := by decide +kernel
theorem dX9_closes_16 : decode cX9_closes 16 = .ok (.iload_n 2, 1) := by decide +kernel
theorem dX9_closes_17 : decode cX9_closes 17 = .ok (.aload_n 0, 1) := by decide +kernel
theorem dX9_closes_18 : decode cX9_closes 18 = .ok (.getfield 7, 3) := by decide +kernel
theorem dX9_closes_21 : decode cX9_closes 21 = .ok (.bipush 20, 2) := by decide +kernel
theorem dX9_closes_23 : decode cX9_closes 23 = .ok (.iaload, 1) := by decide +kernel
theorem dX9_closes_24 : decode cX9_closes 24 = .ok (.invokestatic 150, 3) := by decide +kernel
theorem dX9_closes_27 : decode cX9_closes 27 = .ok (.if_icmp .ge 23, 3) := by decide +kernel
theorem dX9_closes_30 : decode cX9_closes 30 = .ok (.aload_n 0, 1) := by decide +kernel
theorem dX9_closes_31 : decode cX9_closes 31 = .ok (.getfield 7, 3) := by decide +kernel
theorem dX9_closes_34 : decode cX9_closes 34 = .ok (.iload_n 2, 1) := by decide +kernel
theorem dX9_closes_35 : decode cX9_closes 35 = .ok (.aload_n 0, 1) := by decide +kernel
theorem dX9_closes_36 : decode cX9_closes 36 = .ok (.getfield 7, 3) := by decide +kernel
theorem dX9_closes_39 : decode cX9_closes 39 = .ok (.iload_n 2, 1) := by decide +kernel
theorem dX9_closes_40 : decode cX9_closes 40 = .ok (.iconst 5, 1) := by decide +kernel
theorem dX9_closes_41 : decode cX9_closes 41 = .ok (.iadd, 1) := by decide +kernel
theorem dX9_closes_42 : decode cX9_closes 42 = .ok (.iaload, 1) := by decide +kernel
theorem dX9_closes_43 : decode cX9_closes 43 = .ok (.iastore, 1) := by decide +kernel
theorem dX9_closes_44 : decode cX9_closes 44 = .ok (.iinc 2 1, 3) := by decide +kernel
theorem dX9_closes_47 : decode cX9_closes 47 = .ok (.goto (-31), 3) := by decide +kernel
theorem dX9_closes_50 : decode cX9_closes 50 = .ok (.return_, 1) := by decide +kernel
theorem dX9_isCritical_0 : decode cX9_isCritical 0 = .ok (.aload_n 0, 1) := by decide +kernel
theorem dX9_isCritical_1 : decode cX9_isCritical 1 = .ok (.aload_n 0, 1) := by decide +kernel
theorem dX9_isCritical_2 : decode cX9_isCritical 2 = .ok (.iload_n 1, 1) := by decide +kernel
theorem dX9_isCritical_3 : decode cX9_isCritical 3 = .ok (.invokevirtual 194, 3) := by decide +kernel
theorem dX9_isCritical_6 : decode cX9_isCritical 6 = .ok (.invokevirtual 176, 3) := by decide +kernel
theorem dX9_isCritical_9 : decode cX9_isCritical 9 = .ok (.ifCond .eq 11, 3) := by decide +kernel
theorem dX9_isCritical_12 : decode cX9_isCritical 12 = .ok (.aload_n 0, 1) := by decide +kernel
theorem dX9_isCritical_13 : decode cX9_isCritical 13 = .ok (.iconst 1, 1) := by decide +kernel
theorem dX9_isCritical_14 : decode cX9_isCritical 14 = .ok (.invokevirtual 333, 3) := by decide +kernel
theorem dX9_isCritical_17 : decode cX9_isCritical 17 = .ok (.ifCond .eq 5, 3) := by decide +kernel
theorem dX9_isCritical_20 : decode cX9_isCritical 20 = .ok (.iconst 0, 1) := by decide +kernel
theorem dX9_isCritical_21 : decode cX9_isCritical 21 = .ok (.ireturn, 1) := by decide +kernel
theorem dX9_isCritical_22 : decode cX9_isCritical 22 = .ok (.aload_n 0, 1) := by decide +kernel
theorem dX9_isCritical_23 : decode cX9_isCritical 23 = .ok (.invokevirtual 179, 3) := by decide +kernel
theorem dX9_isCritical_26 : decode cX9_isCritical 26 = .ok (.aload_n 0, 1) := by decide +kernel
theorem dX9_isCritical_27 : decode cX9_isCritical 27 = .ok (.iload_n 1, 1) := by decide +kernel
theorem dX9_isCritical_28 : decode cX9_isCritical 28 = .ok (.invokevirtual 342, 3) := by decide +kernel
theorem dX9_isCritical_31 : decode cX9_isCritical 31 = .ok (.aload_n 0, 1) := by decide +kernel
theorem dX9_isCritical_32 : decode cX9_isCritical 32 = .ok (.iconst 1, 1) := by decide +kernel
theorem dX9_isCritical_33 : decode cX9_isCritical 33 = .ok (.invokevirtual 333, 3) := by decide +kernel
theorem dX9_isCritical_36 : decode cX9_isCritical 36 = .ok (.istore_n 2, 1) := by decide +kernel
theorem dX9_isCritical_37 : decode cX9_isCritical 37 = .ok (.aload_n 0, 1) := by decide +kernel
theorem dX9_isCritical_38 : decode cX9_isCritical 38 = .ok (.invokevirtual 188, 3) := by decide +kernel
theorem dX9_isCritical_41 : decode cX9_isCritical 41 = .ok (.iload_n 2, 1) := by decide +kernel
theorem dX9_isCritical_42 : decode cX9_isCritical 42 = .ok (.ireturn, 1) := by decide +kernel
theorem dX9_restOf_0 : decode cX9_restOf 0 = .ok (.iload_n 2, 1) := by decide +kernel
theorem dX9_restOf_1 : decode cX9_restOf 1 = .ok (.aload_n 0, 1) := by decide +kernel
theorem dX9_restOf_2 : decode cX9_restOf 2 = .ok (.iload_n 1, 1) := by decide +kernel
theorem dX9_restOf_3 : decode cX9_restOf 3 = .ok (.iconst 4, 1) := by decide +kernel
theorem dX9_restOf_4 : decode cX9_restOf 4 = .ok (.invokevirtual 200, 3) := by decide +kernel
theorem dX9_restOf_7 : decode cX9_restOf 7 = .ok (.imul, 1) := by decide +kernel
theorem dX9_restOf_8 : decode cX9_restOf 8 = .ok (.iload_n 3, 1) := by decide +kernel
theorem dX9_restOf_9 : decode cX9_restOf 9 = .ok (.irem, 1) := by decide +kernel
theorem dX9_restOf_10 : decode cX9_restOf 10 = .ok (.ireturn, 1) := by decide +kernel
theorem dX9_share_0 : decode cX9_share 0 = .ok (.aload_n 0, 1) := by decide +kernel
theorem dX9_share_1 : decode cX9_share 1 = .ok (.aload_n 0, 1) := by decide +kernel
theorem dX9_share_2 : decode cX9_share 2 = .ok (.iload_n 1, 1) := by decide +kernel
theorem dX9_share_3 : decode cX9_share 3 = .ok (.invokevirtual 194, 3) := by decide +kernel
theorem dX9_share_6 : decode cX9_share 6 = .ok (.iload_n 2, 1) := by decide +kernel
theorem dX9_share_7 : decode cX9_share 7 = .ok (.iconst 0, 1) := by decide +kernel
theorem dX9_share_8 : decode cX9_share 8 = .ok (.sipush 999, 3) := by decide +kernel
theorem dX9_share_11 : decode cX9_share 11 = .ok (.invokestatic 121, 3) := by decide +kernel
theorem dX9_share_14 : decode cX9_share 14 = .ok (.invokevirtual 197, 3) := by decide +kernel
theorem dX9_share_17 : decode cX9_share 17 = .ok (.ifCond .eq 10, 3) := by decide +kernel
theorem dX9_share_20 : decode cX9_share 20 = .ok (.aload_n 0, 1) := by decide +kernel
theorem dX9_share_21 : decode cX9_share 21 = .ok (.invokevirtual 224, 3) := by decide +kernel
theorem dX9_share_24 : decode cX9_share 24 = .ok (.ifCond .ne 5, 3) := by decide +kernel
theorem dX9_share_27 : decode cX9_share 27 = .ok (.iconst 0, 1) := by decide +kernel
theorem dX9_share_28 : decode cX9_share 28 = .ok (.ireturn, 1) := by decide +kernel
theorem dX9_share_29 : decode cX9_share 29 = .ok (.aload_n 0, 1) := by decide +kernel
theorem dX9_share_30 : decode cX9_share 30 = .ok (.invokevirtual 224, 3) := by decide +kernel
theorem dX9_share_33 : decode cX9_share 33 = .ok (.istore_n 3, 1) := by decide +kernel
theorem dX9_share_34 : decode cX9_share 34 = .ok (.iload_n 2, 1) := by decide +kernel
theorem dX9_share_35 : decode cX9_share 35 = .ok (.istore 4, 2) := by decide +kernel
theorem dX9_share_37 : decode cX9_share 37 = .ok (.iconst 0, 1) := by decide +kernel
theorem dX9_share_38 : decode cX9_share 38 = .ok (.istore 5, 2) := by decide +kernel
theorem dX9_share_40 : decode cX9_share 40 = .ok (.aload_n 0, 1) := by decide +kernel
theorem dX9_share_41 : decode cX9_share 41 = .ok (.iload_n 1, 1) := by decide +kernel
theorem dX9_share_42 : decode cX9_share 42 = .ok (.iload_n 2, 1) := by decide +kernel
theorem dX9_share_43 : decode cX9_share 43 = .ok (.iload_n 3, 1) := by decide +kernel
theorem dX9_share_44 : decode cX9_share 44 = .ok (.invokevirtual 345, 3) := by decide +kernel
theorem dX9_share_47 : decode cX9_share 47 = .ok (.istore 6, 2) := by decide +kernel
theorem dX9_share_49 : decode cX9_share 49 = .ok (.iconst 0, 1) := by decide +kernel
theorem dX9_share_50 : decode cX9_share 50 = .ok (.istore 7, 2) := by decide +kernel
theorem dX9_share_52 : decode cX9_share 52 = .ok (.iload 7, 2) := by decide +kernel
theorem dX9_share_54 : decode cX9_share 54 = .ok (.aload_n 0, 1) := by decide +kernel
theorem dX9_share_55 : decode cX9_share 55 = .ok (.getfield 7, 3) := by decide +kernel
theorem dX9_share_58 : decode cX9_share 58 = .ok (.bipush 20, 2) := by decide +kernel
theorem dX9_share_60 : decode cX9_share 60 = .ok (.iaload, 1) := by decide +kernel
theorem dX9_share_61 : decode cX9_share 61 = .ok (.if_icmp .ge 58, 3) := by decide +kernel
theorem dX9_share_64 : decode cX9_share 64 = .ok (.iload 4, 2) := by decide +kernel
theorem dX9_share_66 : decode cX9_share 66 = .ok (.iload_n 2, 1) := by decide +kernel
theorem dX9_share_67 : decode cX9_share 67 = .ok (.aload_n 0, 1) := by decide +kernel
theorem dX9_share_68 : decode cX9_share 68 = .ok (.iload 7, 2) := by decide +kernel
theorem dX9_share_70 : decode cX9_share 70 = .ok (.iconst 4, 1) := by decide +kernel
theorem dX9_share_71 : decode cX9_share 71 = .ok (.invokevirtual 200, 3) := by decide +kernel
theorem dX9_share_74 : decode cX9_share 74 = .ok (.imul, 1) := by decide +kernel
theorem dX9_share_75 : decode cX9_share 75 = .ok (.iload_n 3, 1) := by decide +kernel
theorem dX9_share_76 : decode cX9_share 76 = .ok (.idiv, 1) := by decide +kernel
theorem dX9_share_77 : decode cX9_share 77 = .ok (.isub, 1) := by decide +kernel
theorem dX9_share_78 : decode cX9_share 78 = .ok (.istore 4, 2) := by decide +kernel
theorem dX9_share_80 : decode cX9_share 80 = .ok (.aload_n 0, 1) := by decide +kernel
theorem dX9_share_81 : decode cX9_share 81 = .ok (.iload 7, 2) := by decide +kernel
theorem dX9_share_83 : decode cX9_share 83 = .ok (.iload_n 2, 1) := by decide +kernel
theorem dX9_share_84 : decode cX9_share 84 = .ok (.iload_n 3, 1) := by decide +kernel
theorem dX9_share_85 : decode cX9_share 85 = .ok (.invokevirtual 345, 3) := by decide +kernel
theorem dX9_share_88 : decode cX9_share 88 = .ok (.istore 8, 2) := by decide +kernel
theorem dX9_share_90 : decode cX9_share 90 = .ok (.iload 8, 2) := by decide +kernel
theorem dX9_share_92 : decode cX9_share 92 = .ok (.iload 6, 2) := by decide +kernel
theorem dX9_share_94 : decode cX9_share 94 = .ok (.if_icmp .gt 16, 3) := by decide +kernel
theorem dX9_share_97 : decode cX9_share 97 = .ok (.iload 8, 2) := by decide +kernel
theorem dX9_share_99 : decode cX9_share 99 = .ok (.iload 6, 2) := by decide +kernel
theorem dX9_share_101 : decode cX9_share 101 = .ok (.if_icmp .ne 12, 3) := by decide +kernel
theorem dX9_share_104 : decode cX9_share 104 = .ok (.iload 7, 2) := by decide +kernel
theorem dX9_share_106 : decode cX9_share 106 = .ok (.iload_n 1, 1) := by decide +kernel
theorem dX9_share_107 : decode cX9_share 107 = .ok (.if_icmp .ge 6, 3) := by decide +kernel
theorem dX9_share_110 : decode cX9_share 110 = .ok (.iinc 5 1, 3) := by decide +kernel
theorem dX9_share_113 : decode cX9_share 113 = .ok (.iinc 7 1, 3) := by decide +kernel
theorem dX9_share_116 : decode cX9_share 116 = .ok (.goto (-64), 3) := by decide +kernel
theorem dX9_share_119 : decode cX9_share 119 = .ok (.iload_n 2, 1) := by decide +kernel
theorem dX9_share_120 : decode cX9_share 120 = .ok (.aload_n 0, 1) := by decide +kernel
theorem dX9_share_121 : decode cX9_share 121 = .ok (.iload_n 1, 1) := by decide +kernel
theorem dX9_share_122 : decode cX9_share 122 = .ok (.iconst 4, 1) := by decide +kernel
theorem dX9_share_123 : decode cX9_share 123 = .ok (.invokevirtual 200, 3) := by decide +kernel
theorem dX9_share_126 : decode cX9_share 126 = .ok (.imul, 1) := by decide +kernel
theorem dX9_share_127 : decode cX9_share 127 = .ok (.iload_n 3, 1) := by decide +kernel
theorem dX9_share_128 : decode cX9_share 128 = .ok (.idiv, 1) := by decide +kernel
theorem dX9_share_129 : decode cX9_share 129 = .ok (.iload 5, 2) := by decide +kernel
theorem dX9_share_131 : decode cX9_share 131 = .ok (.iload 4, 2) := by decide +kernel
theorem dX9_share_133 : decode cX9_share 133 = .ok (.if_icmp .ge 7, 3) := by decide +kernel
theorem dX9_share_136 : decode cX9_share 136 = .ok (.iconst 1, 1) := by decide +kernel
theorem dX9_share_137 : decode cX9_share 137 = .ok (.goto 4, 3) := by decide +kernel
theorem dX9_share_140 : decode cX9_share 140 = .ok (.iconst 0, 1) := by decide +kernel
theorem dX9_share_141 : decode cX9_share 141 = .ok (.iadd, 1) := by decide +kernel
theorem dX9_share_142 : decode cX9_share 142 = .ok (.ireturn, 1) := by decide +kernel
theorem dX9_move_0 : decode cX9_move 0 = .ok (.aload_n 0, 1) := by decide +kernel
theorem dX9_move_1 : decode cX9_move 1 = .ok (.aload_n 0, 1) := by decide +kernel
theorem dX9_move_2 : decode cX9_move 2 = .ok (.iload_n 1, 1) := by decide +kernel
theorem dX9_move_3 : decode cX9_move 3 = .ok (.invokevirtual 191, 3) := by decide +kernel
theorem dX9_move_6 : decode cX9_move 6 = .ok (.aload_n 0, 1) := by decide +kernel
theorem dX9_move_7 : decode cX9_move 7 = .ok (.iload_n 2, 1) := by decide +kernel
theorem dX9_move_8 : decode cX9_move 8 = .ok (.invokevirtual 267, 3) := by decide +kernel
theorem dX9_move_11 : decode cX9_move 11 = .ok (.invokevirtual 197, 3) := by decide +kernel
theorem dX9_move_14 : decode cX9_move 14 = .ok (.ifCond .ne 5, 3) := by decide +kernel
theorem dX9_move_17 : decode cX9_move 17 = .ok (.iconst 0, 1) := by decide +kernel
theorem dX9_move_18 : decode cX9_move 18 = .ok (.ireturn, 1) := by decide +kernel
theorem dX9_move_19 : decode cX9_move 19 = .ok (.aload_n 0, 1) := by decide +kernel
theorem dX9_move_20 : decode cX9_move 20 = .ok (.invokevirtual 349, 3) := by decide +kernel
theorem dX9_move_23 : decode cX9_move 23 = .ok (.aload_n 0, 1) := by decide +kernel
theorem dX9_move_24 : decode cX9_move 24 = .ok (.getfield 7, 3) := by decide +kernel
theorem dX9_move_27 : decode cX9_move 27 = .ok (.bipush 14, 2) := by decide +kernel
theorem dX9_move_29 : decode cX9_move 29 = .ok (.iload_n 1, 1) := by decide +kernel
theorem dX9_move_30 : decode cX9_move 30 = .ok (.iadd, 1) := by decide +kernel
theorem dX9_move_31 : decode cX9_move 31 = .ok (.iload_n 2, 1) := by decide +kernel
theorem dX9_move_32 : decode cX9_move 32 = .ok (.iastore, 1) := by decide +kernel
theorem dX9_move_33 : decode cX9_move 33 = .ok (.aload_n 0, 1) := by decide +kernel
theorem dX9_move_34 : decode cX9_move 34 = .ok (.invokevirtual 218, 3) := by decide +kernel
theorem dX9_move_37 : decode cX9_move 37 = .ok (.ireturn, 1) := by decide +kernel
theorem dX9_shift_0 : decode cX9_shift 0 = .ok (.aload_n 0, 1) := by decide +kernel
theorem dX9_shift_1 : decode cX9_shift 1 = .ok (.iconst 0, 1) := by decide +kernel
theorem dX9_shift_2 : decode cX9_shift 2 = .ok (.putfield 54, 3) := by decide +kernel
theorem dX9_shift_5 : decode cX9_shift 5 = .ok (.aload_n 0, 1) := by decide +kernel
theorem dX9_shift_6 : decode cX9_shift 6 = .ok (.invokevirtual 349, 3) := by decide +kernel
theorem dX9_shift_9 : decode cX9_shift 9 = .ok (.aload_n 0, 1) := by decide +kernel
theorem dX9_shift_10 : decode cX9_shift 10 = .ok (.iload_n 1, 1) := by decide +kernel
theorem dX9_shift_11 : decode cX9_shift 11 = .ok (.invokevirtual 203, 3) := by decide +kernel
theorem dX9_shift_14 : decode cX9_shift 14 = .ok (.istore_n 2, 1) := by decide +kernel
theorem dX9_shift_15 : decode cX9_shift 15 = .ok (.iconst 0, 1) := by decide +kernel
theorem dX9_shift_16 : decode cX9_shift 16 = .ok (.istore_n 3, 1) := by decide +kernel
theorem dX9_shift_17 : decode cX9_shift 17 = .ok (.iload_n 3, 1) := by decide +kernel
theorem dX9_shift_18 : decode cX9_shift 18 = .ok (.aload_n 0, 1) := by decide +kernel
theorem dX9_shift_19 : decode cX9_shift 19 = .ok (.getfield 7, 3) := by decide +kernel
theorem dX9_shift_22 : decode cX9_shift 22 = .ok (.iconst 1, 1) := by decide +kernel
theorem dX9_shift_23 : decode cX9_shift 23 = .ok (.iaload, 1) := by decide +kernel
theorem dX9_shift_24 : decode cX9_shift 24 = .ok (.if_icmp .ge 33, 3) := by decide +kernel
theorem dX9_shift_27 : decode cX9_shift 27 = .ok (.aload_n 0, 1) := by decide +kernel
theorem dX9_shift_28 : decode cX9_shift 28 = .ok (.getfield 7, 3) := by decide +kernel
theorem dX9_shift_31 : decode cX9_shift 31 = .ok (.bipush 14, 2) := by decide +kernel
theorem dX9_shift_33 : decode cX9_shift 33 = .ok (.iload_n 3, 1) := by decide +kernel
theorem dX9_shift_34 : decode cX9_shift 34 = .ok (.iadd, 1) := by decide +kernel
theorem dX9_shift_35 : decode cX9_shift 35 = .ok (.aload_n 0, 1) := by decide +kernel
theorem dX9_shift_36 : decode cX9_shift 36 = .ok (.aload_n 0, 1) := by decide +kernel
theorem dX9_shift_37 : decode cX9_shift 37 = .ok (.getfield 7, 3) := by decide +kernel
theorem dX9_shift_40 : decode cX9_shift 40 = .ok (.bipush 14, 2) := by decide +kernel
theorem dX9_shift_42 : decode cX9_shift 42 = .ok (.iload_n 3, 1) := by decide +kernel
theorem dX9_shift_43 : decode cX9_shift 43 = .ok (.iadd, 1) := by decide +kernel
theorem dX9_shift_44 : decode cX9_shift 44 = .ok (.iaload, 1) := by decide +kernel
theorem dX9_shift_45 : decode cX9_shift 45 = .ok (.iload_n 2, 1) := by decide +kernel
theorem dX9_shift_46 : decode cX9_shift 46 = .ok (.iadd, 1) := by decide +kernel
theorem dX9_shift_47 : decode cX9_shift 47 = .ok (.invokevirtual 203, 3) := by decide +kernel
theorem dX9_shift_50 : decode cX9_shift 50 = .ok (.iastore, 1) := by decide +kernel
theorem dX9_shift_51 : decode cX9_shift 51 = .ok (.iinc 3 1, 3) := by decide +kernel
theorem dX9_shift_54 : decode cX9_shift 54 = .ok (.goto (-37), 3) := by decide +kernel
theorem dX9_shift_57 : decode cX9_shift 57 = .ok (.aload_n 0, 1) := by decide +kernel
theorem dX9_shift_58 : decode cX9_shift 58 = .ok (.getfield 7, 3) := by decide +kernel
theorem dX9_shift_61 : decode cX9_shift 61 = .ok (.iconst 1, 1) := by decide +kernel
theorem dX9_shift_62 : decode cX9_shift 62 = .ok (.iaload, 1) := by decide +kernel
theorem dX9_shift_63 : decode cX9_shift 63 = .ok (.ifCond .ne 7, 3) := by decide +kernel
theorem dX9_shift_66 : decode cX9_shift 66 = .ok (.iconst (-1), 1) := by decide +kernel
theorem dX9_shift_67 : decode cX9_shift 67 = .ok (.goto 10, 3) := by decide +kernel
theorem dX9_shift_70 : decode cX9_shift 70 = .ok (.aload_n 0, 1) := by decide +kernel
theorem dX9_shift_71 : decode cX9_shift 71 = .ok (.getfield 7, 3) := by decide +kernel
theorem dX9_shift_74 : decode cX9_shift 74 = .ok (.bipush 14, 2) := by decide +kernel
theorem dX9_shift_76 : decode cX9_shift 76 = .ok (.iaload, 1) := by decide +kernel
theorem dX9_shift_77 : decode cX9_shift 77 = .ok (.ireturn, 1) := by decide +kernel
theorem dX9_isRange_0 : decode cX9_isRange 0 = .ok (.iload_n 1, 1) := by decide +kernel
theorem dX9_isRange_1 : decode cX9_isRange 1 = .ok (.iconst 0, 1) := by decide +kernel
theorem dX9_isRange_2 : decode cX9_isRange 2 = .ok (.bipush 48, 2) := by decide +kernel
theorem dX9_isRange_4 : decode cX9_isRange 4 = .ok (.invokestatic 121, 3) := by decide +kernel
theorem dX9_isRange_7 : decode cX9_isRange 7 = .ok (.ifCond .eq 25, 3) := by decide +kernel
theorem dX9_isRange_10 : decode cX9_isRange 10 = .ok (.iload_n 2, 1) := by decide +kernel
theorem dX9_isRange_11 : decode cX9_isRange 11 = .ok (.iload_n 1, 1) := by decide +kernel
theorem dX9_isRange_12 : decode cX9_isRange 12 = .ok (.iload_n 1, 1) := by decide +kernel
theorem dX9_isRange_13 : decode cX9_isRange 13 = .ok (.aload_n 0, 1) := by decide +kernel
theorem dX9_isRange_14 : decode cX9_isRange 14 = .ok (.getfield 7, 3) := by decide +kernel
theorem dX9_isRange_17 : decode cX9_isRange 17 = .ok (.iconst 0, 1) := by decide +kernel
theorem dX9_isRange_18 : decode cX9_isRange 18 = .ok (.iaload, 1) := by decide +kernel
theorem dX9_isRange_19 : decode cX9_isRange 19 = .ok (.iadd, 1) := by decide +kernel
theorem dX9_isRange_20 : decode cX9_isRange 20 = .ok (.iconst 1, 1) := by decide +kernel
theorem dX9_isRange_21 : decode cX9_isRange 21 = .ok (.isub, 1) := by decide +kernel
theorem dX9_isRange_22 : decode cX9_isRange 22 = .ok (.invokestatic 121, 3) := by decide +kernel
theorem dX9_isRange_25 : decode cX9_isRange 25 = .ok (.ifCond .eq 7, 3) := by decide +kernel
theorem dX9_isRange_28 : decode cX9_isRange 28 = .ok (.iconst 1, 1) := by decide +kernel
theorem dX9_isRange_29 : decode cX9_isRange 29 = .ok (.goto 4, 3) := by decide +kernel
theorem dX9_isRange_32 : decode cX9_isRange 32 = .ok (.iconst 0, 1) := by decide +kernel
theorem dX9_isRange_33 : decode cX9_isRange 33 = .ok (.ireturn, 1) := by decide +kernel
theorem dX9_setSpan_0 : decode cX9_setSpan 0 = .ok (.aload_n 0, 1) := by decide +kernel
theorem dX9_setSpan_1 : decode cX9_setSpan 1 = .ok (.aload_n 0, 1) := by decide +kernel
theorem dX9_setSpan_2 : decode cX9_setSpan 2 = .ok (.iload_n 1, 1) := by decide +kernel
theorem dX9_setSpan_3 : decode cX9_setSpan 3 = .ok (.invokevirtual 194, 3) := by decide +kernel
theorem dX9_setSpan_6 : decode cX9_setSpan 6 = .ok (.aload_n 0, 1) := by decide +kernel
theorem dX9_setSpan_7 : decode cX9_setSpan 7 = .ok (.iload_n 2, 1) := by decide +kernel
theorem dX9_setSpan_8 : decode cX9_setSpan 8 = .ok (.iload_n 3, 1) := by decide +kernel
theorem dX9_setSpan_9 : decode cX9_setSpan 9 = .ok (.invokevirtual 352, 3) := by decide +kernel
theorem dX9_setSpan_12 : decode cX9_setSpan 12 = .ok (.invokevirtual 197, 3) := by decide +kernel
theorem dX9_setSpan_15 : decode cX9_setSpan 15 = .ok (.ifCond .ne 5, 3) := by decide +kernel
theorem dX9_setSpan_18 : decode cX9_setSpan 18 = .ok (.iconst 0, 1) := by decide +kernel
theorem dX9_setSpan_19 : decode cX9_setSpan 19 = .ok (.ireturn, 1) := by decide +kernel
theorem dX9_setSpan_20 : decode cX9_setSpan 20 = .ok (.aload_n 0, 1) := by decide +kernel
theorem dX9_setSpan_21 : decode cX9_setSpan 21 = .ok (.invokevirtual 349, 3) := by decide +kernel
theorem dX9_setSpan_24 : decode cX9_setSpan 24 = .ok (.aload_n 0, 1) := by decide +kernel
theorem dX9_setSpan_25 : decode cX9_setSpan 25 = .ok (.getfield 7, 3) := by decide +kernel
theorem dX9_setSpan_28 : decode cX9_setSpan 28 = .ok (.iload_n 1, 1) := by decide +kernel
theorem dX9_setSpan_29 : decode cX9_setSpan 29 = .ok (.invokestatic 150, 3) := by decide +kernel
theorem dX9_setSpan_32 : decode cX9_setSpan 32 = .ok (.iconst 2, 1) := by decide +kernel
theorem dX9_setSpan_33 : decode cX9_setSpan 33 = .ok (.iadd, 1) := by decide +kernel
theorem dX9_setSpan_34 : decode cX9_setSpan 34 = .ok (.iload_n 2, 1) := by decide +kernel
theorem dX9_setSpan_35 : decode cX9_setSpan 35 = .ok (.iastore, 1) := by decide +kernel
theorem dX9_setSpan_36 : decode cX9_setSpan 36 = .ok (.aload_n 0, 1) := by decide +kernel
theorem dX9_setSpan_37 : decode cX9_setSpan 37 = .ok (.getfield 7, 3) := by decide +kernel
theorem dX9_setSpan_40 : decode cX9_setSpan 40 = .ok (.iload_n 1, 1) := by decide +kernel
theorem dX9_setSpan_41 : decode cX9_setSpan 41 = .ok (.invokestatic 150, 3) := by decide +kernel
theorem dX9_setSpan_44 : decode cX9_setSpan 44 = .ok (.iconst 3, 1) := by decide +kernel
theorem dX9_setSpan_45 : decode cX9_setSpan 45 = .ok (.iadd, 1) := by decide +kernel
theorem dX9_setSpan_46 : decode cX9_setSpan 46 = .ok (.iload_n 3, 1) := by decide +kernel
theorem dX9_setSpan_47 : decode cX9_setSpan 47 = .ok (.iastore, 1) := by decide +kernel
theorem dX9_setSpan_48 : decode cX9_setSpan 48 = .ok (.aload_n 0, 1) := by decide +kernel
theorem dX9_setSpan_49 : decode cX9_setSpan 49 = .ok (.iload_n 1, 1) := by decide +kernel
theorem dX9_setSpan_50 : decode cX9_setSpan 50 = .ok (.invokevirtual 212, 3) := by decide +kernel
theorem dX9_setSpan_53 : decode cX9_setSpan 53 = .ok (.ireturn, 1) := by decide +kernel
theorem dX9_isWeight_0 : decode cX9_isWeight 0 = .ok (.iload_n 0, 1) := by decide +kernel
theorem dX9_isWeight_1 : decode cX9_isWeight 1 = .ok (.iconst 0, 1) := by decide +kernel
theorem dX9_isWeight_2 : decode cX9_isWeight 2 = .ok (.bipush 20, 2) := by decide +kernel
theorem dX9_isWeight_4 : decode cX9_isWeight 4 = .ok (.invokestatic 121, 3) := by decide +kernel
theorem dX9_isWeight_7 : decode cX9_isWeight 7 = .ok (.ireturn, 1) := by decide +kernel
theorem dX9_setWeight_0 : decode cX9_setWeight 0 = .ok (.aload_n 0, 1) := by decide +kernel
theorem dX9_setWeight_1 : decode cX9_setWeight 1 = .ok (.aload_n 0, 1) := by decide +kernel
theorem dX9_setWeight_2 : decode cX9_setWeight 2 = .ok (.iload_n 1, 1) := by decide +kernel
theorem dX9_setWeight_3 : decode cX9_setWeight 3 = .ok (.invokevirtual 194, 3) := by decide +kernel
theorem dX9_setWeight_6 : decode cX9_setWeight 6 = .ok (.iload_n 2, 1) := by decide +kernel
theorem dX9_setWeight_7 : decode cX9_setWeight 7 = .ok (.invokestatic 355, 3) := by decide +kernel
theorem dX9_setWeight_10 : decode cX9_setWeight 10 = .ok (.invokevirtual 197, 3) := by decide +kernel
theorem dX9_setWeight_13 : decode cX9_setWeight 13 = .ok (.ifCond .ne 5, 3) := by decide +kernel
theorem dX9_setWeight_16 : decode cX9_setWeight 16 = .ok (.iconst 0, 1) := by decide +kernel
theorem dX9_setWeight_17 : decode cX9_setWeight 17 = .ok (.ireturn, 1) := by decide +kernel
theorem dX9_setWeight_18 : decode cX9_setWeight 18 = .ok (.aload_n 0, 1) := by decide +kernel
theorem dX9_setWeight_19 : decode cX9_setWeight 19 = .ok (.invokevirtual 349, 3) := by decide +kernel
theorem dX9_setWeight_22 : decode cX9_setWeight 22 = .ok (.aload_n 0, 1) := by decide +kernel
theorem dX9_setWeight_23 : decode cX9_setWeight 23 = .ok (.iload_n 1, 1) := by decide +kernel
theorem dX9_setWeight_24 : decode cX9_setWeight 24 = .ok (.iconst 4, 1) := by decide +kernel
theorem dX9_setWeight_25 : decode cX9_setWeight 25 = .ok (.invokevirtual 200, 3) := by decide +kernel
theorem dX9_setWeight_28 : decode cX9_setWeight 28 = .ok (.istore_n 3, 1) := by decide +kernel
theorem dX9_setWeight_29 : decode cX9_setWeight 29 = .ok (.aload_n 0, 1) := by decide +kernel
theorem dX9_setWeight_30 : decode cX9_setWeight 30 = .ok (.getfield 7, 3) := by decide +kernel
theorem dX9_setWeight_33 : decode cX9_setWeight 33 = .ok (.iload_n 1, 1) := by decide +kernel
theorem dX9_setWeight_34 : decode cX9_setWeight 34 = .ok (.invokestatic 150, 3) := by decide +kernel
theorem dX9_setWeight_37 : decode cX9_setWeight 37 = .ok (.iconst 4, 1) := by decide +kernel
theorem dX9_setWeight_38 : decode cX9_setWeight 38 = .ok (.iadd, 1) := by decide +kernel
theorem dX9_setWeight_39 : decode cX9_setWeight 39 = .ok (.iload_n 2, 1) := by decide +kernel
theorem dX9_setWeight_40 : decode cX9_setWeight 40 = .ok (.iastore, 1) := by decide +kernel
theorem dX9_setWeight_41 : decode cX9_setWeight 41 = .ok (.iload_n 3, 1) := by decide +kernel
theorem dX9_setWeight_42 : decode cX9_setWeight 42 = .ok (.ireturn, 1) := by decide +kernel
theorem dX9_addSpan_0 : decode cX9_addSpan 0 = .ok (.iload_n 1, 1) := by decide +kernel
theorem dX9_addSpan_1 : decode cX9_addSpan 1 = .ok (.iload_n 2, 1) := by decide +kernel
theorem dX9_addSpan_2 : decode cX9_addSpan 2 = .ok (.if_icmp .eq 25, 3) := by decide +kernel
theorem dX9_addSpan_5 : decode cX9_addSpan 5 = .ok (.aload_n 0, 1) := by decide +kernel
theorem dX9_addSpan_6 : decode cX9_addSpan 6 = .ok (.iload_n 3, 1) := by decide +kernel
theorem dX9_addSpan_7 : decode cX9_addSpan 7 = .ok (.iload 4, 2) := by decide +kernel
theorem dX9_addSpan_9 : decode cX9_addSpan 9 = .ok (.invokevirtual 352, 3) := by decide +kernel
theorem dX9_addSpan_12 : decode cX9_addSpan 12 = .ok (.ifCond .eq 15, 3) := by decide +kernel
theorem dX9_addSpan_15 : decode cX9_addSpan 15 = .ok (.iload 5, 2) := by decide +kernel
theorem dX9_addSpan_17 : decode cX9_addSpan 17 = .ok (.invokestatic 355, 3) := by decide +kernel
theorem dX9_addSpan_20 : decode cX9_addSpan 20 = .ok (.ifCond .eq 7, 3) := by decide +kernel
theorem dX9_addSpan_23 : decode cX9_addSpan 23 = .ok (.iconst 1, 1) := by decide +kernel
theorem dX9_addSpan_24 : decode cX9_addSpan 24 = .ok (.goto 4, 3) := by decide +kernel
theorem dX9_addSpan_27 : decode cX9_addSpan 27 = .ok (.iconst 0, 1) := by decide +kernel
theorem dX9_addSpan_28 : decode cX9_addSpan 28 = .ok (.istore 6, 2) := by decide +kernel
theorem dX9_addSpan_30 : decode cX9_addSpan 30 = .ok (.aload_n 0, 1) := by decide +kernel
theorem dX9_addSpan_31 : decode cX9_addSpan 31 = .ok (.aload_n 0, 1) := by decide +kernel
theorem dX9_addSpan_32 : decode cX9_addSpan 32 = .ok (.iload_n 1, 1) := by decide +kernel
theorem dX9_addSpan_33 : decode cX9_addSpan 33 = .ok (.iload_n 2, 1) := by decide +kernel
theorem dX9_addSpan_34 : decode cX9_addSpan 34 = .ok (.invokevirtual 258, 3) := by decide +kernel
theorem dX9_addSpan_37 : decode cX9_addSpan 37 = .ok (.iload 6, 2) := by decide +kernel
theorem dX9_addSpan_39 : decode cX9_addSpan 39 = .ok (.aload_n 0, 1) := by decide +kernel
theorem dX9_addSpan_40 : decode cX9_addSpan 40 = .ok (.getfield 7, 3) := by decide +kernel
theorem dX9_addSpan_43 : decode cX9_addSpan 43 = .ok (.bipush 20, 2) := by decide +kernel
theorem dX9_addSpan_45 : decode cX9_addSpan 45 = .ok (.iaload, 1) := by decide +kernel
theorem dX9_addSpan_46 : decode cX9_addSpan 46 = .ok (.bipush 14, 2) := by decide +kernel
theorem dX9_addSpan_48 : decode cX9_addSpan 48 = .ok (.if_icmp .ge 7, 3) := by decide +kernel
theorem dX9_addSpan_51 : decode cX9_addSpan 51 = .ok (.iconst 1, 1) := by decide +kernel
theorem dX9_addSpan_52 : decode cX9_addSpan 52 = .ok (.goto 4, 3) := by decide +kernel
theorem dX9_addSpan_55 : decode cX9_addSpan 55 = .ok (.iconst 0, 1) := by decide +kernel
theorem dX9_addSpan_56 : decode cX9_addSpan 56 = .ok (.invokevirtual 57, 3) := by decide +kernel
theorem dX9_addSpan_59 : decode cX9_addSpan 59 = .ok (.ifCond .ne 5, 3) := by decide +kernel
theorem dX9_addSpan_62 : decode cX9_addSpan 62 = .ok (.iconst 0, 1) := by decide +kernel
theorem dX9_addSpan_63 : decode cX9_addSpan 63 = .ok (.ireturn, 1) := by decide +kernel
theorem dX9_addSpan_64 : decode cX9_addSpan 64 = .ok (.aload_n 0, 1) := by decide +kernel
theorem dX9_addSpan_65 : decode cX9_addSpan 65 = .ok (.invokevirtual 349, 3) := by decide +kernel
theorem dX9_addSpan_68 : decode cX9_addSpan 68 = .ok (.aload_n 0, 1) := by decide +kernel
theorem dX9_addSpan_69 : decode cX9_addSpan 69 = .ok (.getfield 7, 3) := by decide +kernel
theorem dX9_addSpan_72 : decode cX9_addSpan 72 = .ok (.bipush 20, 2) := by decide +kernel
theorem dX9_addSpan_74 : decode cX9_addSpan 74 = .ok (.iaload, 1) := by decide +kernel
theorem dX9_addSpan_75 : decode cX9_addSpan 75 = .ok (.istore 7, 2) := by decide +kernel
theorem dX9_addSpan_77 : decode cX9_addSpan 77 = .ok (.aload_n 0, 1) := by decide +kernel
theorem dX9_addSpan_78 : decode cX9_addSpan 78 = .ok (.getfield 7, 3) := by decide +kernel
theorem dX9_addSpan_81 : decode cX9_addSpan 81 = .ok (.bipush 20, 2) := by decide +kernel
theorem dX9_addSpan_83 : decode cX9_addSpan 83 = .ok (.dup2, 1) := by decide +kernel
theorem dX9_addSpan_84 : decode cX9_addSpan 84 = .ok (.iaload, 1) := by decide +kernel
theorem dX9_addSpan_85 : decode cX9_addSpan 85 = .ok (.iconst 1, 1) := by decide +kernel
theorem dX9_addSpan_86 : decode cX9_addSpan 86 = .ok (.iadd, 1) := by decide +kernel
theorem dX9_addSpan_87 : decode cX9_addSpan 87 = .ok (.iastore, 1) := by decide +kernel
theorem dX9_addSpan_88 : decode cX9_addSpan 88 = .ok (.aload_n 0, 1) := by decide +kernel
theorem dX9_addSpan_89 : decode cX9_addSpan 89 = .ok (.getfield 7, 3) := by decide +kernel
theorem dX9_addSpan_92 : decode cX9_addSpan 92 = .ok (.iload 7, 2) := by decide +kernel
theorem dX9_addSpan_94 : decode cX9_addSpan 94 = .ok (.invokestatic 150, 3) := by decide +kernel
theorem dX9_addSpan_97 : decode cX9_addSpan 97 = .ok (.iconst 0, 1) := by decide +kernel
theorem dX9_addSpan_98 : decode cX9_addSpan 98 = .ok (.iadd, 1) := by decide +kernel
theorem dX9_addSpan_99 : decode cX9_addSpan 99 = .ok (.iload_n 1, 1) := by decide +kernel
theorem dX9_addSpan_100 : decode cX9_addSpan 100 = .ok (.iastore, 1) := by decide +kernel
theorem dX9_addSpan_101 : decode cX9_addSpan 101 = .ok (.aload_n 0, 1) := by decide +kernel
theorem dX9_addSpan_102 : decode cX9_addSpan 102 = .ok (.getfield 7, 3) := by decide +kernel
theorem dX9_addSpan_105 : decode cX9_addSpan 105 = .ok (.iload 7, 2) := by decide +kernel
theorem dX9_addSpan_107 : decode cX9_addSpan 107 = .ok (.invokestatic 150, 3) := by decide +kernel
theorem dX9_addSpan_110 : decode cX9_addSpan 110 = .ok (.iconst 1, 1) := by decide +kernel
theorem dX9_addSpan_111 : decode cX9_addSpan 111 = .ok (.iadd, 1) := by decide +kernel
theorem dX9_addSpan_112 : decode cX9_addSpan 112 = .ok (.iload_n 2, 1) := by decide +kernel
theorem dX9_addSpan_113 : decode cX9_addSpan 113 = .ok (.iastore, 1) := by decide +kernel
theorem dX9_addSpan_114 : decode cX9_addSpan 114 = .ok (.aload_n 0, 1) := by decide +kernel
theorem dX9_addSpan_115 : decode cX9_addSpan 115 = .ok (.getfield 7, 3) := by decide +kernel
theorem dX9_addSpan_118 : decode cX9_addSpan 118 = .ok (.iload 7, 2) := by decide +kernel
theorem dX9_addSpan_120 : decode cX9_addSpan 120 = .ok (.invokestatic 150, 3) := by decide +kernel
theorem dX9_addSpan_123 : decode cX9_addSpan 123 = .ok (.iconst 2, 1) := by decide +kernel
theorem dX9_addSpan_124 : decode cX9_addSpan 124 = .ok (.iadd, 1) := by decide +kernel
theorem dX9_addSpan_125 : decode cX9_addSpan 125 = .ok (.iload_n 3, 1) := by decide +kernel
theorem dX9_addSpan_126 : decode cX9_addSpan 126 = .ok (.iastore, 1) := by decide +kernel
theorem dX9_addSpan_127 : decode cX9_addSpan 127 = .ok (.aload_n 0, 1) := by decide +kernel
theorem dX9_addSpan_128 : decode cX9_addSpan 128 = .ok (.getfield 7, 3) := by decide +kernel
theorem dX9_addSpan_131 : decode cX9_addSpan 131 = .ok (.iload 7, 2) := by decide +kernel
theorem dX9_addSpan_133 : decode cX9_addSpan 133 = .ok (.invokestatic 150, 3) := by decide +kernel
theorem dX9_addSpan_136 : decode cX9_addSpan 136 = .ok (.iconst 3, 1) := by decide +kernel
theorem dX9_addSpan_137 : decode cX9_addSpan 137 = .ok (.iadd, 1) := by decide +kernel
theorem dX9_addSpan_138 : decode cX9_addSpan 138 = .ok (.iload 4, 2) := by decide +kernel
theorem dX9_addSpan_140 : decode cX9_addSpan 140 = .ok (.iastore, 1) := by decide +kernel
theorem dX9_addSpan_141 : decode cX9_addSpan 141 = .ok (.aload_n 0, 1) := by decide +kernel
theorem dX9_addSpan_142 : decode cX9_addSpan 142 = .ok (.getfield 7, 3) := by decide +kernel
theorem dX9_addSpan_145 : decode cX9_addSpan 145 = .ok (.iload 7, 2) := by decide +kernel
theorem dX9_addSpan_147 : decode cX9_addSpan 147 = .ok (.invokestatic 150, 3) := by decide +kernel
theorem dX9_addSpan_150 : decode cX9_addSpan 150 = .ok (.iconst 4, 1) := by decide +kernel
theorem dX9_addSpan_151 : decode cX9_addSpan 151 = .ok (.iadd, 1) := by decide +kernel
theorem dX9_addSpan_152 : decode cX9_addSpan 152 = .ok (.iload 5, 2) := by decide +kernel
theorem dX9_addSpan_154 : decode cX9_addSpan 154 = .ok (.iastore, 1) := by decide +kernel
theorem dX9_addSpan_155 : decode cX9_addSpan 155 = .ok (.iload 7, 2) := by decide +kernel
theorem dX9_addSpan_157 : decode cX9_addSpan 157 = .ok (.ireturn, 1) := by decide +kernel
theorem dX9_removeSpan_0 : decode cX9_removeSpan 0 = .ok (.aload_n 0, 1) := by decide +kernel
theorem dX9_removeSpan_1 : decode cX9_removeSpan 1 = .ok (.aload_n 0, 1) := by decide +kernel
theorem dX9_removeSpan_2 : decode cX9_removeSpan 2 = .ok (.iload_n 1, 1) := by decide +kernel
theorem dX9_removeSpan_3 : decode cX9_removeSpan 3 = .ok (.invokevirtual 194, 3) := by decide +kernel
theorem dX9_removeSpan_6 : decode cX9_removeSpan 6 = .ok (.invokevirtual 176, 3) := by decide +kernel
theorem dX9_removeSpan_9 : decode cX9_removeSpan 9 = .ok (.ifCond .ne 5, 3) := by decide +kernel
theorem dX9_removeSpan_12 : decode cX9_removeSpan 12 = .ok (.iconst 0, 1) := by decide +kernel
theorem dX9_removeSpan_13 : decode cX9_removeSpan 13 = .ok (.ireturn, 1) := by decide +kernel
theorem dX9_removeSpan_14 : decode cX9_removeSpan 14 = .ok (.aload_n 0, 1) := by decide +kernel
theorem dX9_removeSpan_15 : decode cX9_removeSpan 15 = .ok (.invokevirtual 349, 3) := by decide +kernel
theorem dX9_removeSpan_18 : decode cX9_removeSpan 18 = .ok (.aload_n 0, 1) := by decide +kernel
theorem dX9_removeSpan_19 : decode cX9_removeSpan 19 = .ok (.iload_n 1, 1) := by decide +kernel
theorem dX9_removeSpan_20 : decode cX9_removeSpan 20 = .ok (.invokevirtual 342, 3) := by decide +kernel
theorem dX9_removeSpan_23 : decode cX9_removeSpan 23 = .ok (.aload_n 0, 1) := by decide +kernel
theorem dX9_removeSpan_24 : decode cX9_removeSpan 24 = .ok (.getfield 7, 3) := by decide +kernel
theorem dX9_removeSpan_27 : decode cX9_removeSpan 27 = .ok (.bipush 20, 2) := by decide +kernel
theorem dX9_removeSpan_29 : decode cX9_removeSpan 29 = .ok (.iaload, 1) := by decide +kernel
theorem dX9_removeSpan_30 : decode cX9_removeSpan 30 = .ok (.ireturn, 1) := by decide +kernel
theorem dX9_allFit_0 : decode cX9_allFit 0 = .ok (.iconst 1, 1) := by decide +kernel
theorem dX9_allFit_1 : decode cX9_allFit 1 = .ok (.istore_n 2, 1) := by decide +kernel
theorem dX9_allFit_2 : decode cX9_allFit 2 = .ok (.iconst 0, 1) := by decide +kernel
theorem dX9_allFit_3 : decode cX9_allFit 3 = .ok (.istore_n 3, 1) := by decide +kernel
theorem dX9_allFit_4 : decode cX9_allFit 4 = .ok (.iload_n 3, 1) := by decide +kernel
theorem dX9_allFit_5 : decode cX9_allFit 5 = .ok (.aload_n 0, 1) := by decide +kernel
theorem dX9_allFit_6 : decode cX9_allFit 6 = .ok (.getfield 7, 3) := by decide +kernel
theorem dX9_allFit_9 : decode cX9_allFit 9 = .ok (.bipush 20, 2) := by decide +kernel
theorem dX9_allFit_11 : decode cX9_allFit 11 = .ok (.iaload, 1) := by decide +kernel
theorem dX9_allFit_12 : decode cX9_allFit 12 = .ok (.if_icmp .ge 38, 3) := by decide +kernel
theorem dX9_allFit_15 : decode cX9_allFit 15 = .ok (.iload_n 2, 1) := by decide +kernel
theorem dX9_allFit_16 : decode cX9_allFit 16 = .ok (.ifCond .eq 26, 3) := by decide +kernel
theorem dX9_allFit_19 : decode cX9_allFit 19 = .ok (.aload_n 0, 1) := by decide +kernel
theorem dX9_allFit_20 : decode cX9_allFit 20 = .ok (.iload_n 3, 1) := by decide +kernel
theorem dX9_allFit_21 : decode cX9_allFit 21 = .ok (.iconst 3, 1) := by decide +kernel
theorem dX9_allFit_22 : decode cX9_allFit 22 = .ok (.invokevirtual 200, 3) := by decide +kernel
theorem dX9_allFit_25 : decode cX9_allFit 25 = .ok (.aload_n 0, 1) := by decide +kernel
theorem dX9_allFit_26 : decode cX9_allFit 26 = .ok (.iload_n 3, 1) := by decide +kernel
theorem dX9_allFit_27 : decode cX9_allFit 27 = .ok (.iconst 2, 1) := by decide +kernel
theorem dX9_allFit_28 : decode cX9_allFit 28 = .ok (.invokevirtual 200, 3) := by decide +kernel
theorem dX9_allFit_31 : decode cX9_allFit 31 = .ok (.iload_n 1, 1) := by decide +kernel
theorem dX9_allFit_32 : decode cX9_allFit 32 = .ok (.iadd, 1) := by decide +kernel
theorem dX9_allFit_33 : decode cX9_allFit 33 = .ok (.iconst 1, 1) := by decide +kernel
theorem dX9_allFit_34 : decode cX9_allFit 34 = .ok (.isub, 1) := by decide +kernel
theorem dX9_allFit_35 : decode cX9_allFit 35 = .ok (.if_icmp .gt 7, 3) := by decide +kernel
theorem dX9_allFit_38 : decode cX9_allFit 38 = .ok (.iconst 1, 1) := by decide +kernel
theorem dX9_allFit_39 : decode cX9_allFit 39 = .ok (.goto 4, 3) := by decide +kernel
theorem dX9_allFit_42 : decode cX9_allFit 42 = .ok (.iconst 0, 1) := by decide +kernel
theorem dX9_allFit_43 : decode cX9_allFit 43 = .ok (.istore_n 2, 1) := by decide +kernel
theorem dX9_allFit_44 : decode cX9_allFit 44 = .ok (.iinc 3 1, 3) := by decide +kernel
theorem dX9_allFit_47 : decode cX9_allFit 47 = .ok (.goto (-43), 3) := by decide +kernel
theorem dX9_allFit_50 : decode cX9_allFit 50 = .ok (.iload_n 2, 1) := by decide +kernel
theorem dX9_allFit_51 : decode cX9_allFit 51 = .ok (.ireturn, 1) := by decide +kernel
theorem dX9_setPeriod_0 : decode cX9_setPeriod 0 = .ok (.iload_n 1, 1) := by decide +kernel
theorem dX9_setPeriod_1 : decode cX9_setPeriod 1 = .ok (.iconst 2, 1) := by decide +kernel
theorem dX9_setPeriod_2 : decode cX9_setPeriod 2 = .ok (.bipush 24, 2) := by decide +kernel
theorem dX9_setPeriod_4 : decode cX9_setPeriod 4 = .ok (.invokestatic 121, 3) := by decide +kernel
theorem dX9_setPeriod_7 : decode cX9_setPeriod 7 = .ok (.istore_n 2, 1) := by decide +kernel
theorem dX9_setPeriod_8 : decode cX9_setPeriod 8 = .ok (.aload_n 0, 1) := by decide +kernel
theorem dX9_setPeriod_9 : decode cX9_setPeriod 9 = .ok (.iload_n 2, 1) := by decide +kernel
theorem dX9_setPeriod_10 : decode cX9_setPeriod 10 = .ok (.iload_n 2, 1) := by decide +kernel
theorem dX9_setPeriod_11 : decode cX9_setPeriod 11 = .ok (.ifCond .eq 15, 3) := by decide +kernel
theorem dX9_setPeriod_14 : decode cX9_setPeriod 14 = .ok (.aload_n 0, 1) := by decide +kernel
theorem dX9_setPeriod_15 : decode cX9_setPeriod 15 = .ok (.iload_n 1, 1) := by decide +kernel
theorem dX9_setPeriod_16 : decode cX9_setPeriod 16 = .ok (.invokevirtual 358, 3) := by decide +kernel
theorem dX9_setPeriod_19 : decode cX9_setPeriod 19 = .ok (.ifCond .eq 7, 3) := by decide +kernel
theorem dX9_setPeriod_22 : decode cX9_setPeriod 22 = .ok (.iconst 1, 1) := by decide +kernel
theorem dX9_setPeriod_23 : decode cX9_setPeriod 23 = .ok (.goto 4, 3) := by decide +kernel
theorem dX9_setPeriod_26 : decode cX9_setPeriod 26 = .ok (.iconst 0, 1) := by decide +kernel
theorem dX9_setPeriod_27 : decode cX9_setPeriod 27 = .ok (.invokevirtual 197, 3) := by decide +kernel
theorem dX9_setPeriod_30 : decode cX9_setPeriod 30 = .ok (.ifCond .ne 5, 3) := by decide +kernel
theorem dX9_setPeriod_33 : decode cX9_setPeriod 33 = .ok (.iconst 0, 1) := by decide +kernel
theorem dX9_setPeriod_34 : decode cX9_setPeriod 34 = .ok (.ireturn, 1) := by decide +kernel
theorem dX9_setPeriod_35 : decode cX9_setPeriod 35 = .ok (.aload_n 0, 1) := by decide +kernel
theorem dX9_setPeriod_36 : decode cX9_setPeriod 36 = .ok (.invokevirtual 349, 3) := by decide +kernel
theorem dX9_setPeriod_39 : decode cX9_setPeriod 39 = .ok (.aload_n 0, 1) := by decide +kernel
theorem dX9_setPeriod_40 : decode cX9_setPeriod 40 = .ok (.getfield 7, 3) := by decide +kernel
theorem dX9_setPeriod_43 : decode cX9_setPeriod 43 = .ok (.iconst 0, 1) := by decide +kernel
theorem dX9_setPeriod_44 : decode cX9_setPeriod 44 = .ok (.iaload, 1) := by decide +kernel
theorem dX9_setPeriod_45 : decode cX9_setPeriod 45 = .ok (.istore_n 3, 1) := by decide +kernel
theorem dX9_setPeriod_46 : decode cX9_setPeriod 46 = .ok (.aload_n 0, 1) := by decide +kernel
theorem dX9_setPeriod_47 : decode cX9_setPeriod 47 = .ok (.getfield 7, 3) := by decide +kernel
theorem dX9_setPeriod_50 : decode cX9_setPeriod 50 = .ok (.iconst 0, 1) := by decide +kernel
theorem dX9_setPeriod_51 : decode cX9_setPeriod 51 = .ok (.iload_n 1, 1) := by decide +kernel
theorem dX9_setPeriod_52 : decode cX9_setPeriod 52 = .ok (.iastore, 1) := by decide +kernel
theorem dX9_setPeriod_53 : decode cX9_setPeriod 53 = .ok (.iconst 0, 1) := by decide +kernel
theorem dX9_setPeriod_54 : decode cX9_setPeriod 54 = .ok (.istore 4, 2) := by decide +kernel
theorem dX9_setPeriod_56 : decode cX9_setPeriod 56 = .ok (.iload 4, 2) := by decide +kernel
theorem dX9_setPeriod_58 : decode cX9_setPeriod 58 = .ok (.aload_n 0, 1) := by decide +kernel
theorem dX9_setPeriod_59 : decode cX9_setPeriod 59 = .ok (.getfield 7, 3) := by decide +kernel
theorem dX9_setPeriod_62 : decode cX9_setPeriod 62 = .ok (.iconst 1, 1) := by decide +kernel
theorem dX9_setPeriod_63 : decode cX9_setPeriod 63 = .ok (.iaload, 1) := by decide +kernel
theorem dX9_setPeriod_64 : decode cX9_setPeriod 64 = .ok (.if_icmp .ge 33, 3) := by decide +kernel
theorem dX9_setPeriod_67 : decode cX9_setPeriod 67 = .ok (.aload_n 0, 1) := by decide +kernel
theorem dX9_setPeriod_68 : decode cX9_setPeriod 68 = .ok (.getfield 7, 3) := by decide +kernel
theorem dX9_setPeriod_71 : decode cX9_setPeriod 71 = .ok (.bipush 14, 2) := by decide +kernel
theorem dX9_setPeriod_73 : decode cX9_setPeriod 73 = .ok (.iload 4, 2) := by decide +kernel
theorem dX9_setPeriod_75 : decode cX9_setPeriod 75 = .ok (.iadd, 1) := by decide +kernel
theorem dX9_setPeriod_76 : decode cX9_setPeriod 76 = .ok (.aload_n 0, 1) := by decide +kernel
theorem dX9_setPeriod_77 : decode cX9_setPeriod 77 = .ok (.aload_n 0, 1) := by decide +kernel
theorem dX9_setPeriod_78 : decode cX9_setPeriod 78 = .ok (.getfield 7, 3) := by decide +kernel
theorem dX9_setPeriod_81 : decode cX9_setPeriod 81 = .ok (.bipush 14, 2) := by decide +kernel
theorem dX9_setPeriod_83 : decode cX9_setPeriod 83 = .ok (.iload 4, 2) := by decide +kernel
theorem dX9_setPeriod_85 : decode cX9_setPeriod 85 = .ok (.iadd, 1) := by decide +kernel
theorem dX9_setPeriod_86 : decode cX9_setPeriod 86 = .ok (.iaload, 1) := by decide +kernel
theorem dX9_setPeriod_87 : decode cX9_setPeriod 87 = .ok (.invokevirtual 203, 3) := by decide +kernel
theorem dX9_setPeriod_90 : decode cX9_setPeriod 90 = .ok (.iastore, 1) := by decide +kernel
theorem dX9_setPeriod_91 : decode cX9_setPeriod 91 = .ok (.iinc 4 1, 3) := by decide +kernel
theorem dX9_setPeriod_94 : decode cX9_setPeriod 94 = .ok (.goto (-38), 3) := by decide +kernel
theorem dX9_setPeriod_97 : decode cX9_setPeriod 97 = .ok (.iload_n 3, 1) := by decide +kernel
theorem dX9_setPeriod_98 : decode cX9_setPeriod 98 = .ok (.ireturn, 1) := by decide +kernel
theorem dX9_becomes_0 : decode cX9_becomes 0 = .ok (.aload_n 0, 1) := by decide +kernel
theorem dX9_becomes_1 : decode cX9_becomes 1 = .ok (.aload_n 0, 1) := by decide +kernel
theorem dX9_becomes_2 : decode cX9_becomes 2 = .ok (.iload_n 1, 1) := by decide +kernel
theorem dX9_becomes_3 : decode cX9_becomes 3 = .ok (.invokevirtual 333, 3) := by decide +kernel
theorem dX9_becomes_6 : decode cX9_becomes 6 = .ok (.invokevirtual 176, 3) := by decide +kernel
theorem dX9_becomes_9 : decode cX9_becomes 9 = .ok (.ifCond .ne 5, 3) := by decide +kernel
theorem dX9_becomes_12 : decode cX9_becomes 12 = .ok (.iconst 0, 1) := by decide +kernel
theorem dX9_becomes_13 : decode cX9_becomes 13 = .ok (.ireturn, 1) := by decide +kernel
theorem dX9_becomes_14 : decode cX9_becomes 14 = .ok (.aload_n 0, 1) := by decide +kernel
theorem dX9_becomes_15 : decode cX9_becomes 15 = .ok (.invokevirtual 349, 3) := by decide +kernel
theorem dX9_becomes_18 : decode cX9_becomes 18 = .ok (.iconst 0, 1) := by decide +kernel
theorem dX9_becomes_19 : decode cX9_becomes 19 = .ok (.istore_n 2, 1) := by decide +kernel
theorem dX9_becomes_20 : decode cX9_becomes 20 = .ok (.iload_n 2, 1) := by decide +kernel
theorem dX9_becomes_21 : decode cX9_becomes 21 = .ok (.aload_n 0, 1) := by decide +kernel
theorem dX9_becomes_22 : decode cX9_becomes 22 = .ok (.getfield 7, 3) := by decide +kernel
theorem dX9_becomes_25 : decode cX9_becomes 25 = .ok (.iconst 1, 1) := by decide +kernel
theorem dX9_becomes_26 : decode cX9_becomes 26 = .ok (.iaload, 1) := by decide +kernel
theorem dX9_becomes_27 : decode cX9_becomes 27 = .ok (.if_icmp .ge 24, 3) := by decide +kernel
theorem dX9_becomes_30 : decode cX9_becomes 30 = .ok (.aload_n 0, 1) := by decide +kernel
theorem dX9_becomes_31 : decode cX9_becomes 31 = .ok (.getfield 7, 3) := by decide +kernel
theorem dX9_becomes_34 : decode cX9_becomes 34 = .ok (.bipush 14, 2) := by decide +kernel
theorem dX9_becomes_36 : decode cX9_becomes 36 = .ok (.iload_n 2, 1) := by decide +kernel
theorem dX9_becomes_37 : decode cX9_becomes 37 = .ok (.iadd, 1) := by decide +kernel
theorem dX9_becomes_38 : decode cX9_becomes 38 = .ok (.aload_n 0, 1) := by decide +kernel
theorem dX9_becomes_39 : decode cX9_becomes 39 = .ok (.getfield 48, 3) := by decide +kernel
theorem dX9_becomes_42 : decode cX9_becomes 42 = .ok (.iload_n 2, 1) := by decide +kernel
theorem dX9_becomes_43 : decode cX9_becomes 43 = .ok (.iaload, 1) := by decide +kernel
theorem dX9_becomes_44 : decode cX9_becomes 44 = .ok (.iastore, 1) := by decide +kernel
theorem dX9_becomes_45 : decode cX9_becomes 45 = .ok (.iinc 2 1, 3) := by decide +kernel
theorem dX9_becomes_48 : decode cX9_becomes 48 = .ok (.goto (-28), 3) := by decide +kernel
theorem dX9_becomes_51 : decode cX9_becomes 51 = .ok (.aload_n 0, 1) := by decide +kernel
theorem dX9_becomes_52 : decode cX9_becomes 52 = .ok (.invokevirtual 221, 3) := by decide +kernel
theorem dX9_becomes_55 : decode cX9_becomes 55 = .ok (.ireturn, 1) := by decide +kernel
theorem dX9_solve_0 : decode cX9_solve 0 = .ok (.aload_n 0, 1) := by decide +kernel
theorem dX9_solve_1 : decode cX9_solve 1 = .ok (.iconst 1, 1) := by decide +kernel
theorem dX9_solve_2 : decode cX9_solve 2 = .ok (.invokevirtual 361, 3) := by decide +kernel
theorem dX9_solve_5 : decode cX9_solve 5 = .ok (.ireturn, 1) := by decide +kernel
theorem dX9_cheapen_0 : decode cX9_cheapen 0 = .ok (.aload_n 0, 1) := by decide +kernel
theorem dX9_cheapen_1 : decode cX9_cheapen 1 = .ok (.iconst 0, 1) := by decide +kernel
theorem dX9_cheapen_2 : decode cX9_cheapen 2 = .ok (.invokevirtual 361, 3) := by decide +kernel
theorem dX9_cheapen_5 : decode cX9_cheapen 5 = .ok (.ireturn, 1) := by decide +kernel
theorem dX9_tellsMove_0 : decode cX9_tellsMove 0 = .ok (.aload_n 0, 1) := by decide +kernel
theorem dX9_tellsMove_1 : decode cX9_tellsMove 1 = .ok (.getfield 7, 3) := by decide +kernel
theorem dX9_tellsMove_4 : decode cX9_tellsMove 4 = .ok (.bipush 14, 2) := by decide +kernel
theorem dX9_tellsMove_6 : decode cX9_tellsMove 6 = .ok (.iload_n 1, 1) := by decide +kernel
theorem dX9_tellsMove_7 : decode cX9_tellsMove 7 = .ok (.iadd, 1) := by decide +kernel
theorem dX9_tellsMove_8 : decode cX9_tellsMove 8 = .ok (.iaload, 1) := by decide +kernel
theorem dX9_tellsMove_9 : decode cX9_tellsMove 9 = .ok (.istore_n 3, 1) := by decide +kernel
theorem dX9_tellsMove_10 : decode cX9_tellsMove 10 = .ok (.aload_n 0, 1) := by decide +kernel
theorem dX9_tellsMove_11 : decode cX9_tellsMove 11 = .ok (.getfield 7, 3) := by decide +kernel
theorem dX9_tellsMove_14 : decode cX9_tellsMove 14 = .ok (.bipush 14, 2) := by decide +kernel
theorem dX9_tellsMove_16 : decode cX9_tellsMove 16 = .ok (.iload_n 1, 1) := by decide +kernel
theorem dX9_tellsMove_17 : decode cX9_tellsMove 17 = .ok (.iadd, 1) := by decide +kernel
theorem dX9_tellsMove_18 : decode cX9_tellsMove 18 = .ok (.iload_n 2, 1) := by decide +kernel
theorem dX9_tellsMove_19 : decode cX9_tellsMove 19 = .ok (.iastore, 1) := by decide +kernel
theorem dX9_tellsMove_20 : decode cX9_tellsMove 20 = .ok (.aload_n 0, 1) := by decide +kernel
theorem dX9_tellsMove_21 : decode cX9_tellsMove 21 = .ok (.invokevirtual 218, 3) := by decide +kernel
theorem dX9_tellsMove_24 : decode cX9_tellsMove 24 = .ok (.istore 4, 2) := by decide +kernel
theorem dX9_tellsMove_26 : decode cX9_tellsMove 26 = .ok (.aload_n 0, 1) := by decide +kernel
theorem dX9_tellsMove_27 : decode cX9_tellsMove 27 = .ok (.invokevirtual 221, 3) := by decide +kernel
theorem dX9_tellsMove_30 : decode cX9_tellsMove 30 = .ok (.istore 5, 2) := by decide +kernel
theorem dX9_tellsMove_32 : decode cX9_tellsMove 32 = .ok (.aload_n 0, 1) := by decide +kernel
theorem dX9_tellsMove_33 : decode cX9_tellsMove 33 = .ok (.getfield 7, 3) := by decide +kernel
theorem dX9_tellsMove_36 : decode cX9_tellsMove 36 = .ok (.bipush 14, 2) := by decide +kernel
theorem dX9_tellsMove_38 : decode cX9_tellsMove 38 = .ok (.iload_n 1, 1) := by decide +kernel
theorem dX9_tellsMove_39 : decode cX9_tellsMove 39 = .ok (.iadd, 1) := by decide +kernel
theorem dX9_tellsMove_40 : decode cX9_tellsMove 40 = .ok (.iload_n 3, 1) := by decide +kernel
theorem dX9_tellsMove_41 : decode cX9_tellsMove 41 = .ok (.iastore, 1) := by decide +kernel
theorem dX9_tellsMove_42 : decode cX9_tellsMove 42 = .ok (.aload_n 0, 1) := by decide +kernel
theorem dX9_tellsMove_43 : decode cX9_tellsMove 43 = .ok (.getfield 365, 3) := by decide +kernel
theorem dX9_tellsMove_46 : decode cX9_tellsMove 46 = .ok (.iconst (-1), 1) := by decide +kernel
theorem dX9_tellsMove_47 : decode cX9_tellsMove 47 = .ok (.if_icmp .eq 30, 3) := by decide +kernel
theorem dX9_tellsMove_50 : decode cX9_tellsMove 50 = .ok (.iload 4, 2) := by decide +kernel
theorem dX9_tellsMove_52 : decode cX9_tellsMove 52 = .ok (.aload_n 0, 1) := by decide +kernel
theorem dX9_tellsMove_53 : decode cX9_tellsMove 53 = .ok (.getfield 368, 3) := by decide +kernel
theorem dX9_tellsMove_56 : decode cX9_tellsMove 56 = .ok (.if_icmp .lt 21, 3) := by decide +kernel
theorem dX9_tellsMove_59 : decode cX9_tellsMove 59 = .ok (.iload 4, 2) := by decide +kernel
theorem dX9_tellsMove_61 : decode cX9_tellsMove 61 = .ok (.aload_n 0, 1) := by decide +kernel
theorem dX9_tellsMove_62 : decode cX9_tellsMove 62 = .ok (.getfield 368, 3) := by decide +kernel
theorem dX9_tellsMove_65 : decode cX9_tellsMove 65 = .ok (.if_icmp .ne 34, 3) := by decide +kernel
theorem dX9_tellsMove_68 : decode cX9_tellsMove 68 = .ok (.iload 5, 2) := by decide +kernel
theorem dX9_tellsMove_70 : decode cX9_tellsMove 70 = .ok (.aload_n 0, 1) := by decide +kernel
theorem dX9_tellsMove_71 : decode cX9_tellsMove 71 = .ok (.getfield 371, 3) := by decide +kernel
theorem dX9_tellsMove_74 : decode cX9_tellsMove 74 = .ok (.if_icmp .ge 25, 3) := by decide +kernel
theorem dX9_tellsMove_77 : decode cX9_tellsMove 77 = .ok (.aload_n 0, 1) := by decide +kernel
theorem dX9_tellsMove_78 : decode cX9_tellsMove 78 = .ok (.iload_n 1, 1) := by decide +kernel
theorem dX9_tellsMove_79 : decode cX9_tellsMove 79 = .ok (.putfield 365, 3) := by decide +kernel
theorem dX9_tellsMove_82 : decode cX9_tellsMove 82 = .ok (.aload_n 0, 1) := by decide +kernel
theorem dX9_tellsMove_83 : decode cX9_tellsMove 83 = .ok (.iload_n 2, 1) := by decide +kernel
theorem dX9_tellsMove_84 : decode cX9_tellsMove 84 = .ok (.putfield 374, 3) := by decide +kernel
theorem dX9_tellsMove_87 : decode cX9_tellsMove 87 = .ok (.aload_n 0, 1) := by decide +kernel
theorem dX9_tellsMove_88 : decode cX9_tellsMove 88 = .ok (.iload 4, 2) := by decide +kernel
theorem dX9_tellsMove_90 : decode cX9_tellsMove 90 = .ok (.putfield 368, 3) := by decide +kernel
theorem dX9_tellsMove_93 : decode cX9_tellsMove 93 = .ok (.aload_n 0, 1) := by decide +kernel
theorem dX9_tellsMove_94 : decode cX9_tellsMove 94 = .ok (.iload 5, 2) := by decide +kernel
theorem dX9_tellsMove_96 : decode cX9_tellsMove 96 = .ok (.putfield 371, 3) := by decide +kernel
theorem dX9_tellsMove_99 : decode cX9_tellsMove 99 = .ok (.return_, 1) := by decide +kernel
theorem dX9_laysMove_0 : decode cX9_laysMove 0 = .ok (.aload_n 0, 1) := by decide +kernel
theorem dX9_laysMove_1 : decode cX9_laysMove 1 = .ok (.iconst (-1), 1) := by decide +kernel
theorem dX9_laysMove_2 : decode cX9_laysMove 2 = .ok (.putfield 365, 3) := by decide +kernel
theorem dX9_laysMove_5 : decode cX9_laysMove 5 = .ok (.iconst 0, 1) := by decide +kernel
theorem dX9_laysMove_6 : decode cX9_laysMove 6 = .ok (.istore_n 1, 1) := by decide +kernel
theorem dX9_laysMove_7 : decode cX9_laysMove 7 = .ok (.iload_n 1, 1) := by decide +kernel
theorem dX9_laysMove_8 : decode cX9_laysMove 8 = .ok (.aload_n 0, 1) := by decide +kernel
theorem dX9_laysMove_9 : decode cX9_laysMove 9 = .ok (.getfield 7, 3) := by decide +kernel
theorem dX9_laysMove_12 : decode cX9_laysMove 12 = .ok (.iconst 1, 1) := by decide +kernel
theorem dX9_laysMove_13 : decode cX9_laysMove 13 = .ok (.iaload, 1) := by decide +kernel
theorem dX9_laysMove_14 : decode cX9_laysMove 14 = .ok (.if_icmp .ge 33, 3) := by decide +kernel
theorem dX9_laysMove_17 : decode cX9_laysMove 17 = .ok (.iconst 0, 1) := by decide +kernel
theorem dX9_laysMove_18 : decode cX9_laysMove 18 = .ok (.istore_n 2, 1) := by decide +kernel
theorem dX9_laysMove_19 : decode cX9_laysMove 19 = .ok (.iload_n 2, 1) := by decide +kernel
theorem dX9_laysMove_20 : decode cX9_laysMove 20 = .ok (.aload_n 0, 1) := by decide +kernel
theorem dX9_laysMove_21 : decode cX9_laysMove 21 = .ok (.getfield 7, 3) := by decide +kernel
theorem dX9_laysMove_24 : decode cX9_laysMove 24 = .ok (.iconst 0, 1) := by decide +kernel
theorem dX9_laysMove_25 : decode cX9_laysMove 25 = .ok (.iaload, 1) := by decide +kernel
theorem dX9_laysMove_26 : decode cX9_laysMove 26 = .ok (.if_icmp .ge 15, 3) := by decide +kernel
theorem dX9_laysMove_29 : decode cX9_laysMove 29 = .ok (.aload_n 0, 1) := by decide +kernel
theorem dX9_laysMove_30 : decode cX9_laysMove 30 = .ok (.iload_n 1, 1) := by decide +kernel
theorem dX9_laysMove_31 : decode cX9_laysMove 31 = .ok (.iload_n 2, 1) := by decide +kernel
theorem dX9_laysMove_32 : decode cX9_laysMove 32 = .ok (.invokevirtual 377, 3) := by decide +kernel
theorem dX9_laysMove_35 : decode cX9_laysMove 35 = .ok (.iinc 2 1, 3) := by decide +kernel
theorem dX9_laysMove_38 : decode cX9_laysMove 38 = .ok (.goto (-19), 3) := by decide +kernel
theorem dX9_laysMove_41 : decode cX9_laysMove 41 = .ok (.iinc 1 1, 3) := by decide +kernel
theorem dX9_laysMove_44 : decode cX9_laysMove 44 = .ok (.goto (-37), 3) := by decide +kernel
theorem dX9_laysMove_47 : decode cX9_laysMove 47 = .ok (.aload_n 0, 1) := by decide +kernel
theorem dX9_laysMove_48 : decode cX9_laysMove 48 = .ok (.invokevirtual 218, 3) := by decide +kernel
theorem dX9_laysMove_51 : decode cX9_laysMove 51 = .ok (.istore_n 1, 1) := by decide +kernel
theorem dX9_laysMove_52 : decode cX9_laysMove 52 = .ok (.aload_n 0, 1) := by decide +kernel
theorem dX9_laysMove_53 : decode cX9_laysMove 53 = .ok (.getfield 365, 3) := by decide +kernel
theorem dX9_laysMove_56 : decode cX9_laysMove 56 = .ok (.iconst (-1), 1) := by decide +kernel
theorem dX9_laysMove_57 : decode cX9_laysMove 57 = .ok (.if_icmp .eq 34, 3) := by decide +kernel
theorem dX9_laysMove_60 : decode cX9_laysMove 60 = .ok (.aload_n 0, 1) := by decide +kernel
theorem dX9_laysMove_61 : decode cX9_laysMove 61 = .ok (.getfield 368, 3) := by decide +kernel
theorem dX9_laysMove_64 : decode cX9_laysMove 64 = .ok (.iload_n 1, 1) := by decide +kernel
theorem dX9_laysMove_65 : decode cX9_laysMove 65 = .ok (.if_icmp .lt 22, 3) := by decide +kernel
theorem dX9_laysMove_68 : decode cX9_laysMove 68 = .ok (.aload_n 0, 1) := by decide +kernel
theorem dX9_laysMove_69 : decode cX9_laysMove 69 = .ok (.getfield 368, 3) := by decide +kernel
theorem dX9_laysMove_72 : decode cX9_laysMove 72 = .ok (.iload_n 1, 1) := by decide +kernel
theorem dX9_laysMove_73 : decode cX9_laysMove 73 = .ok (.if_icmp .ne 18, 3) := by decide +kernel
theorem dX9_laysMove_76 : decode cX9_laysMove 76 = .ok (.aload_n 0, 1) := by decide +kernel
theorem dX9_laysMove_77 : decode cX9_laysMove 77 = .ok (.getfield 371, 3) := by decide +kernel
theorem dX9_laysMove_80 : decode cX9_laysMove 80 = .ok (.aload_n 0, 1) := by decide +kernel
theorem dX9_laysMove_81 : decode cX9_laysMove 81 = .ok (.invokevirtual 221, 3) := by decide +kernel
theorem dX9_laysMove_84 : decode cX9_laysMove 84 = .ok (.if_icmp .ge 7, 3) := by decide +kernel
theorem dX9_laysMove_87 : decode cX9_laysMove 87 = .ok (.iconst 1, 1) := by decide +kernel
theorem dX9_laysMove_88 : decode cX9_laysMove 88 = .ok (.goto 4, 3) := by decide +kernel
theorem dX9_laysMove_91 : decode cX9_laysMove 91 = .ok (.iconst 0, 1) := by decide +kernel
theorem dX9_laysMove_92 : decode cX9_laysMove 92 = .ok (.ireturn, 1) := by decide +kernel
theorem dX9_improve_0 : decode cX9_improve 0 = .ok (.aload_n 0, 1) := by decide +kernel
theorem dX9_improve_1 : decode cX9_improve 1 = .ok (.iconst 0, 1) := by decide +kernel
theorem dX9_improve_2 : decode cX9_improve 2 = .ok (.putfield 54, 3) := by decide +kernel
theorem dX9_improve_5 : decode cX9_improve 5 = .ok (.aload_n 0, 1) := by decide +kernel
theorem dX9_improve_6 : decode cX9_improve 6 = .ok (.invokevirtual 349, 3) := by decide +kernel
theorem dX9_improve_9 : decode cX9_improve 9 = .ok (.iconst 0, 1) := by decide +kernel
theorem dX9_improve_10 : decode cX9_improve 10 = .ok (.istore_n 1, 1) := by decide +kernel
theorem dX9_improve_11 : decode cX9_improve 11 = .ok (.aload_n 0, 1) := by decide +kernel
theorem dX9_improve_12 : decode cX9_improve 12 = .ok (.invokevirtual 381, 3) := by decide +kernel
theorem dX9_improve_15 : decode cX9_improve 15 = .ok (.ifCond .eq 25, 3) := by decide +kernel
theorem dX9_improve_18 : decode cX9_improve 18 = .ok (.aload_n 0, 1) := by decide +kernel
theorem dX9_improve_19 : decode cX9_improve 19 = .ok (.getfield 7, 3) := by decide +kernel
theorem dX9_improve_22 : decode cX9_improve 22 = .ok (.bipush 14, 2) := by decide +kernel
theorem dX9_improve_24 : decode cX9_improve 24 = .ok (.aload_n 0, 1) := by decide +kernel
theorem dX9_improve_25 : decode cX9_improve 25 = .ok (.getfield 365, 3) := by decide +kernel
theorem dX9_improve_28 : decode cX9_improve 28 = .ok (.iadd, 1) := by decide +kernel
theorem dX9_improve_29 : decode cX9_improve 29 = .ok (.aload_n 0, 1) := by decide +kernel
theorem dX9_improve_30 : decode cX9_improve 30 = .ok (.getfield 374, 3) := by decide +kernel
theorem dX9_improve_33 : decode cX9_improve 33 = .ok (.iastore, 1) := by decide +kernel
theorem dX9_improve_34 : decode cX9_improve 34 = .ok (.iinc 1 1, 3) := by decide +kernel
theorem dX9_improve_37 : decode cX9_improve 37 = .ok (.goto (-26), 3) := by decide +kernel
theorem dX9_improve_40 : decode cX9_improve 40 = .ok (.iload_n 1, 1) := by decide +kernel
theorem dX9_improve_41 : decode cX9_improve 41 = .ok (.ireturn, 1) := by decide +kernel
theorem dX9_says_0 : decode cX9_says 0 = .ok (.aload_n 0, 1) := by decide +kernel
theorem dX9_says_1 : decode cX9_says 1 = .ok (.getfield 51, 3) := by decide +kernel
theorem dX9_says_4 : decode cX9_says 4 = .ok (.aload_n 0, 1) := by decide +kernel
theorem dX9_says_5 : decode cX9_says 5 = .ok (.getfield 384, 3) := by decide +kernel
theorem dX9_says_8 : decode cX9_says 8 = .ok (.iload_n 1, 1) := by decide +kernel
theorem dX9_says_9 : decode cX9_says 9 = .ok (.iastore, 1) := by decide +kernel
theorem dX9_says_10 : decode cX9_says 10 = .ok (.aload_n 0, 1) := by decide +kernel
theorem dX9_says_11 : decode cX9_says 11 = .ok (.dup, 1) := by decide +kernel
theorem dX9_says_12 : decode cX9_says 12 = .ok (.getfield 384, 3) := by decide +kernel
theorem dX9_says_15 : decode cX9_says 15 = .ok (.iconst 1, 1) := by decide +kernel
theorem dX9_says_16 : decode cX9_says 16 = .ok (.iadd, 1) := by decide +kernel
theorem dX9_says_17 : decode cX9_says 17 = .ok (.putfield 384, 3) := by decide +kernel
theorem dX9_says_20 : decode cX9_says 20 = .ok (.return_, 1) := by decide +kernel
theorem dX9_saysNumber_0 : decode cX9_saysNumber 0 = .ok (.iload_n 1, 1) := by decide +kernel
theorem dX9_saysNumber_1 : decode cX9_saysNumber 1 = .ok (.ifCond .ge 16, 3) := by decide +kernel
theorem dX9_saysNumber_4 : decode cX9_saysNumber 4 = .ok (.aload_n 0, 1) := by decide +kernel
theorem dX9_saysNumber_5 : decode cX9_saysNumber 5 = .ok (.bipush 45, 2) := by decide +kernel
theorem dX9_saysNumber_7 : decode cX9_saysNumber 7 = .ok (.invokevirtual 387, 3) := by decide +kernel
theorem dX9_saysNumber_10 : decode cX9_saysNumber 10 = .ok (.aload_n 0, 1) := by decide +kernel
theorem dX9_saysNumber_11 : decode cX9_saysNumber 11 = .ok (.iload_n 1, 1) := by decide +kernel
theorem dX9_saysNumber_12 : decode cX9_saysNumber 12 = .ok (.ineg, 1) := by decide +kernel
theorem dX9_saysNumber_13 : decode cX9_saysNumber 13 = .ok (.invokevirtual 390, 3) := by decide +kernel
theorem dX9_saysNumber_16 : decode cX9_saysNumber 16 = .ok (.return_, 1) := by decide +kernel
theorem dX9_saysNumber_17 : decode cX9_saysNumber 17 = .ok (.iload_n 1, 1) := by decide +kernel
theorem dX9_saysNumber_18 : decode cX9_saysNumber 18 = .ok (.bipush 9, 2) := by decide +kernel
theorem dX9_saysNumber_20 : decode cX9_saysNumber 20 = .ok (.if_icmp .le 11, 3) := by decide +kernel
theorem dX9_saysNumber_23 : decode cX9_saysNumber 23 = .ok (.aload_n 0, 1) := by decide +kernel
theorem dX9_saysNumber_24 : decode cX9_saysNumber 24 = .ok (.iload_n 1, 1) := by decide +kernel
theorem dX9_saysNumber_25 : decode cX9_saysNumber 25 = .ok (.bipush 10, 2) := by decide +kernel
theorem dX9_saysNumber_27 : decode cX9_saysNumber 27 = .ok (.idiv, 1) := by decide +kernel
theorem dX9_saysNumber_28 : decode cX9_saysNumber 28 = .ok (.invokevirtual 390, 3) := by decide +kernel
theorem dX9_saysNumber_31 : decode cX9_saysNumber 31 = .ok (.aload_n 0, 1) := by decide +kernel
theorem dX9_saysNumber_32 : decode cX9_saysNumber 32 = .ok (.bipush 48, 2) := by decide +kernel
theorem dX9_saysNumber_34 : decode cX9_saysNumber 34 = .ok (.iload_n 1, 1) := by decide +kernel
theorem dX9_saysNumber_35 : decode cX9_saysNumber 35 = .ok (.bipush 10, 2) := by decide +kernel
theorem dX9_saysNumber_37 : decode cX9_saysNumber 37 = .ok (.irem, 1) := by decide +kernel
theorem dX9_saysNumber_38 : decode cX9_saysNumber 38 = .ok (.iadd, 1) := by decide +kernel
theorem dX9_saysNumber_39 : decode cX9_saysNumber 39 = .ok (.invokevirtual 387, 3) := by decide +kernel
theorem dX9_saysNumber_42 : decode cX9_saysNumber 42 = .ok (.return_, 1) := by decide +kernel
theorem dX9_saysLetters_0 : decode cX9_saysLetters 0 = .ok (.iload_n 1, 1) := by decide +kernel
theorem dX9_saysLetters_1 : decode cX9_saysLetters 1 = .ok (.bipush 27, 2) := by decide +kernel
theorem dX9_saysLetters_3 : decode cX9_saysLetters 3 = .ok (.if_icmp .lt 11, 3) := by decide +kernel
theorem dX9_saysLetters_6 : decode cX9_saysLetters 6 = .ok (.aload_n 0, 1) := by decide +kernel
theorem dX9_saysLetters_7 : decode cX9_saysLetters 7 = .ok (.iload_n 1, 1) := by decide +kernel
theorem dX9_saysLetters_8 : decode cX9_saysLetters 8 = .ok (.bipush 27, 2) := by decide +kernel
theorem dX9_saysLetters_10 : decode cX9_saysLetters 10 = .ok (.idiv, 1) := by decide +kernel
theorem dX9_saysLetters_11 : decode cX9_saysLetters 11 = .ok (.invokevirtual 393, 3) := by decide +kernel
theorem dX9_saysLetters_14 : decode cX9_saysLetters 14 = .ok (.iload_n 1, 1) := by decide +kernel
theorem dX9_saysLetters_15 : decode cX9_saysLetters 15 = .ok (.ifCond .le 14, 3) := by decide +kernel
theorem dX9_saysLetters_18 : decode cX9_saysLetters 18 = .ok (.aload_n 0, 1) := by decide +kernel
theorem dX9_saysLetters_19 : decode cX9_saysLetters 19 = .ok (.bipush 96, 2) := by decide +kernel
theorem dX9_saysLetters_21 : decode cX9_saysLetters 21 = .ok (.iload_n 1, 1) := by decide +kernel
theorem dX9_saysLetters_22 : decode cX9_saysLetters 22 = .ok (.bipush 27, 2) := by decide +kernel
theorem dX9_saysLetters_24 : decode cX9_saysLetters 24 = .ok (.irem, 1) := by decide +kernel
theorem dX9_saysLetters_25 : decode cX9_saysLetters 25 = .ok (.iadd, 1) := by decide +kernel
theorem dX9_saysLetters_26 : decode cX9_saysLetters 26 = .ok (.invokevirtual 387, 3) := by decide +kernel
theorem dX9_saysLetters_29 : decode cX9_saysLetters 29 = .ok (.return_, 1) := by decide +kernel
theorem dX9_write_0 : decode cX9_write 0 = .ok (.aload_n 0, 1) := by decide +kernel
theorem dX9_write_1 : decode cX9_write 1 = .ok (.iconst 0, 1) := by decide +kernel
theorem dX9_write_2 : decode cX9_write 2 = .ok (.putfield 54, 3) := by decide +kernel
theorem dX9_write_5 : decode cX9_write 5 = .ok (.aload_n 0, 1) := by decide +kernel
theorem dX9_write_6 : decode cX9_write 6 = .ok (.iconst 0, 1) := by decide +kernel
theorem dX9_write_7 : decode cX9_write 7 = .ok (.putfield 384, 3) := by decide +kernel
theorem dX9_write_10 : decode cX9_write 10 = .ok (.iconst 0, 1) := by decide +kernel
theorem dX9_write_11 : decode cX9_write 11 = .ok (.istore_n 1, 1) := by decide +kernel
theorem dX9_write_12 : decode cX9_write 12 = .ok (.iload_n 1, 1) := by decide +kernel
theorem dX9_write_13 : decode cX9_write 13 = .ok (.aload_n 0, 1) := by decide +kernel
theorem dX9_write_14 : decode cX9_write 14 = .ok (.getfield 7, 3) := by decide +kernel
theorem dX9_write_17 : decode cX9_write 17 = .ok (.iconst 1, 1) := by decide +kernel
theorem dX9_write_18 : decode cX9_write 18 = .ok (.iaload, 1) := by decide +kernel
theorem dX9_write_19 : decode cX9_write 19 = .ok (.if_icmp .ge 68, 3) := by decide +kernel
theorem dX9_write_22 : decode cX9_write 22 = .ok (.iload_n 1, 1) := by decide +kernel
theorem dX9_write_23 : decode cX9_write 23 = .ok (.ifCond .le 9, 3) := by decide +kernel
theorem dX9_write_26 : decode cX9_write 26 = .ok (.aload_n 0, 1) := by decide +kernel
theorem dX9_write_27 : decode cX9_write 27 = .ok (.bipush 32, 2) := by decide +kernel
theorem dX9_write_29 : decode cX9_write 29 = .ok (.invokevirtual 387, 3) := by decide +kernel
theorem dX9_write_32 : decode cX9_write 32 = .ok (.aload_n 0, 1) := by decide +kernel
theorem dX9_write_33 : decode cX9_write 33 = .ok (.aload_n 0, 1) := by decide +kernel
theorem dX9_write_34 : decode cX9_write 34 = .ok (.getfield 7, 3) := by decide +kernel
theorem dX9_write_37 : decode cX9_write 37 = .ok (.iconst 2, 1) := by decide +kernel
theorem dX9_write_38 : decode cX9_write 38 = .ok (.iconst 2, 1) := by decide +kernel
theorem dX9_write_39 : decode cX9_write 39 = .ok (.iload_n 1, 1) := by decide +kernel
theorem dX9_write_40 : decode cX9_write 40 = .ok (.imul, 1) := by decide +kernel
theorem dX9_write_41 : decode cX9_write 41 = .ok (.iadd, 1) := by decide +kernel
theorem dX9_write_42 : decode cX9_write 42 = .ok (.iaload, 1) := by decide +kernel
theorem dX9_write_43 : decode cX9_write 43 = .ok (.invokevirtual 393, 3) := by decide +kernel
theorem dX9_write_46 : decode cX9_write 46 = .ok (.aload_n 0, 1) := by decide +kernel
theorem dX9_write_47 : decode cX9_write 47 = .ok (.aload_n 0, 1) := by decide +kernel
theorem dX9_write_48 : decode cX9_write 48 = .ok (.getfield 7, 3) := by decide +kernel
theorem dX9_write_51 : decode cX9_write 51 = .ok (.iconst 2, 1) := by decide +kernel
theorem dX9_write_52 : decode cX9_write 52 = .ok (.iconst 2, 1) := by decide +kernel
theorem dX9_write_53 : decode cX9_write 53 = .ok (.iload_n 1, 1) := by decide +kernel
theorem dX9_write_54 : decode cX9_write 54 = .ok (.imul, 1) := by decide +kernel
theorem dX9_write_55 : decode cX9_write 55 = .ok (.iadd, 1) := by decide +kernel
theorem dX9_write_56 : decode cX9_write 56 = .ok (.iconst 1, 1) := by decide +kernel
theorem dX9_write_57 : decode cX9_write 57 = .ok (.iadd, 1) := by decide +kernel
theorem dX9_write_58 : decode cX9_write 58 = .ok (.iaload, 1) := by decide +kernel
theorem dX9_write_59 : decode cX9_write 59 = .ok (.invokevirtual 393, 3) := by decide +kernel
theorem dX9_write_62 : decode cX9_write 62 = .ok (.aload_n 0, 1) := by decide +kernel
theorem dX9_write_63 : decode cX9_write 63 = .ok (.bipush 61, 2) := by decide +kernel
theorem dX9_write_65 : decode cX9_write 65 = .ok (.invokevirtual 387, 3) := by decide +kernel
theorem dX9_write_68 : decode cX9_write 68 = .ok (.aload_n 0, 1) := by decide +kernel
theorem dX9_write_69 : decode cX9_write 69 = .ok (.aload_n 0, 1) := by decide +kernel
theorem dX9_write_70 : decode cX9_write 70 = .ok (.getfield 7, 3) := by decide +kernel
theorem dX9_write_73 : decode cX9_write 73 = .ok (.bipush 14, 2) := by decide +kernel
theorem dX9_write_75 : decode cX9_write 75 = .ok (.iload_n 1, 1) := by decide +kernel
theorem dX9_write_76 : decode cX9_write 76 = .ok (.iadd, 1) := by decide +kernel
theorem dX9_write_77 : decode cX9_write 77 = .ok (.iaload, 1) := by decide +kernel
theorem dX9_write_78 : decode cX9_write 78 = .ok (.invokevirtual 390, 3) := by decide +kernel
theorem dX9_write_81 : decode cX9_write 81 = .ok (.iinc 1 1, 3) := by decide +kernel
theorem dX9_write_84 : decode cX9_write 84 = .ok (.goto (-72), 3) := by decide +kernel
theorem dX9_write_87 : decode cX9_write 87 = .ok (.iconst 0, 1) := by decide +kernel
theorem dX9_write_88 : decode cX9_write 88 = .ok (.istore_n 1, 1) := by decide +kernel
theorem dX9_write_89 : decode cX9_write 89 = .ok (.iload_n 1, 1) := by decide +kernel
theorem dX9_write_90 : decode cX9_write 90 = .ok (.aload_n 0, 1) := by decide +kernel
theorem dX9_write_91 : decode cX9_write 91 = .ok (.getfield 7, 3) := by decide +kernel
theorem dX9_write_94 : decode cX9_write 94 = .ok (.bipush 20, 2) := by decide +kernel
theorem dX9_write_96 : decode cX9_write 96 = .ok (.iaload, 1) := by decide +kernel
theorem dX9_write_97 : decode cX9_write 97 = .ok (.if_icmp .ge 39, 3) := by decide +kernel
theorem dX9_write_100 : decode cX9_write 100 = .ok (.aload_n 0, 1) := by decide +kernel
theorem dX9_write_101 : decode cX9_write 101 = .ok (.iload_n 1, 1) := by decide +kernel
theorem dX9_write_102 : decode cX9_write 102 = .ok (.aload_n 0, 1) := by decide +kernel
theorem dX9_write_103 : decode cX9_write 103 = .ok (.iload_n 1, 1) := by decide +kernel
theorem dX9_write_104 : decode cX9_write 104 = .ok (.invokevirtual 209, 3) := by decide +kernel
theorem dX9_write_107 : decode cX9_write 107 = .ok (.invokevirtual 215, 3) := by decide +kernel
theorem dX9_write_110 : decode cX9_write 110 = .ok (.ifCond .ne 20, 3) := by decide +kernel
theorem dX9_write_113 : decode cX9_write 113 = .ok (.aload_n 0, 1) := by decide +kernel
theorem dX9_write_114 : decode cX9_write 114 = .ok (.bipush 32, 2) := by decide +kernel
theorem dX9_write_116 : decode cX9_write 116 = .ok (.invokevirtual 387, 3) := by decide +kernel
theorem dX9_write_119 : decode cX9_write 119 = .ok (.aload_n 0, 1) := by decide +kernel
theorem dX9_write_120 : decode cX9_write 120 = .ok (.bipush 33, 2) := by decide +kernel
theorem dX9_write_122 : decode cX9_write 122 = .ok (.invokevirtual 387, 3) := by decide +kernel
theorem dX9_write_125 : decode cX9_write 125 = .ok (.aload_n 0, 1) := by decide +kernel
theorem dX9_write_126 : decode cX9_write 126 = .ok (.iload_n 1, 1) := by decide +kernel
theorem dX9_write_127 : decode cX9_write 127 = .ok (.invokevirtual 390, 3) := by decide +kernel
theorem dX9_write_130 : decode cX9_write 130 = .ok (.iinc 1 1, 3) := by decide +kernel
theorem dX9_write_133 : decode cX9_write 133 = .ok (.goto (-44), 3) := by decide +kernel
theorem dX9_write_136 : decode cX9_write 136 = .ok (.aload_n 0, 1) := by decide +kernel
theorem dX9_write_137 : decode cX9_write 137 = .ok (.getfield 384, 3) := by decide +kernel
theorem dX9_write_140 : decode cX9_write 140 = .ok (.ireturn, 1) := by decide +kernel
theorem dX9_writeCycle_0 : decode cX9_writeCycle 0 = .ok (.aload_n 0, 1) := by decide +kernel
theorem dX9_writeCycle_1 : decode cX9_writeCycle 1 = .ok (.aload_n 0, 1) := by decide +kernel
theorem dX9_writeCycle_2 : decode cX9_writeCycle 2 = .ok (.iload_n 1, 1) := by decide +kernel
theorem dX9_writeCycle_3 : decode cX9_writeCycle 3 = .ok (.invokevirtual 293, 3) := by decide +kernel
theorem dX9_writeCycle_6 : decode cX9_writeCycle 6 = .ok (.ifCond .eq 15, 3) := by decide +kernel
theorem dX9_writeCycle_9 : decode cX9_writeCycle 9 = .ok (.aload_n 0, 1) := by decide +kernel
theorem dX9_writeCycle_10 : decode cX9_writeCycle 10 = .ok (.iload_n 1, 1) := by decide +kernel
theorem dX9_writeCycle_11 : decode cX9_writeCycle 11 = .ok (.invokevirtual 296, 3) := by decide +kernel
theorem dX9_writeCycle_14 : decode cX9_writeCycle 14 = .ok (.ifCond .eq 7, 3) := by decide +kernel
theorem dX9_writeCycle_17 : decode cX9_writeCycle 17 = .ok (.iconst 1, 1) := by decide +kernel
theorem dX9_writeCycle_18 : decode cX9_writeCycle 18 = .ok (.goto 4, 3) := by decide +kernel
theorem dX9_writeCycle_21 : decode cX9_writeCycle 21 = .ok (.iconst 0, 1) := by decide +kernel
theorem dX9_writeCycle_22 : decode cX9_writeCycle 22 = .ok (.invokevirtual 176, 3) := by decide +kernel
theorem dX9_writeCycle_25 : decode cX9_writeCycle 25 = .ok (.ifCond .ne 5, 3) := by decide +kernel
theorem dX9_writeCycle_28 : decode cX9_writeCycle 28 = .ok (.iconst 0, 1) := by decide +kernel
theorem dX9_writeCycle_29 : decode cX9_writeCycle 29 = .ok (.ireturn, 1) := by decide +kernel
theorem dX9_writeCycle_30 : decode cX9_writeCycle 30 = .ok (.aload_n 0, 1) := by decide +kernel
theorem dX9_writeCycle_31 : decode cX9_writeCycle 31 = .ok (.iconst 0, 1) := by decide +kernel
theorem dX9_writeCycle_32 : decode cX9_writeCycle 32 = .ok (.putfield 384, 3) := by decide +kernel
theorem dX9_writeCycle_35 : decode cX9_writeCycle 35 = .ok (.iconst 0, 1) := by decide +kernel
theorem dX9_writeCycle_36 : decode cX9_writeCycle 36 = .ok (.istore_n 2, 1) := by decide +kernel
theorem dX9_writeCycle_37 : decode cX9_writeCycle 37 = .ok (.iload_n 2, 1) := by decide +kernel
theorem dX9_writeCycle_38 : decode cX9_writeCycle 38 = .ok (.aload_n 0, 1) := by decide +kernel
theorem dX9_writeCycle_39 : decode cX9_writeCycle 39 = .ok (.getfield 280, 3) := by decide +kernel
theorem dX9_writeCycle_42 : decode cX9_writeCycle 42 = .ok (.if_icmp .ge 39, 3) := by decide +kernel
theorem dX9_writeCycle_45 : decode cX9_writeCycle 45 = .ok (.aload_n 0, 1) := by decide +kernel
theorem dX9_writeCycle_46 : decode cX9_writeCycle 46 = .ok (.aload_n 0, 1) := by decide +kernel
theorem dX9_writeCycle_47 : decode cX9_writeCycle 47 = .ok (.getfield 42, 3) := by decide +kernel
theorem dX9_writeCycle_50 : decode cX9_writeCycle 50 = .ok (.iload_n 2, 1) := by decide +kernel
theorem dX9_writeCycle_51 : decode cX9_writeCycle 51 = .ok (.baload, 1) := by decide +kernel
theorem dX9_writeCycle_52 : decode cX9_writeCycle 52 = .ok (.ifCond .eq 8, 3) := by decide +kernel
theorem dX9_writeCycle_55 : decode cX9_writeCycle 55 = .ok (.bipush 43, 2) := by decide +kernel
theorem dX9_writeCycle_57 : decode cX9_writeCycle 57 = .ok (.goto 5, 3) := by decide +kernel
theorem dX9_writeCycle_60 : decode cX9_writeCycle 60 = .ok (.bipush 45, 2) := by decide +kernel
theorem dX9_writeCycle_62 : decode cX9_writeCycle 62 = .ok (.invokevirtual 387, 3) := by decide +kernel
theorem dX9_writeCycle_65 : decode cX9_writeCycle 65 = .ok (.aload_n 0, 1) := by decide +kernel
theorem dX9_writeCycle_66 : decode cX9_writeCycle 66 = .ok (.aload_n 0, 1) := by decide +kernel
theorem dX9_writeCycle_67 : decode cX9_writeCycle 67 = .ok (.getfield 39, 3) := by decide +kernel
theorem dX9_writeCycle_70 : decode cX9_writeCycle 70 = .ok (.iload_n 2, 1) := by decide +kernel
theorem dX9_writeCycle_71 : decode cX9_writeCycle 71 = .ok (.iaload, 1) := by decide +kernel
theorem dX9_writeCycle_72 : decode cX9_writeCycle 72 = .ok (.invokevirtual 390, 3) := by decide +kernel
theorem dX9_writeCycle_75 : decode cX9_writeCycle 75 = .ok (.iinc 2 1, 3) := by decide +kernel
theorem dX9_writeCycle_78 : decode cX9_writeCycle 78 = .ok (.goto (-41), 3) := by decide +kernel
theorem dX9_writeCycle_81 : decode cX9_writeCycle 81 = .ok (.aload_n 0, 1) := by decide +kernel
theorem dX9_writeCycle_82 : decode cX9_writeCycle 82 = .ok (.bipush 61, 2) := by decide +kernel
theorem dX9_writeCycle_84 : decode cX9_writeCycle 84 = .ok (.invokevirtual 387, 3) := by decide +kernel
theorem dX9_writeCycle_87 : decode cX9_writeCycle 87 = .ok (.aload_n 0, 1) := by decide +kernel
theorem dX9_writeCycle_88 : decode cX9_writeCycle 88 = .ok (.aload_n 0, 1) := by decide +kernel
theorem dX9_writeCycle_89 : decode cX9_writeCycle 89 = .ok (.invokevirtual 308, 3) := by decide +kernel
theorem dX9_writeCycle_92 : decode cX9_writeCycle 92 = .ok (.invokevirtual 390, 3) := by decide +kernel
theorem dX9_writeCycle_95 : decode cX9_writeCycle 95 = .ok (.aload_n 0, 1) := by decide +kernel
theorem dX9_writeCycle_96 : decode cX9_writeCycle 96 = .ok (.getfield 384, 3) := by decide +kernel
theorem dX9_writeCycle_99 : decode cX9_writeCycle 99 = .ok (.ireturn, 1) := by decide +kernel
theorem dX9_written_0 : decode cX9_written 0 = .ok (.aload_n 0, 1) := by decide +kernel
theorem dX9_written_1 : decode cX9_written 1 = .ok (.iload_n 1, 1) := by decide +kernel
theorem dX9_written_2 : decode cX9_written 2 = .ok (.iconst 0, 1) := by decide +kernel
theorem dX9_written_3 : decode cX9_written 3 = .ok (.aload_n 0, 1) := by decide +kernel
theorem dX9_written_4 : decode cX9_written 4 = .ok (.getfield 384, 3) := by decide +kernel
theorem dX9_written_7 : decode cX9_written 7 = .ok (.iconst 1, 1) := by decide +kernel
theorem dX9_written_8 : decode cX9_written 8 = .ok (.isub, 1) := by decide +kernel
theorem dX9_written_9 : decode cX9_written 9 = .ok (.invokestatic 121, 3) := by decide +kernel
theorem dX9_written_12 : decode cX9_written 12 = .ok (.invokevirtual 176, 3) := by decide +kernel
theorem dX9_written_15 : decode cX9_written 15 = .ok (.ifCond .eq 13, 3) := by decide +kernel
theorem dX9_written_18 : decode cX9_written 18 = .ok (.aload_n 0, 1) := by decide +kernel
theorem dX9_written_19 : decode cX9_written 19 = .ok (.getfield 51, 3) := by decide +kernel
theorem dX9_written_22 : decode cX9_written 22 = .ok (.iload_n 1, 1) := by decide +kernel
theorem dX9_written_23 : decode cX9_written 23 = .ok (.iaload, 1) := by decide +kernel
theorem dX9_written_24 : decode cX9_written 24 = .ok (.i2c, 1) := by decide +kernel
theorem dX9_written_25 : decode cX9_written 25 = .ok (.goto 4, 3) := by decide +kernel
theorem dX9_written_28 : decode cX9_written 28 = .ok (.iconst 0, 1) := by decide +kernel
theorem dX9_written_29 : decode cX9_written 29 = .ok (.ireturn, 1) := by decide +kernel
