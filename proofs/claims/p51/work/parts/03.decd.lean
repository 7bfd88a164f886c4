theorem dL_init_0 : decode cL_init 0 = .ok (.aload_n 0, 1) := by decide +kernel
theorem dL_init_1 : decode cL_init 1 = .ok (.invokespecial 1, 3) := by decide +kernel
theorem dL_init_4 : decode cL_init 4 = .ok (.aload_n 0, 1) := by decide +kernel
theorem dL_init_5 : decode cL_init 5 = .ok (.iconst 0, 1) := by decide +kernel
theorem dL_init_6 : decode cL_init 6 = .ok (.newarray .int, 2) := by decide +kernel
theorem dL_init_8 : decode cL_init 8 = .ok (.putfield 7, 3) := by decide +kernel
theorem dL_init_11 : decode cL_init 11 = .ok (.aload_n 0, 1) := by decide +kernel
theorem dL_init_12 : decode cL_init 12 = .ok (.iconst 0, 1) := by decide +kernel
theorem dL_init_13 : decode cL_init 13 = .ok (.newarray .int, 2) := by decide +kernel
theorem dL_init_15 : decode cL_init 15 = .ok (.putfield 13, 3) := by decide +kernel
theorem dL_init_18 : decode cL_init 18 = .ok (.aload_n 0, 1) := by decide +kernel
theorem dL_init_19 : decode cL_init 19 = .ok (.iconst 0, 1) := by decide +kernel
theorem dL_init_20 : decode cL_init 20 = .ok (.newarray .int, 2) := by decide +kernel
theorem dL_init_22 : decode cL_init 22 = .ok (.putfield 16, 3) := by decide +kernel
theorem dL_init_25 : decode cL_init 25 = .ok (.return_, 1) := by decide +kernel
theorem dL_among_0 : decode cL_among 0 = .ok (.iload_n 0, 1) := by decide +kernel
theorem dL_among_1 : decode cL_among 1 = .ok (.iload_n 1, 1) := by decide +kernel
theorem dL_among_2 : decode cL_among 2 = .ok (.irem, 1) := by decide +kernel
theorem dL_among_3 : decode cL_among 3 = .ok (.istore_n 2, 1) := by decide +kernel
theorem dL_among_4 : decode cL_among 4 = .ok (.iload_n 2, 1) := by decide +kernel
theorem dL_among_5 : decode cL_among 5 = .ok (.ifCond .ge 9, 3) := by decide +kernel
theorem dL_among_8 : decode cL_among 8 = .ok (.iload_n 2, 1) := by decide +kernel
theorem dL_among_9 : decode cL_among 9 = .ok (.iload_n 1, 1) := by decide +kernel
theorem dL_among_10 : decode cL_among 10 = .ok (.iadd, 1) := by decide +kernel
theorem dL_among_11 : decode cL_among 11 = .ok (.goto 4, 3) := by decide +kernel
theorem dL_among_14 : decode cL_among 14 = .ok (.iload_n 2, 1) := by decide +kernel
theorem dL_among_15 : decode cL_among 15 = .ok (.ireturn, 1) := by decide +kernel
theorem dL_cell_0 : decode cL_cell 0 = .ok (.iload_n 1, 1) := by decide +kernel
theorem dL_cell_1 : decode cL_cell 1 = .ok (.aload_n 0, 1) := by decide +kernel
theorem dL_cell_2 : decode cL_cell 2 = .ok (.arraylength, 1) := by decide +kernel
theorem dL_cell_3 : decode cL_cell 3 = .ok (.if_icmp .ge 9, 3) := by decide +kernel
theorem dL_cell_6 : decode cL_cell 6 = .ok (.aload_n 0, 1) := by decide +kernel
theorem dL_cell_7 : decode cL_cell 7 = .ok (.iload_n 1, 1) := by decide +kernel
theorem dL_cell_8 : decode cL_cell 8 = .ok (.iaload, 1) := by decide +kernel
theorem dL_cell_9 : decode cL_cell 9 = .ok (.goto 14, 3) := by decide +kernel
theorem dL_cell_12 : decode cL_cell 12 = .ok (.sipush 7919, 3) := by decide +kernel
theorem dL_cell_15 : decode cL_cell 15 = .ok (.iload_n 1, 1) := by decide +kernel
theorem dL_cell_16 : decode cL_cell 16 = .ok (.sipush 1000, 3) := by decide +kernel
theorem dL_cell_19 : decode cL_cell 19 = .ok (.irem, 1) := by decide +kernel
theorem dL_cell_20 : decode cL_cell 20 = .ok (.imul, 1) := by decide +kernel
theorem dL_cell_21 : decode cL_cell 21 = .ok (.iconst 5, 1) := by decide +kernel
theorem dL_cell_22 : decode cL_cell 22 = .ok (.iadd, 1) := by decide +kernel
theorem dL_cell_23 : decode cL_cell 23 = .ok (.ireturn, 1) := by decide +kernel
theorem dL_four_0 : decode cL_four 0 = .ok (.iconst 0, 1) := by decide +kernel
theorem dL_four_1 : decode cL_four 1 = .ok (.istore_n 2, 1) := by decide +kernel
theorem dL_four_2 : decode cL_four 2 = .ok (.iload_n 1, 1) := by decide +kernel
theorem dL_four_3 : decode cL_four 3 = .ok (.istore_n 3, 1) := by decide +kernel
theorem dL_four_4 : decode cL_four 4 = .ok (.iload_n 3, 1) := by decide +kernel
theorem dL_four_5 : decode cL_four 5 = .ok (.iload_n 1, 1) := by decide +kernel
theorem dL_four_6 : decode cL_four 6 = .ok (.iconst 4, 1) := by decide +kernel
theorem dL_four_7 : decode cL_four 7 = .ok (.iadd, 1) := by decide +kernel
theorem dL_four_8 : decode cL_four 8 = .ok (.if_icmp .ge 33, 3) := by decide +kernel
theorem dL_four_11 : decode cL_four 11 = .ok (.iload_n 2, 1) := by decide +kernel
theorem dL_four_12 : decode cL_four 12 = .ok (.bipush 8, 2) := by decide +kernel
theorem dL_four_14 : decode cL_four 14 = .ok (.ishl, 1) := by decide +kernel
theorem dL_four_15 : decode cL_four 15 = .ok (.iload_n 3, 1) := by decide +kernel
theorem dL_four_16 : decode cL_four 16 = .ok (.aload_n 0, 1) := by decide +kernel
theorem dL_four_17 : decode cL_four 17 = .ok (.invokevirtual 19, 3) := by decide +kernel
theorem dL_four_20 : decode cL_four 20 = .ok (.if_icmp .ge 11, 3) := by decide +kernel
theorem dL_four_23 : decode cL_four 23 = .ok (.aload_n 0, 1) := by decide +kernel
theorem dL_four_24 : decode cL_four 24 = .ok (.iload_n 3, 1) := by decide +kernel
theorem dL_four_25 : decode cL_four 25 = .ok (.invokevirtual 25, 3) := by decide +kernel
theorem dL_four_28 : decode cL_four 28 = .ok (.goto 5, 3) := by decide +kernel
theorem dL_four_31 : decode cL_four 31 = .ok (.bipush 32, 2) := by decide +kernel
theorem dL_four_33 : decode cL_four 33 = .ok (.ior, 1) := by decide +kernel
theorem dL_four_34 : decode cL_four 34 = .ok (.istore_n 2, 1) := by decide +kernel
theorem dL_four_35 : decode cL_four 35 = .ok (.iinc 3 1, 3) := by decide +kernel
theorem dL_four_38 : decode cL_four 38 = .ok (.goto (-34), 3) := by decide +kernel
theorem dL_four_41 : decode cL_four 41 = .ok (.iload_n 2, 1) := by decide +kernel
theorem dL_four_42 : decode cL_four 42 = .ok (.ireturn, 1) := by decide +kernel
theorem dL_load_0 : decode cL_load 0 = .ok (.iconst 0, 1) := by decide +kernel
theorem dL_load_1 : decode cL_load 1 = .ok (.istore_n 2, 1) := by decide +kernel
theorem dL_load_2 : decode cL_load 2 = .ok (.iload_n 2, 1) := by decide +kernel
theorem dL_load_3 : decode cL_load 3 = .ok (.aload_n 1, 1) := by decide +kernel
theorem dL_load_4 : decode cL_load 4 = .ok (.invokevirtual 19, 3) := by decide +kernel
theorem dL_load_7 : decode cL_load 7 = .ok (.if_icmp .ge 50, 3) := by decide +kernel
theorem dL_load_10 : decode cL_load 10 = .ok (.aload_n 0, 1) := by decide +kernel
theorem dL_load_11 : decode cL_load 11 = .ok (.aload_n 1, 1) := by decide +kernel
theorem dL_load_12 : decode cL_load 12 = .ok (.iload_n 2, 1) := by decide +kernel
theorem dL_load_13 : decode cL_load 13 = .ok (.invokestatic 29, 3) := by decide +kernel
theorem dL_load_16 : decode cL_load 16 = .ok (.aload_n 1, 1) := by decide +kernel
theorem dL_load_17 : decode cL_load 17 = .ok (.iload_n 2, 1) := by decide +kernel
theorem dL_load_18 : decode cL_load 18 = .ok (.iconst 4, 1) := by decide +kernel
theorem dL_load_19 : decode cL_load 19 = .ok (.iadd, 1) := by decide +kernel
theorem dL_load_20 : decode cL_load 20 = .ok (.invokestatic 29, 3) := by decide +kernel
theorem dL_load_23 : decode cL_load 23 = .ok (.aload_n 1, 1) := by decide +kernel
theorem dL_load_24 : decode cL_load 24 = .ok (.iload_n 2, 1) := by decide +kernel
theorem dL_load_25 : decode cL_load 25 = .ok (.bipush 8, 2) := by decide +kernel
theorem dL_load_27 : decode cL_load 27 = .ok (.iadd, 1) := by decide +kernel
theorem dL_load_28 : decode cL_load 28 = .ok (.invokestatic 29, 3) := by decide +kernel
theorem dL_load_31 : decode cL_load 31 = .ok (.aload_n 1, 1) := by decide +kernel
theorem dL_load_32 : decode cL_load 32 = .ok (.iload_n 2, 1) := by decide +kernel
theorem dL_load_33 : decode cL_load 33 = .ok (.bipush 12, 2) := by decide +kernel
theorem dL_load_35 : decode cL_load 35 = .ok (.iadd, 1) := by decide +kernel
theorem dL_load_36 : decode cL_load 36 = .ok (.invokestatic 29, 3) := by decide +kernel
theorem dL_load_39 : decode cL_load 39 = .ok (.aload_n 1, 1) := by decide +kernel
theorem dL_load_40 : decode cL_load 40 = .ok (.iload_n 2, 1) := by decide +kernel
theorem dL_load_41 : decode cL_load 41 = .ok (.bipush 16, 2) := by decide +kernel
theorem dL_load_43 : decode cL_load 43 = .ok (.iadd, 1) := by decide +kernel
theorem dL_load_44 : decode cL_load 44 = .ok (.invokestatic 29, 3) := by decide +kernel
theorem dL_load_47 : decode cL_load 47 = .ok (.invokevirtual 33, 3) := by decide +kernel
theorem dL_load_50 : decode cL_load 50 = .ok (.pop, 1) := by decide +kernel
theorem dL_load_51 : decode cL_load 51 = .ok (.iinc 2 20, 3) := by decide +kernel
theorem dL_load_54 : decode cL_load 54 = .ok (.goto (-52), 3) := by decide +kernel
theorem dL_load_57 : decode cL_load 57 = .ok (.aload_n 0, 1) := by decide +kernel
theorem dL_load_58 : decode cL_load 58 = .ok (.aload_n 1, 1) := by decide +kernel
theorem dL_load_59 : decode cL_load 59 = .ok (.invokevirtual 19, 3) := by decide +kernel
theorem dL_load_62 : decode cL_load 62 = .ok (.invokevirtual 39, 3) := by decide +kernel
theorem dL_load_65 : decode cL_load 65 = .ok (.ireturn, 1) := by decide +kernel
theorem dL_chosen_0 : decode cL_chosen 0 = .ok (.aload_n 0, 1) := by decide +kernel
theorem dL_chosen_1 : decode cL_chosen 1 = .ok (.getfield 7, 3) := by decide +kernel
theorem dL_chosen_4 : decode cL_chosen 4 = .ok (.aload_n 0, 1) := by decide +kernel
theorem dL_chosen_5 : decode cL_chosen 5 = .ok (.getfield 43, 3) := by decide +kernel
theorem dL_chosen_8 : decode cL_chosen 8 = .ok (.invokestatic 47, 3) := by decide +kernel
theorem dL_chosen_11 : decode cL_chosen 11 = .ok (.iload_n 1, 1) := by decide +kernel
theorem dL_chosen_12 : decode cL_chosen 12 = .ok (.invokestatic 51, 3) := by decide +kernel
theorem dL_chosen_15 : decode cL_chosen 15 = .ok (.istore_n 2, 1) := by decide +kernel
theorem dL_chosen_16 : decode cL_chosen 16 = .ok (.aload_n 0, 1) := by decide +kernel
theorem dL_chosen_17 : decode cL_chosen 17 = .ok (.dup, 1) := by decide +kernel
theorem dL_chosen_18 : decode cL_chosen 18 = .ok (.getfield 43, 3) := by decide +kernel
theorem dL_chosen_21 : decode cL_chosen 21 = .ok (.iconst 1, 1) := by decide +kernel
theorem dL_chosen_22 : decode cL_chosen 22 = .ok (.iadd, 1) := by decide +kernel
theorem dL_chosen_23 : decode cL_chosen 23 = .ok (.putfield 43, 3) := by decide +kernel
theorem dL_chosen_26 : decode cL_chosen 26 = .ok (.iload_n 2, 1) := by decide +kernel
theorem dL_chosen_27 : decode cL_chosen 27 = .ok (.ireturn, 1) := by decide +kernel
theorem dL_from_0 : decode cL_from 0 = .ok (.iload_n 1, 1) := by decide +kernel
theorem dL_from_1 : decode cL_from 1 = .ok (.aload_n 0, 1) := by decide +kernel
theorem dL_from_2 : decode cL_from 2 = .ok (.iload_n 2, 1) := by decide +kernel
theorem dL_from_3 : decode cL_from 3 = .ok (.iload_n 1, 1) := by decide +kernel
theorem dL_from_4 : decode cL_from 4 = .ok (.isub, 1) := by decide +kernel
theorem dL_from_5 : decode cL_from 5 = .ok (.iconst 1, 1) := by decide +kernel
theorem dL_from_6 : decode cL_from 6 = .ok (.iadd, 1) := by decide +kernel
theorem dL_from_7 : decode cL_from 7 = .ok (.invokevirtual 55, 3) := by decide +kernel
theorem dL_from_10 : decode cL_from 10 = .ok (.iadd, 1) := by decide +kernel
theorem dL_from_11 : decode cL_from 11 = .ok (.ireturn, 1) := by decide +kernel
theorem dL_text_0 : decode cL_text 0 = .ok (.aload_n 0, 1) := by decide +kernel
theorem dL_text_1 : decode cL_text 1 = .ok (.aload_n 0, 1) := by decide +kernel
theorem dL_text_2 : decode cL_text 2 = .ok (.iconst 2, 1) := by decide +kernel
theorem dL_text_3 : decode cL_text 3 = .ok (.iload_n 1, 1) := by decide +kernel
theorem dL_text_4 : decode cL_text 4 = .ok (.invokevirtual 58, 3) := by decide +kernel
theorem dL_text_7 : decode cL_text 7 = .ok (.putfield 61, 3) := by decide +kernel
theorem dL_text_10 : decode cL_text 10 = .ok (.aload_n 0, 1) := by decide +kernel
theorem dL_text_11 : decode cL_text 11 = .ok (.aload_n 0, 1) := by decide +kernel
theorem dL_text_12 : decode cL_text 12 = .ok (.iconst 2, 1) := by decide +kernel
theorem dL_text_13 : decode cL_text 13 = .ok (.iconst 5, 1) := by decide +kernel
theorem dL_text_14 : decode cL_text 14 = .ok (.invokevirtual 58, 3) := by decide +kernel
theorem dL_text_17 : decode cL_text 17 = .ok (.putfield 64, 3) := by decide +kernel
theorem dL_text_20 : decode cL_text 20 = .ok (.new 67, 3) := by decide +kernel
theorem dL_text_23 : decode cL_text 23 = .ok (.dup, 1) := by decide +kernel
theorem dL_text_24 : decode cL_text 24 = .ok (.invokespecial 69, 3) := by decide +kernel
theorem dL_text_27 : decode cL_text 27 = .ok (.ldc 70, 2) := by decide +kernel
theorem dL_text_29 : decode cL_text 29 = .ok (.invokevirtual 72, 3) := by decide +kernel
theorem dL_text_32 : decode cL_text 32 = .ok (.aload_n 0, 1) := by decide +kernel
theorem dL_text_33 : decode cL_text 33 = .ok (.getfield 61, 3) := by decide +kernel
theorem dL_text_36 : decode cL_text 36 = .ok (.invokevirtual 76, 3) := by decide +kernel
theorem dL_text_39 : decode cL_text 39 = .ok (.ldc 79, 2) := by decide +kernel
theorem dL_text_41 : decode cL_text 41 = .ok (.invokevirtual 72, 3) := by decide +kernel
theorem dL_text_44 : decode cL_text 44 = .ok (.invokevirtual 81, 3) := by decide +kernel
theorem dL_text_47 : decode cL_text 47 = .ok (.astore_n 2, 1) := by decide +kernel
theorem dL_text_48 : decode cL_text 48 = .ok (.aload_n 0, 1) := by decide +kernel
theorem dL_text_49 : decode cL_text 49 = .ok (.getfield 64, 3) := by decide +kernel
theorem dL_text_52 : decode cL_text 52 = .ok (.newarray .int, 2) := by decide +kernel
theorem dL_text_54 : decode cL_text 54 = .ok (.astore_n 3, 1) := by decide +kernel
theorem dL_text_55 : decode cL_text 55 = .ok (.iconst 0, 1) := by decide +kernel
theorem dL_text_56 : decode cL_text 56 = .ok (.istore 4, 2) := by decide +kernel
theorem dL_text_58 : decode cL_text 58 = .ok (.iload 4, 2) := by decide +kernel
theorem dL_text_60 : decode cL_text 60 = .ok (.aload_n 0, 1) := by decide +kernel
theorem dL_text_61 : decode cL_text 61 = .ok (.getfield 64, 3) := by decide +kernel
theorem dL_text_64 : decode cL_text 64 = .ok (.if_icmp .ge 72, 3) := by decide +kernel
theorem dL_text_67 : decode cL_text 67 = .ok (.aload_n 3, 1) := by decide +kernel
theorem dL_text_68 : decode cL_text 68 = .ok (.iload 4, 2) := by decide +kernel
theorem dL_text_70 : decode cL_text 70 = .ok (.aload_n 0, 1) := by decide +kernel
theorem dL_text_71 : decode cL_text 71 = .ok (.aload_n 0, 1) := by decide +kernel
theorem dL_text_72 : decode cL_text 72 = .ok (.getfield 61, 3) := by decide +kernel
theorem dL_text_75 : decode cL_text 75 = .ok (.invokevirtual 55, 3) := by decide +kernel
theorem dL_text_78 : decode cL_text 78 = .ok (.iastore, 1) := by decide +kernel
theorem dL_text_79 : decode cL_text 79 = .ok (.new 67, 3) := by decide +kernel
theorem dL_text_82 : decode cL_text 82 = .ok (.dup, 1) := by decide +kernel
theorem dL_text_83 : decode cL_text 83 = .ok (.invokespecial 69, 3) := by decide +kernel
theorem dL_text_86 : decode cL_text 86 = .ok (.aload_n 2, 1) := by decide +kernel
theorem dL_text_87 : decode cL_text 87 = .ok (.invokevirtual 72, 3) := by decide +kernel
theorem dL_text_90 : decode cL_text 90 = .ok (.ldc 85, 2) := by decide +kernel
theorem dL_text_92 : decode cL_text 92 = .ok (.invokevirtual 72, 3) := by decide +kernel
theorem dL_text_95 : decode cL_text 95 = .ok (.ldc 87, 2) := by decide +kernel
theorem dL_text_97 : decode cL_text 97 = .ok (.iload 4, 2) := by decide +kernel
theorem dL_text_99 : decode cL_text 99 = .ok (.iload 4, 2) := by decide +kernel
theorem dL_text_101 : decode cL_text 101 = .ok (.iconst 1, 1) := by decide +kernel
theorem dL_text_102 : decode cL_text 102 = .ok (.iadd, 1) := by decide +kernel
theorem dL_text_103 : decode cL_text 103 = .ok (.invokevirtual 89, 3) := by decide +kernel
theorem dL_text_106 : decode cL_text 106 = .ok (.invokevirtual 72, 3) := by decide +kernel
theorem dL_text_109 : decode cL_text 109 = .ok (.ldc 93, 2) := by decide +kernel
theorem dL_text_111 : decode cL_text 111 = .ok (.invokevirtual 72, 3) := by decide +kernel
theorem dL_text_114 : decode cL_text 114 = .ok (.aload_n 3, 1) := by decide +kernel
theorem dL_text_115 : decode cL_text 115 = .ok (.iload 4, 2) := by decide +kernel
theorem dL_text_117 : decode cL_text 117 = .ok (.iaload, 1) := by decide +kernel
theorem dL_text_118 : decode cL_text 118 = .ok (.invokevirtual 76, 3) := by decide +kernel
theorem dL_text_121 : decode cL_text 121 = .ok (.ldc 79, 2) := by decide +kernel
theorem dL_text_123 : decode cL_text 123 = .ok (.invokevirtual 72, 3) := by decide +kernel
theorem dL_text_126 : decode cL_text 126 = .ok (.invokevirtual 81, 3) := by decide +kernel
theorem dL_text_129 : decode cL_text 129 = .ok (.astore_n 2, 1) := by decide +kernel
theorem dL_text_130 : decode cL_text 130 = .ok (.iinc 4 1, 3) := by decide +kernel
theorem dL_text_133 : decode cL_text 133 = .ok (.goto (-75), 3) := by decide +kernel
theorem dL_text_136 : decode cL_text 136 = .ok (.aload_n 0, 1) := by decide +kernel
theorem dL_text_137 : decode cL_text 137 = .ok (.aload_n 0, 1) := by decide +kernel
theorem dL_text_138 : decode cL_text 138 = .ok (.bipush 8, 2) := by decide +kernel
theorem dL_text_140 : decode cL_text 140 = .ok (.invokevirtual 55, 3) := by decide +kernel
theorem dL_text_143 : decode cL_text 143 = .ok (.putfield 95, 3) := by decide +kernel
theorem dL_text_146 : decode cL_text 146 = .ok (.iconst 0, 1) := by decide +kernel
theorem dL_text_147 : decode cL_text 147 = .ok (.istore 4, 2) := by decide +kernel
theorem dL_text_149 : decode cL_text 149 = .ok (.iload 4, 2) := by decide +kernel
theorem dL_text_151 : decode cL_text 151 = .ok (.aload_n 0, 1) := by decide +kernel
theorem dL_text_152 : decode cL_text 152 = .ok (.getfield 95, 3) := by decide +kernel
theorem dL_text_155 : decode cL_text 155 = .ok (.if_icmp .ge 212, 3) := by decide +kernel
theorem dL_text_158 : decode cL_text 158 = .ok (.aload_n 0, 1) := by decide +kernel
theorem dL_text_159 : decode cL_text 159 = .ok (.aload_n 0, 1) := by decide +kernel
theorem dL_text_160 : decode cL_text 160 = .ok (.getfield 64, 3) := by decide +kernel
theorem dL_text_163 : decode cL_text 163 = .ok (.invokevirtual 55, 3) := by decide +kernel
theorem dL_text_166 : decode cL_text 166 = .ok (.istore 5, 2) := by decide +kernel
theorem dL_text_168 : decode cL_text 168 = .ok (.iload 5, 2) := by decide +kernel
theorem dL_text_170 : decode cL_text 170 = .ok (.iconst 1, 1) := by decide +kernel
theorem dL_text_171 : decode cL_text 171 = .ok (.iadd, 1) := by decide +kernel
theorem dL_text_172 : decode cL_text 172 = .ok (.aload_n 0, 1) := by decide +kernel
theorem dL_text_173 : decode cL_text 173 = .ok (.aload_n 0, 1) := by decide +kernel
theorem dL_text_174 : decode cL_text 174 = .ok (.getfield 64, 3) := by decide +kernel
theorem dL_text_177 : decode cL_text 177 = .ok (.iconst 1, 1) := by decide +kernel
theorem dL_text_178 : decode cL_text 178 = .ok (.isub, 1) := by decide +kernel
theorem dL_text_179 : decode cL_text 179 = .ok (.invokevirtual 55, 3) := by decide +kernel
theorem dL_text_182 : decode cL_text 182 = .ok (.iadd, 1) := by decide +kernel
theorem dL_text_183 : decode cL_text 183 = .ok (.aload_n 0, 1) := by decide +kernel
theorem dL_text_184 : decode cL_text 184 = .ok (.getfield 64, 3) := by decide +kernel
theorem dL_text_187 : decode cL_text 187 = .ok (.irem, 1) := by decide +kernel
theorem dL_text_188 : decode cL_text 188 = .ok (.istore 6, 2) := by decide +kernel
theorem dL_text_190 : decode cL_text 190 = .ok (.aload_n 0, 1) := by decide +kernel
theorem dL_text_191 : decode cL_text 191 = .ok (.iconst 0, 1) := by decide +kernel
theorem dL_text_192 : decode cL_text 192 = .ok (.bipush 12, 2) := by decide +kernel
theorem dL_text_194 : decode cL_text 194 = .ok (.invokevirtual 58, 3) := by decide +kernel
theorem dL_text_197 : decode cL_text 197 = .ok (.istore 7, 2) := by decide +kernel
theorem dL_text_199 : decode cL_text 199 = .ok (.aload_n 0, 1) := by decide +kernel
theorem dL_text_200 : decode cL_text 200 = .ok (.iconst 3, 1) := by decide +kernel
theorem dL_text_201 : decode cL_text 201 = .ok (.invokevirtual 55, 3) := by decide +kernel
theorem dL_text_204 : decode cL_text 204 = .ok (.ifCond .ne 7, 3) := by decide +kernel
theorem dL_text_207 : decode cL_text 207 = .ok (.iconst 0, 1) := by decide +kernel
theorem dL_text_208 : decode cL_text 208 = .ok (.goto 11, 3) := by decide +kernel
theorem dL_text_211 : decode cL_text 211 = .ok (.aload_n 0, 1) := by decide +kernel
theorem dL_text_212 : decode cL_text 212 = .ok (.aload_n 0, 1) := by decide +kernel
theorem dL_text_213 : decode cL_text 213 = .ok (.getfield 61, 3) := by decide +kernel
theorem dL_text_216 : decode cL_text 216 = .ok (.invokevirtual 55, 3) := by decide +kernel
theorem dL_text_219 : decode cL_text 219 = .ok (.istore 8, 2) := by decide +kernel
theorem dL_text_221 : decode cL_text 221 = .ok (.aload_n 0, 1) := by decide +kernel
theorem dL_text_222 : decode cL_text 222 = .ok (.iconst 3, 1) := by decide +kernel
theorem dL_text_223 : decode cL_text 223 = .ok (.invokevirtual 55, 3) := by decide +kernel
theorem dL_text_226 : decode cL_text 226 = .ok (.ifCond .le 40, 3) := by decide +kernel
theorem dL_text_229 : decode cL_text 229 = .ok (.aload_n 3, 1) := by decide +kernel
theorem dL_text_230 : decode cL_text 230 = .ok (.iload 6, 2) := by decide +kernel
theorem dL_text_232 : decode cL_text 232 = .ok (.iaload, 1) := by decide +kernel
theorem dL_text_233 : decode cL_text 233 = .ok (.aload_n 3, 1) := by decide +kernel
theorem dL_text_234 : decode cL_text 234 = .ok (.iload 5, 2) := by decide +kernel
theorem dL_text_236 : decode cL_text 236 = .ok (.iaload, 1) := by decide +kernel
theorem dL_text_237 : decode cL_text 237 = .ok (.isub, 1) := by decide +kernel
theorem dL_text_238 : decode cL_text 238 = .ok (.aload_n 0, 1) := by decide +kernel
theorem dL_text_239 : decode cL_text 239 = .ok (.getfield 61, 3) := by decide +kernel
theorem dL_text_242 : decode cL_text 242 = .ok (.iadd, 1) := by decide +kernel
theorem dL_text_243 : decode cL_text 243 = .ok (.aload_n 0, 1) := by decide +kernel
theorem dL_text_244 : decode cL_text 244 = .ok (.getfield 61, 3) := by decide +kernel
theorem dL_text_247 : decode cL_text 247 = .ok (.irem, 1) := by decide +kernel
theorem dL_text_248 : decode cL_text 248 = .ok (.iload 7, 2) := by decide +kernel
theorem dL_text_250 : decode cL_text 250 = .ok (.bipush 6, 2) := by decide +kernel
theorem dL_text_252 : decode cL_text 252 = .ok (.if_icmp .le 10, 3) := by decide +kernel
theorem dL_text_255 : decode cL_text 255 = .ok (.aload_n 0, 1) := by decide +kernel
theorem dL_text_256 : decode cL_text 256 = .ok (.getfield 61, 3) := by decide +kernel
theorem dL_text_259 : decode cL_text 259 = .ok (.goto 4, 3) := by decide +kernel
theorem dL_text_262 : decode cL_text 262 = .ok (.iconst 0, 1) := by decide +kernel
theorem dL_text_263 : decode cL_text 263 = .ok (.iadd, 1) := by decide +kernel
theorem dL_text_264 : decode cL_text 264 = .ok (.istore 7, 2) := by decide +kernel
theorem dL_text_266 : decode cL_text 266 = .ok (.new 67, 3) := by decide +kernel
theorem dL_text_269 : decode cL_text 269 = .ok (.dup, 1) := by decide +kernel
theorem dL_text_270 : decode cL_text 270 = .ok (.invokespecial 69, 3) := by decide +kernel
theorem dL_text_273 : decode cL_text 273 = .ok (.aload_n 2, 1) := by decide +kernel
theorem dL_text_274 : decode cL_text 274 = .ok (.invokevirtual 72, 3) := by decide +kernel
theorem dL_text_277 : decode cL_text 277 = .ok (.ldc 98, 2) := by decide +kernel
theorem dL_text_279 : decode cL_text 279 = .ok (.invokevirtual 72, 3) := by decide +kernel
theorem dL_text_282 : decode cL_text 282 = .ok (.ldc 87, 2) := by decide +kernel
theorem dL_text_284 : decode cL_text 284 = .ok (.iload 5, 2) := by decide +kernel
theorem dL_text_286 : decode cL_text 286 = .ok (.iload 5, 2) := by decide +kernel
theorem dL_text_288 : decode cL_text 288 = .ok (.iconst 1, 1) := by decide +kernel
theorem dL_text_289 : decode cL_text 289 = .ok (.iadd, 1) := by decide +kernel
theorem dL_text_290 : decode cL_text 290 = .ok (.invokevirtual 89, 3) := by decide +kernel
theorem dL_text_293 : decode cL_text 293 = .ok (.invokevirtual 72, 3) := by decide +kernel
theorem dL_text_296 : decode cL_text 296 = .ok (.ldc 93, 2) := by decide +kernel
theorem dL_text_298 : decode cL_text 298 = .ok (.invokevirtual 72, 3) := by decide +kernel
theorem dL_text_301 : decode cL_text 301 = .ok (.ldc 87, 2) := by decide +kernel
theorem dL_text_303 : decode cL_text 303 = .ok (.iload 6, 2) := by decide +kernel
theorem dL_text_305 : decode cL_text 305 = .ok (.iload 6, 2) := by decide +kernel
theorem dL_text_307 : decode cL_text 307 = .ok (.iconst 1, 1) := by decide +kernel
theorem dL_text_308 : decode cL_text 308 = .ok (.iadd, 1) := by decide +kernel
theorem dL_text_309 : decode cL_text 309 = .ok (.invokevirtual 89, 3) := by decide +kernel
theorem dL_text_312 : decode cL_text 312 = .ok (.invokevirtual 72, 3) := by decide +kernel
theorem dL_text_315 : decode cL_text 315 = .ok (.ldc 93, 2) := by decide +kernel
theorem dL_text_317 : decode cL_text 317 = .ok (.invokevirtual 72, 3) := by decide +kernel
theorem dL_text_320 : decode cL_text 320 = .ok (.iload 7, 2) := by decide +kernel
theorem dL_text_322 : decode cL_text 322 = .ok (.invokevirtual 76, 3) := by decide +kernel
theorem dL_text_325 : decode cL_text 325 = .ok (.ldc 93, 2) := by decide +kernel
theorem dL_text_327 : decode cL_text 327 = .ok (.invokevirtual 72, 3) := by decide +kernel
theorem dL_text_330 : decode cL_text 330 = .ok (.iload 7, 2) := by decide +kernel
theorem dL_text_332 : decode cL_text 332 = .ok (.iload 8, 2) := by decide +kernel
theorem dL_text_334 : decode cL_text 334 = .ok (.iadd, 1) := by decide +kernel
theorem dL_text_335 : decode cL_text 335 = .ok (.invokevirtual 76, 3) := by decide +kernel
theorem dL_text_338 : decode cL_text 338 = .ok (.ldc 93, 2) := by decide +kernel
theorem dL_text_340 : decode cL_text 340 = .ok (.invokevirtual 72, 3) := by decide +kernel
theorem dL_text_343 : decode cL_text 343 = .ok (.aload_n 0, 1) := by decide +kernel
theorem dL_text_344 : decode cL_text 344 = .ok (.bipush 6, 2) := by decide +kernel
theorem dL_text_346 : decode cL_text 346 = .ok (.invokevirtual 55, 3) := by decide +kernel
theorem dL_text_349 : decode cL_text 349 = .ok (.invokevirtual 76, 3) := by decide +kernel
theorem dL_text_352 : decode cL_text 352 = .ok (.ldc 79, 2) := by decide +kernel
theorem dL_text_354 : decode cL_text 354 = .ok (.invokevirtual 72, 3) := by decide +kernel
theorem dL_text_357 : decode cL_text 357 = .ok (.invokevirtual 81, 3) := by decide +kernel
theorem dL_text_360 : decode cL_text 360 = .ok (.astore_n 2, 1) := by decide +kernel
theorem dL_text_361 : decode cL_text 361 = .ok (.iinc 4 1, 3) := by decide +kernel
theorem dL_text_364 : decode cL_text 364 = .ok (.goto (-215), 3) := by decide +kernel
theorem dL_text_367 : decode cL_text 367 = .ok (.aload_n 2, 1) := by decide +kernel
theorem dL_text_368 : decode cL_text 368 = .ok (.areturn, 1) := by decide +kernel
theorem dL_law_0 : decode cL_law 0 = .ok (.new 8, 3) := by decide +kernel
theorem dL_law_3 : decode cL_law 3 = .ok (.dup, 1) := by decide +kernel
theorem dL_law_4 : decode cL_law 4 = .ok (.invokespecial 116, 3) := by decide +kernel
theorem dL_law_7 : decode cL_law 7 = .ok (.astore_n 1, 1) := by decide +kernel
theorem dL_law_8 : decode cL_law 8 = .ok (.aload_n 1, 1) := by decide +kernel
theorem dL_law_9 : decode cL_law 9 = .ok (.aload_n 0, 1) := by decide +kernel
theorem dL_law_10 : decode cL_law 10 = .ok (.putfield 7, 3) := by decide +kernel
theorem dL_law_13 : decode cL_law 13 = .ok (.new 34, 3) := by decide +kernel
theorem dL_law_16 : decode cL_law 16 = .ok (.dup, 1) := by decide +kernel
theorem dL_law_17 : decode cL_law 17 = .ok (.invokespecial 117, 3) := by decide +kernel
theorem dL_law_20 : decode cL_law 20 = .ok (.astore_n 2, 1) := by decide +kernel
theorem dL_law_21 : decode cL_law 21 = .ok (.aload_n 2, 1) := by decide +kernel
theorem dL_law_22 : decode cL_law 22 = .ok (.aload_n 1, 1) := by decide +kernel
theorem dL_law_23 : decode cL_law 23 = .ok (.bipush 6, 2) := by decide +kernel
theorem dL_law_25 : decode cL_law 25 = .ok (.invokevirtual 118, 3) := by decide +kernel
theorem dL_law_28 : decode cL_law 28 = .ok (.invokestatic 122, 3) := by decide +kernel
theorem dL_law_31 : decode cL_law 31 = .ok (.aload_n 1, 1) := by decide +kernel
theorem dL_law_32 : decode cL_law 32 = .ok (.getfield 95, 3) := by decide +kernel
theorem dL_law_35 : decode cL_law 35 = .ok (.if_icmp .ne 32, 3) := by decide +kernel
theorem dL_law_38 : decode cL_law 38 = .ok (.aload_n 2, 1) := by decide +kernel
theorem dL_law_39 : decode cL_law 39 = .ok (.invokevirtual 125, 3) := by decide +kernel
theorem dL_law_42 : decode cL_law 42 = .ok (.ifCond .ne 25, 3) := by decide +kernel
theorem dL_law_45 : decode cL_law 45 = .ok (.aload_n 2, 1) := by decide +kernel
theorem dL_law_46 : decode cL_law 46 = .ok (.invokevirtual 104, 3) := by decide +kernel
theorem dL_law_49 : decode cL_law 49 = .ok (.aload_n 1, 1) := by decide +kernel
theorem dL_law_50 : decode cL_law 50 = .ok (.getfield 64, 3) := by decide +kernel
theorem dL_law_53 : decode cL_law 53 = .ok (.if_icmp .ne 14, 3) := by decide +kernel
theorem dL_law_56 : decode cL_law 56 = .ok (.aload_n 2, 1) := by decide +kernel
theorem dL_law_57 : decode cL_law 57 = .ok (.invokevirtual 100, 3) := by decide +kernel
theorem dL_law_60 : decode cL_law 60 = .ok (.aload_n 1, 1) := by decide +kernel
theorem dL_law_61 : decode cL_law 61 = .ok (.getfield 61, 3) := by decide +kernel
theorem dL_law_64 : decode cL_law 64 = .ok (.if_icmp .eq 5, 3) := by decide +kernel
theorem dL_law_67 : decode cL_law 67 = .ok (.iconst 0, 1) := by decide +kernel
theorem dL_law_68 : decode cL_law 68 = .ok (.ireturn, 1) := by decide +kernel
theorem dL_law_69 : decode cL_law 69 = .ok (.aload_n 1, 1) := by decide +kernel
theorem dL_law_70 : decode cL_law 70 = .ok (.aload_n 2, 1) := by decide +kernel
theorem dL_law_71 : decode cL_law 71 = .ok (.invokevirtual 128, 3) := by decide +kernel
theorem dL_law_74 : decode cL_law 74 = .ok (.ifCond .eq 19, 3) := by decide +kernel
theorem dL_law_77 : decode cL_law 77 = .ok (.aload_n 1, 1) := by decide +kernel
theorem dL_law_78 : decode cL_law 78 = .ok (.aload_n 2, 1) := by decide +kernel
theorem dL_law_79 : decode cL_law 79 = .ok (.invokevirtual 132, 3) := by decide +kernel
theorem dL_law_82 : decode cL_law 82 = .ok (.ifCond .eq 11, 3) := by decide +kernel
theorem dL_law_85 : decode cL_law 85 = .ok (.aload_n 1, 1) := by decide +kernel
theorem dL_law_86 : decode cL_law 86 = .ok (.aload_n 2, 1) := by decide +kernel
theorem dL_law_87 : decode cL_law 87 = .ok (.invokevirtual 135, 3) := by decide +kernel
theorem dL_law_90 : decode cL_law 90 = .ok (.ifCond .ne 5, 3) := by decide +kernel
theorem dL_law_93 : decode cL_law 93 = .ok (.iconst 0, 1) := by decide +kernel
theorem dL_law_94 : decode cL_law 94 = .ok (.ireturn, 1) := by decide +kernel
theorem dL_law_95 : decode cL_law 95 = .ok (.aload_n 1, 1) := by decide +kernel
theorem dL_law_96 : decode cL_law 96 = .ok (.aload_n 2, 1) := by decide +kernel
theorem dL_law_97 : decode cL_law 97 = .ok (.invokevirtual 138, 3) := by decide +kernel
theorem dL_law_100 : decode cL_law 100 = .ok (.aload_n 1, 1) := by decide +kernel
theorem dL_law_101 : decode cL_law 101 = .ok (.aload_n 2, 1) := by decide +kernel
theorem dL_law_102 : decode cL_law 102 = .ok (.invokevirtual 142, 3) := by decide +kernel
theorem dL_law_105 : decode cL_law 105 = .ok (.ifCond .eq 21, 3) := by decide +kernel
theorem dL_law_108 : decode cL_law 108 = .ok (.aload_n 2, 1) := by decide +kernel
theorem dL_law_109 : decode cL_law 109 = .ok (.invokestatic 145, 3) := by decide +kernel
theorem dL_law_112 : decode cL_law 112 = .ok (.ifCond .eq 14, 3) := by decide +kernel
theorem dL_law_115 : decode cL_law 115 = .ok (.aload_n 2, 1) := by decide +kernel
theorem dL_law_116 : decode cL_law 116 = .ok (.invokestatic 148, 3) := by decide +kernel
theorem dL_law_119 : decode cL_law 119 = .ok (.ifCond .eq 7, 3) := by decide +kernel
theorem dL_law_122 : decode cL_law 122 = .ok (.iconst 1, 1) := by decide +kernel
theorem dL_law_123 : decode cL_law 123 = .ok (.goto 4, 3) := by decide +kernel
theorem dL_law_126 : decode cL_law 126 = .ok (.iconst 0, 1) := by decide +kernel
theorem dL_law_127 : decode cL_law 127 = .ok (.ireturn, 1) := by decide +kernel
theorem dL_duration_0 : decode cL_duration 0 = .ok (.aload_n 1, 1) := by decide +kernel
theorem dL_duration_1 : decode cL_duration 1 = .ok (.iload_n 2, 1) := by decide +kernel
theorem dL_duration_2 : decode cL_duration 2 = .ok (.iconst 2, 1) := by decide +kernel
theorem dL_duration_3 : decode cL_duration 3 = .ok (.invokevirtual 113, 3) := by decide +kernel
theorem dL_duration_6 : decode cL_duration 6 = .ok (.istore 4, 2) := by decide +kernel
theorem dL_duration_8 : decode cL_duration 8 = .ok (.iload 4, 2) := by decide +kernel
theorem dL_duration_10 : decode cL_duration 10 = .ok (.istore 5, 2) := by decide +kernel
theorem dL_duration_12 : decode cL_duration 12 = .ok (.aload_n 3, 1) := by decide +kernel
theorem dL_duration_13 : decode cL_duration 13 = .ok (.aload_n 1, 1) := by decide +kernel
theorem dL_duration_14 : decode cL_duration 14 = .ok (.iload_n 2, 1) := by decide +kernel
theorem dL_duration_15 : decode cL_duration 15 = .ok (.iconst 0, 1) := by decide +kernel
theorem dL_duration_16 : decode cL_duration 16 = .ok (.invokevirtual 113, 3) := by decide +kernel
theorem dL_duration_19 : decode cL_duration 19 = .ok (.iaload, 1) := by decide +kernel
theorem dL_duration_20 : decode cL_duration 20 = .ok (.iload 5, 2) := by decide +kernel
theorem dL_duration_22 : decode cL_duration 22 = .ok (.iadd, 1) := by decide +kernel
theorem dL_duration_23 : decode cL_duration 23 = .ok (.aload_n 3, 1) := by decide +kernel
theorem dL_duration_24 : decode cL_duration 24 = .ok (.aload_n 1, 1) := by decide +kernel
theorem dL_duration_25 : decode cL_duration 25 = .ok (.iload_n 2, 1) := by decide +kernel
theorem dL_duration_26 : decode cL_duration 26 = .ok (.iconst 1, 1) := by decide +kernel
theorem dL_duration_27 : decode cL_duration 27 = .ok (.invokevirtual 113, 3) := by decide +kernel
theorem dL_duration_30 : decode cL_duration 30 = .ok (.iaload, 1) := by decide +kernel
theorem dL_duration_31 : decode cL_duration 31 = .ok (.isub, 1) := by decide +kernel
theorem dL_duration_32 : decode cL_duration 32 = .ok (.aload_n 0, 1) := by decide +kernel
theorem dL_duration_33 : decode cL_duration 33 = .ok (.getfield 61, 3) := by decide +kernel
theorem dL_duration_36 : decode cL_duration 36 = .ok (.irem, 1) := by decide +kernel
theorem dL_duration_37 : decode cL_duration 37 = .ok (.ifCond .eq 9, 3) := by decide +kernel
theorem dL_duration_40 : decode cL_duration 40 = .ok (.iinc 5 1, 3) := by decide +kernel
theorem dL_duration_43 : decode cL_duration 43 = .ok (.goto (-31), 3) := by decide +kernel
theorem dL_duration_46 : decode cL_duration 46 = .ok (.iload 5, 2) := by decide +kernel
theorem dL_duration_48 : decode cL_duration 48 = .ok (.ireturn, 1) := by decide +kernel
theorem dL_timesOf_0 : decode cL_timesOf 0 = .ok (.aload_n 0, 1) := by decide +kernel
theorem dL_timesOf_1 : decode cL_timesOf 1 = .ok (.getfield 64, 3) := by decide +kernel
theorem dL_timesOf_4 : decode cL_timesOf 4 = .ok (.newarray .int, 2) := by decide +kernel
theorem dL_timesOf_6 : decode cL_timesOf 6 = .ok (.astore_n 2, 1) := by decide +kernel
theorem dL_timesOf_7 : decode cL_timesOf 7 = .ok (.iconst 0, 1) := by decide +kernel
theorem dL_timesOf_8 : decode cL_timesOf 8 = .ok (.istore_n 3, 1) := by decide +kernel
theorem dL_timesOf_9 : decode cL_timesOf 9 = .ok (.iload_n 3, 1) := by decide +kernel
theorem dL_timesOf_10 : decode cL_timesOf 10 = .ok (.aload_n 0, 1) := by decide +kernel
theorem dL_timesOf_11 : decode cL_timesOf 11 = .ok (.getfield 64, 3) := by decide +kernel
theorem dL_timesOf_14 : decode cL_timesOf 14 = .ok (.if_icmp .ge 17, 3) := by decide +kernel
theorem dL_timesOf_17 : decode cL_timesOf 17 = .ok (.aload_n 2, 1) := by decide +kernel
theorem dL_timesOf_18 : decode cL_timesOf 18 = .ok (.iload_n 3, 1) := by decide +kernel
theorem dL_timesOf_19 : decode cL_timesOf 19 = .ok (.aload_n 1, 1) := by decide +kernel
theorem dL_timesOf_20 : decode cL_timesOf 20 = .ok (.iload_n 3, 1) := by decide +kernel
theorem dL_timesOf_21 : decode cL_timesOf 21 = .ok (.invokevirtual 106, 3) := by decide +kernel
theorem dL_timesOf_24 : decode cL_timesOf 24 = .ok (.iastore, 1) := by decide +kernel
theorem dL_timesOf_25 : decode cL_timesOf 25 = .ok (.iinc 3 1, 3) := by decide +kernel
theorem dL_timesOf_28 : decode cL_timesOf 28 = .ok (.goto (-19), 3) := by decide +kernel
theorem dL_timesOf_31 : decode cL_timesOf 31 = .ok (.aload_n 2, 1) := by decide +kernel
theorem dL_timesOf_32 : decode cL_timesOf 32 = .ok (.areturn, 1) := by decide +kernel
theorem dL_areSpans_0 : decode cL_areSpans 0 = .ok (.aload_n 0, 1) := by decide +kernel
theorem dL_areSpans_1 : decode cL_areSpans 1 = .ok (.aload_n 1, 1) := by decide +kernel
theorem dL_areSpans_2 : decode cL_areSpans 2 = .ok (.invokevirtual 151, 3) := by decide +kernel
theorem dL_areSpans_5 : decode cL_areSpans 5 = .ok (.astore_n 2, 1) := by decide +kernel
theorem dL_areSpans_6 : decode cL_areSpans 6 = .ok (.iconst 0, 1) := by decide +kernel
theorem dL_areSpans_7 : decode cL_areSpans 7 = .ok (.istore_n 3, 1) := by decide +kernel
theorem dL_areSpans_8 : decode cL_areSpans 8 = .ok (.iconst 0, 1) := by decide +kernel
theorem dL_areSpans_9 : decode cL_areSpans 9 = .ok (.istore 4, 2) := by decide +kernel
theorem dL_areSpans_11 : decode cL_areSpans 11 = .ok (.iconst 0, 1) := by decide +kernel
theorem dL_areSpans_12 : decode cL_areSpans 12 = .ok (.istore 5, 2) := by decide +kernel
theorem dL_areSpans_14 : decode cL_areSpans 14 = .ok (.iconst (-1), 1) := by decide +kernel
theorem dL_areSpans_15 : decode cL_areSpans 15 = .ok (.istore 6, 2) := by decide +kernel
theorem dL_areSpans_17 : decode cL_areSpans 17 = .ok (.iconst 0, 1) := by decide +kernel
theorem dL_areSpans_18 : decode cL_areSpans 18 = .ok (.istore 7, 2) := by decide +kernel
theorem dL_areSpans_20 : decode cL_areSpans 20 = .ok (.iload 7, 2) := by decide +kernel
theorem dL_areSpans_22 : decode cL_areSpans 22 = .ok (.aload_n 0, 1) := by decide +kernel
theorem dL_areSpans_23 : decode cL_areSpans 23 = .ok (.getfield 95, 3) := by decide +kernel
theorem dL_areSpans_26 : decode cL_areSpans 26 = .ok (.if_icmp .ge 143, 3) := by decide +kernel
theorem dL_areSpans_29 : decode cL_areSpans 29 = .ok (.aload_n 0, 1) := by decide +kernel
theorem dL_areSpans_30 : decode cL_areSpans 30 = .ok (.aload_n 1, 1) := by decide +kernel
theorem dL_areSpans_31 : decode cL_areSpans 31 = .ok (.iload 7, 2) := by decide +kernel
theorem dL_areSpans_33 : decode cL_areSpans 33 = .ok (.aload_n 2, 1) := by decide +kernel
theorem dL_areSpans_34 : decode cL_areSpans 34 = .ok (.invokevirtual 155, 3) := by decide +kernel
theorem dL_areSpans_37 : decode cL_areSpans 37 = .ok (.istore 8, 2) := by decide +kernel
theorem dL_areSpans_39 : decode cL_areSpans 39 = .ok (.iload 8, 2) := by decide +kernel
theorem dL_areSpans_41 : decode cL_areSpans 41 = .ok (.aload_n 1, 1) := by decide +kernel
theorem dL_areSpans_42 : decode cL_areSpans 42 = .ok (.iload 7, 2) := by decide +kernel
theorem dL_areSpans_44 : decode cL_areSpans 44 = .ok (.iconst 3, 1) := by decide +kernel
theorem dL_areSpans_45 : decode cL_areSpans 45 = .ok (.invokevirtual 113, 3) := by decide +kernel
theorem dL_areSpans_48 : decode cL_areSpans 48 = .ok (.if_icmp .gt 7, 3) := by decide +kernel
theorem dL_areSpans_51 : decode cL_areSpans 51 = .ok (.iconst 1, 1) := by decide +kernel
theorem dL_areSpans_52 : decode cL_areSpans 52 = .ok (.goto 4, 3) := by decide +kernel
theorem dL_areSpans_55 : decode cL_areSpans 55 = .ok (.iconst 0, 1) := by decide +kernel
theorem dL_areSpans_56 : decode cL_areSpans 56 = .ok (.istore 9, 2) := by decide +kernel
theorem dL_areSpans_58 : decode cL_areSpans 58 = .ok (.aload_n 1, 1) := by decide +kernel
theorem dL_areSpans_59 : decode cL_areSpans 59 = .ok (.iload 7, 2) := by decide +kernel
theorem dL_areSpans_61 : decode cL_areSpans 61 = .ok (.invokevirtual 159, 3) := by decide +kernel
theorem dL_areSpans_64 : decode cL_areSpans 64 = .ok (.iload 8, 2) := by decide +kernel
theorem dL_areSpans_66 : decode cL_areSpans 66 = .ok (.if_icmp .ne 33, 3) := by decide +kernel
theorem dL_areSpans_69 : decode cL_areSpans 69 = .ok (.aload_n 1, 1) := by decide +kernel
theorem dL_areSpans_70 : decode cL_areSpans 70 = .ok (.iload 7, 2) := by decide +kernel
theorem dL_areSpans_72 : decode cL_areSpans 72 = .ok (.invokevirtual 161, 3) := by decide +kernel
theorem dL_areSpans_75 : decode cL_areSpans 75 = .ok (.iload 8, 2) := by decide +kernel
theorem dL_areSpans_77 : decode cL_areSpans 77 = .ok (.aload_n 1, 1) := by decide +kernel
theorem dL_areSpans_78 : decode cL_areSpans 78 = .ok (.iload 7, 2) := by decide +kernel
theorem dL_areSpans_80 : decode cL_areSpans 80 = .ok (.iconst 2, 1) := by decide +kernel
theorem dL_areSpans_81 : decode cL_areSpans 81 = .ok (.invokevirtual 113, 3) := by decide +kernel
theorem dL_areSpans_84 : decode cL_areSpans 84 = .ok (.isub, 1) := by decide +kernel
theorem dL_areSpans_85 : decode cL_areSpans 85 = .ok (.if_icmp .ne 14, 3) := by decide +kernel
theorem dL_areSpans_88 : decode cL_areSpans 88 = .ok (.aload_n 1, 1) := by decide +kernel
theorem dL_areSpans_89 : decode cL_areSpans 89 = .ok (.iload 7, 2) := by decide +kernel
theorem dL_areSpans_91 : decode cL_areSpans 91 = .ok (.invokevirtual 164, 3) := by decide +kernel
theorem dL_areSpans_94 : decode cL_areSpans 94 = .ok (.iload 9, 2) := by decide +kernel
theorem dL_areSpans_96 : decode cL_areSpans 96 = .ok (.if_icmp .eq 5, 3) := by decide +kernel
theorem dL_areSpans_99 : decode cL_areSpans 99 = .ok (.iconst 0, 1) := by decide +kernel
theorem dL_areSpans_100 : decode cL_areSpans 100 = .ok (.ireturn, 1) := by decide +kernel
theorem dL_areSpans_101 : decode cL_areSpans 101 = .ok (.iload 9, 2) := by decide +kernel
theorem dL_areSpans_103 : decode cL_areSpans 103 = .ok (.ifCond .ne 12, 3) := by decide +kernel
theorem dL_areSpans_106 : decode cL_areSpans 106 = .ok (.iload 6, 2) := by decide +kernel
theorem dL_areSpans_108 : decode cL_areSpans 108 = .ok (.ifCond .ge 7, 3) := by decide +kernel
theorem dL_areSpans_111 : decode cL_areSpans 111 = .ok (.iload 7, 2) := by decide +kernel
theorem dL_areSpans_113 : decode cL_areSpans 113 = .ok (.istore 6, 2) := by decide +kernel
theorem dL_areSpans_115 : decode cL_areSpans 115 = .ok (.iload_n 3, 1) := by decide +kernel
theorem dL_areSpans_116 : decode cL_areSpans 116 = .ok (.iload 9, 2) := by decide +kernel
theorem dL_areSpans_118 : decode cL_areSpans 118 = .ok (.ifCond .eq 7, 3) := by decide +kernel
theorem dL_areSpans_121 : decode cL_areSpans 121 = .ok (.iconst 0, 1) := by decide +kernel
theorem dL_areSpans_122 : decode cL_areSpans 122 = .ok (.goto 4, 3) := by decide +kernel
theorem dL_areSpans_125 : decode cL_areSpans 125 = .ok (.iconst 1, 1) := by decide +kernel
theorem dL_areSpans_126 : decode cL_areSpans 126 = .ok (.iadd, 1) := by decide +kernel
theorem dL_areSpans_127 : decode cL_areSpans 127 = .ok (.istore_n 3, 1) := by decide +kernel
theorem dL_areSpans_128 : decode cL_areSpans 128 = .ok (.iload 4, 2) := by decide +kernel
theorem dL_areSpans_130 : decode cL_areSpans 130 = .ok (.aload_n 1, 1) := by decide +kernel
theorem dL_areSpans_131 : decode cL_areSpans 131 = .ok (.iload 7, 2) := by decide +kernel
theorem dL_areSpans_133 : decode cL_areSpans 133 = .ok (.iconst 4, 1) := by decide +kernel
theorem dL_areSpans_134 : decode cL_areSpans 134 = .ok (.invokevirtual 113, 3) := by decide +kernel
theorem dL_areSpans_137 : decode cL_areSpans 137 = .ok (.iload 8, 2) := by decide +kernel
theorem dL_areSpans_139 : decode cL_areSpans 139 = .ok (.aload_n 1, 1) := by decide +kernel
theorem dL_areSpans_140 : decode cL_areSpans 140 = .ok (.iload 7, 2) := by decide +kernel
theorem dL_areSpans_142 : decode cL_areSpans 142 = .ok (.iconst 2, 1) := by decide +kernel
theorem dL_areSpans_143 : decode cL_areSpans 143 = .ok (.invokevirtual 113, 3) := by decide +kernel
theorem dL_areSpans_146 : decode cL_areSpans 146 = .ok (.isub, 1) := by decide +kernel
theorem dL_areSpans_147 : decode cL_areSpans 147 = .ok (.imul, 1) := by decide +kernel
theorem dL_areSpans_148 : decode cL_areSpans 148 = .ok (.iadd, 1) := by decide +kernel
theorem dL_areSpans_149 : decode cL_areSpans 149 = .ok (.istore 4, 2) := by decide +kernel
theorem dL_areSpans_151 : decode cL_areSpans 151 = .ok (.iload 5, 2) := by decide +kernel
theorem dL_areSpans_153 : decode cL_areSpans 153 = .ok (.aload_n 1, 1) := by decide +kernel
theorem dL_areSpans_154 : decode cL_areSpans 154 = .ok (.iload 7, 2) := by decide +kernel
theorem dL_areSpans_156 : decode cL_areSpans 156 = .ok (.iconst 4, 1) := by decide +kernel
theorem dL_areSpans_157 : decode cL_areSpans 157 = .ok (.invokevirtual 113, 3) := by decide +kernel
theorem dL_areSpans_160 : decode cL_areSpans 160 = .ok (.iadd, 1) := by decide +kernel
theorem dL_areSpans_161 : decode cL_areSpans 161 = .ok (.istore 5, 2) := by decide +kernel
theorem dL_areSpans_163 : decode cL_areSpans 163 = .ok (.iinc 7 1, 3) := by decide +kernel
theorem dL_areSpans_166 : decode cL_areSpans 166 = .ok (.goto (-146), 3) := by decide +kernel
theorem dL_areSpans_169 : decode cL_areSpans 169 = .ok (.aload_n 1, 1) := by decide +kernel
theorem dL_areSpans_170 : decode cL_areSpans 170 = .ok (.invokevirtual 168, 3) := by decide +kernel
theorem dL_areSpans_173 : decode cL_areSpans 173 = .ok (.iload_n 3, 1) := by decide +kernel
theorem dL_areSpans_174 : decode cL_areSpans 174 = .ok (.if_icmp .ne 36, 3) := by decide +kernel
theorem dL_areSpans_177 : decode cL_areSpans 177 = .ok (.aload_n 1, 1) := by decide +kernel
theorem dL_areSpans_178 : decode cL_areSpans 178 = .ok (.invokevirtual 171, 3) := by decide +kernel
theorem dL_areSpans_181 : decode cL_areSpans 181 = .ok (.iload 4, 2) := by decide +kernel
theorem dL_areSpans_183 : decode cL_areSpans 183 = .ok (.if_icmp .ne 27, 3) := by decide +kernel
theorem dL_areSpans_186 : decode cL_areSpans 186 = .ok (.aload_n 1, 1) := by decide +kernel
theorem dL_areSpans_187 : decode cL_areSpans 187 = .ok (.invokevirtual 174, 3) := by decide +kernel
theorem dL_areSpans_190 : decode cL_areSpans 190 = .ok (.iload 5, 2) := by decide +kernel
theorem dL_areSpans_192 : decode cL_areSpans 192 = .ok (.ifCond .ne 7, 3) := by decide +kernel
theorem dL_areSpans_195 : decode cL_areSpans 195 = .ok (.fconst 0, 1) := by decide +kernel
theorem dL_areSpans_196 : decode cL_areSpans 196 = .ok (.goto 10, 3) := by decide +kernel
theorem dL_areSpans_199 : decode cL_areSpans 199 = .ok (.iload 4, 2) := by decide +kernel
theorem dL_areSpans_201 : decode cL_areSpans 201 = .ok (.i2f, 1) := by decide +kernel
theorem dL_areSpans_202 : decode cL_areSpans 202 = .ok (.iload 5, 2) := by decide +kernel
theorem dL_areSpans_204 : decode cL_areSpans 204 = .ok (.i2f, 1) := by decide +kernel
theorem dL_areSpans_205 : decode cL_areSpans 205 = .ok (.fdiv, 1) := by decide +kernel
theorem dL_areSpans_206 : decode cL_areSpans 206 = .ok (.fcmp .l, 1) := by decide +kernel
theorem dL_areSpans_207 : decode cL_areSpans 207 = .ok (.ifCond .eq 5, 3) := by decide +kernel
theorem dL_areSpans_210 : decode cL_areSpans 210 = .ok (.iconst 0, 1) := by decide +kernel
theorem dL_areSpans_211 : decode cL_areSpans 211 = .ok (.ireturn, 1) := by decide +kernel
theorem dL_areSpans_212 : decode cL_areSpans 212 = .ok (.iload 6, 2) := by decide +kernel
theorem dL_areSpans_214 : decode cL_areSpans 214 = .ok (.ifCond .ge 10, 3) := by decide +kernel
theorem dL_areSpans_217 : decode cL_areSpans 217 = .ok (.aload_n 1, 1) := by decide +kernel
theorem dL_areSpans_218 : decode cL_areSpans 218 = .ok (.invokestatic 178, 3) := by decide +kernel
theorem dL_areSpans_221 : decode cL_areSpans 221 = .ok (.goto 17, 3) := by decide +kernel
theorem dL_areSpans_224 : decode cL_areSpans 224 = .ok (.aload_n 1, 1) := by decide +kernel
theorem dL_areSpans_225 : decode cL_areSpans 225 = .ok (.invokevirtual 181, 3) := by decide +kernel
theorem dL_areSpans_228 : decode cL_areSpans 228 = .ok (.iload 6, 2) := by decide +kernel
theorem dL_areSpans_230 : decode cL_areSpans 230 = .ok (.if_icmp .ne 7, 3) := by decide +kernel
theorem dL_areSpans_233 : decode cL_areSpans 233 = .ok (.iconst 1, 1) := by decide +kernel
theorem dL_areSpans_234 : decode cL_areSpans 234 = .ok (.goto 4, 3) := by decide +kernel
theorem dL_areSpans_237 : decode cL_areSpans 237 = .ok (.iconst 0, 1) := by decide +kernel
theorem dL_areSpans_238 : decode cL_areSpans 238 = .ok (.ireturn, 1) := by decide +kernel
theorem dL_hasNoneBroken_0 : decode cL_hasNoneBroken 0 = .ok (.aload_n 0, 1) := by decide +kernel
theorem dL_hasNoneBroken_1 : decode cL_hasNoneBroken 1 = .ok (.invokevirtual 181, 3) := by decide +kernel
theorem dL_hasNoneBroken_4 : decode cL_hasNoneBroken 4 = .ok (.bipush (-7), 2) := by decide +kernel
theorem dL_hasNoneBroken_6 : decode cL_hasNoneBroken 6 = .ok (.if_icmp .ne 7, 3) := by decide +kernel
theorem dL_hasNoneBroken_9 : decode cL_hasNoneBroken 9 = .ok (.iconst 1, 1) := by decide +kernel
theorem dL_hasNoneBroken_10 : decode cL_hasNoneBroken 10 = .ok (.goto 4, 3) := by decide +kernel
theorem dL_hasNoneBroken_13 : decode cL_hasNoneBroken 13 = .ok (.iconst 0, 1) := by decide +kernel
theorem dL_hasNoneBroken_14 : decode cL_hasNoneBroken 14 = .ok (.ireturn, 1) := by decide +kernel
theorem dL_hasNoneBroken_15 : decode cL_hasNoneBroken 15 = .ok (.astore_n 1, 1) := by decide +kernel
theorem dL_hasNoneBroken_16 : decode cL_hasNoneBroken 16 = .ok (.iconst 1, 1) := by decide +kernel
theorem dL_hasNoneBroken_17 : decode cL_hasNoneBroken 17 = .ok (.ireturn, 1) := by decide +kernel
theorem dL_isShared_0 : decode cL_isShared 0 = .ok (.aload_n 0, 1) := by decide +kernel
theorem dL_isShared_1 : decode cL_isShared 1 = .ok (.bipush 100, 2) := by decide +kernel
theorem dL_isShared_3 : decode cL_isShared 3 = .ok (.invokevirtual 55, 3) := by decide +kernel
theorem dL_isShared_6 : decode cL_isShared 6 = .ok (.istore_n 2, 1) := by decide +kernel
theorem dL_isShared_7 : decode cL_isShared 7 = .ok (.iconst 0, 1) := by decide +kernel
theorem dL_isShared_8 : decode cL_isShared 8 = .ok (.istore_n 3, 1) := by decide +kernel
theorem dL_isShared_9 : decode cL_isShared 9 = .ok (.iconst 0, 1) := by decide +kernel
theorem dL_isShared_10 : decode cL_isShared 10 = .ok (.istore 4, 2) := by decide +kernel
theorem dL_isShared_12 : decode cL_isShared 12 = .ok (.iconst 0, 1) := by decide +kernel
theorem dL_isShared_13 : decode cL_isShared 13 = .ok (.istore 5, 2) := by decide +kernel
theorem dL_isShared_15 : decode cL_isShared 15 = .ok (.iload 5, 2) := by decide +kernel
theorem dL_isShared_17 : decode cL_isShared 17 = .ok (.aload_n 0, 1) := by decide +kernel
theorem dL_isShared_18 : decode cL_isShared 18 = .ok (.getfield 95, 3) := by decide +kernel
theorem dL_isShared_21 : decode cL_isShared 21 = .ok (.if_icmp .ge 19, 3) := by decide +kernel
theorem dL_isShared_24 : decode cL_isShared 24 = .ok (.iload_n 3, 1) := by decide +kernel
theorem dL_isShared_25 : decode cL_isShared 25 = .ok (.aload_n 1, 1) := by decide +kernel
theorem dL_isShared_26 : decode cL_isShared 26 = .ok (.iload 5, 2) := by decide +kernel
theorem dL_isShared_28 : decode cL_isShared 28 = .ok (.iconst 4, 1) := by decide +kernel
theorem dL_isShared_29 : decode cL_isShared 29 = .ok (.invokevirtual 113, 3) := by decide +kernel
theorem dL_isShared_32 : decode cL_isShared 32 = .ok (.iadd, 1) := by decide +kernel
theorem dL_isShared_33 : decode cL_isShared 33 = .ok (.istore_n 3, 1) := by decide +kernel
theorem dL_isShared_34 : decode cL_isShared 34 = .ok (.iinc 5 1, 3) := by decide +kernel
theorem dL_isShared_37 : decode cL_isShared 37 = .ok (.goto (-22), 3) := by decide +kernel
theorem dL_isShared_40 : decode cL_isShared 40 = .ok (.iconst 0, 1) := by decide +kernel
theorem dL_isShared_41 : decode cL_isShared 41 = .ok (.istore 5, 2) := by decide +kernel
theorem dL_isShared_43 : decode cL_isShared 43 = .ok (.iload 5, 2) := by decide +kernel
theorem dL_isShared_45 : decode cL_isShared 45 = .ok (.aload_n 0, 1) := by decide +kernel
theorem dL_isShared_46 : decode cL_isShared 46 = .ok (.getfield 95, 3) := by decide +kernel
theorem dL_isShared_49 : decode cL_isShared 49 = .ok (.if_icmp .ge 86, 3) := by decide +kernel
theorem dL_isShared_52 : decode cL_isShared 52 = .ok (.aload_n 1, 1) := by decide +kernel
theorem dL_isShared_53 : decode cL_isShared 53 = .ok (.iload 5, 2) := by decide +kernel
theorem dL_isShared_55 : decode cL_isShared 55 = .ok (.iload_n 2, 1) := by decide +kernel
theorem dL_isShared_56 : decode cL_isShared 56 = .ok (.invokevirtual 186, 3) := by decide +kernel
theorem dL_isShared_59 : decode cL_isShared 59 = .ok (.istore 6, 2) := by decide +kernel
theorem dL_isShared_61 : decode cL_isShared 61 = .ok (.iload_n 3, 1) := by decide +kernel
theorem dL_isShared_62 : decode cL_isShared 62 = .ok (.ifCond .ne 7, 3) := by decide +kernel
theorem dL_isShared_65 : decode cL_isShared 65 = .ok (.iconst 0, 1) := by decide +kernel
theorem dL_isShared_66 : decode cL_isShared 66 = .ok (.goto 14, 3) := by decide +kernel
theorem dL_isShared_69 : decode cL_isShared 69 = .ok (.iload_n 2, 1) := by decide +kernel
theorem dL_isShared_70 : decode cL_isShared 70 = .ok (.aload_n 1, 1) := by decide +kernel
theorem dL_isShared_71 : decode cL_isShared 71 = .ok (.iload 5, 2) := by decide +kernel
theorem dL_isShared_73 : decode cL_isShared 73 = .ok (.iconst 4, 1) := by decide +kernel
theorem dL_isShared_74 : decode cL_isShared 74 = .ok (.invokevirtual 113, 3) := by decide +kernel
theorem dL_isShared_77 : decode cL_isShared 77 = .ok (.imul, 1) := by decide +kernel
theorem dL_isShared_78 : decode cL_isShared 78 = .ok (.iload_n 3, 1) := by decide +kernel
theorem dL_isShared_79 : decode cL_isShared 79 = .ok (.idiv, 1) := by decide +kernel
theorem dL_isShared_80 : decode cL_isShared 80 = .ok (.istore 7, 2) := by decide +kernel
theorem dL_isShared_82 : decode cL_isShared 82 = .ok (.iload 6, 2) := by decide +kernel
theorem dL_isShared_84 : decode cL_isShared 84 = .ok (.iload 7, 2) := by decide +kernel
theorem dL_isShared_86 : decode cL_isShared 86 = .ok (.if_icmp .lt 34, 3) := by decide +kernel
theorem dL_isShared_89 : decode cL_isShared 89 = .ok (.iload 6, 2) := by decide +kernel
theorem dL_isShared_91 : decode cL_isShared 91 = .ok (.iload 7, 2) := by decide +kernel
theorem dL_isShared_93 : decode cL_isShared 93 = .ok (.iload_n 3, 1) := by decide +kernel
theorem dL_isShared_94 : decode cL_isShared 94 = .ok (.ifCond .eq 17, 3) := by decide +kernel
theorem dL_isShared_97 : decode cL_isShared 97 = .ok (.iload_n 2, 1) := by decide +kernel
theorem dL_isShared_98 : decode cL_isShared 98 = .ok (.aload_n 1, 1) := by decide +kernel
theorem dL_isShared_99 : decode cL_isShared 99 = .ok (.iload 5, 2) := by decide +kernel
theorem dL_isShared_101 : decode cL_isShared 101 = .ok (.iconst 4, 1) := by decide +kernel
theorem dL_isShared_102 : decode cL_isShared 102 = .ok (.invokevirtual 113, 3) := by decide +kernel
theorem dL_isShared_105 : decode cL_isShared 105 = .ok (.imul, 1) := by decide +kernel
theorem dL_isShared_106 : decode cL_isShared 106 = .ok (.iload_n 3, 1) := by decide +kernel
theorem dL_isShared_107 : decode cL_isShared 107 = .ok (.irem, 1) := by decide +kernel
theorem dL_isShared_108 : decode cL_isShared 108 = .ok (.ifCond .ne 7, 3) := by decide +kernel
theorem dL_isShared_111 : decode cL_isShared 111 = .ok (.iconst 0, 1) := by decide +kernel
theorem dL_isShared_112 : decode cL_isShared 112 = .ok (.goto 4, 3) := by decide +kernel
theorem dL_isShared_115 : decode cL_isShared 115 = .ok (.iconst 1, 1) := by decide +kernel
theorem dL_isShared_116 : decode cL_isShared 116 = .ok (.iadd, 1) := by decide +kernel
theorem dL_isShared_117 : decode cL_isShared 117 = .ok (.if_icmp .le 5, 3) := by decide +kernel
theorem dL_isShared_120 : decode cL_isShared 120 = .ok (.iconst 0, 1) := by decide +kernel
theorem dL_isShared_121 : decode cL_isShared 121 = .ok (.ireturn, 1) := by decide +kernel
theorem dL_isShared_122 : decode cL_isShared 122 = .ok (.iload 4, 2) := by decide +kernel
theorem dL_isShared_124 : decode cL_isShared 124 = .ok (.iload 6, 2) := by decide +kernel
theorem dL_isShared_126 : decode cL_isShared 126 = .ok (.iadd, 1) := by decide +kernel
theorem dL_isShared_127 : decode cL_isShared 127 = .ok (.istore 4, 2) := by decide +kernel
theorem dL_isShared_129 : decode cL_isShared 129 = .ok (.iinc 5 1, 3) := by decide +kernel
theorem dL_isShared_132 : decode cL_isShared 132 = .ok (.goto (-89), 3) := by decide +kernel
theorem dL_isShared_135 : decode cL_isShared 135 = .ok (.iload 4, 2) := by decide +kernel
theorem dL_isShared_137 : decode cL_isShared 137 = .ok (.iload_n 3, 1) := by decide +kernel
theorem dL_isShared_138 : decode cL_isShared 138 = .ok (.ifCond .ne 7, 3) := by decide +kernel
theorem dL_isShared_141 : decode cL_isShared 141 = .ok (.iconst 0, 1) := by decide +kernel
theorem dL_isShared_142 : decode cL_isShared 142 = .ok (.goto 4, 3) := by decide +kernel
theorem dL_isShared_145 : decode cL_isShared 145 = .ok (.iload_n 2, 1) := by decide +kernel
theorem dL_isShared_146 : decode cL_isShared 146 = .ok (.if_icmp .ne 7, 3) := by decide +kernel
theorem dL_isShared_149 : decode cL_isShared 149 = .ok (.iconst 1, 1) := by decide +kernel
theorem dL_isShared_150 : decode cL_isShared 150 = .ok (.goto 4, 3) := by decide +kernel
theorem dL_isShared_153 : decode cL_isShared 153 = .ok (.iconst 0, 1) := by decide +kernel
theorem dL_isShared_154 : decode cL_isShared 154 = .ok (.ireturn, 1) := by decide +kernel
theorem dL_areDifferences_0 : decode cL_areDifferences 0 = .ok (.aload_n 0, 1) := by decide +kernel
theorem dL_areDifferences_1 : decode cL_areDifferences 1 = .ok (.aload_n 0, 1) := by decide +kernel
theorem dL_areDifferences_2 : decode cL_areDifferences 2 = .ok (.getfield 64, 3) := by decide +kernel
theorem dL_areDifferences_5 : decode cL_areDifferences 5 = .ok (.invokevirtual 55, 3) := by decide +kernel
theorem dL_areDifferences_8 : decode cL_areDifferences 8 = .ok (.istore_n 2, 1) := by decide +kernel
theorem dL_areDifferences_9 : decode cL_areDifferences 9 = .ok (.aload_n 0, 1) := by decide +kernel
theorem dL_areDifferences_10 : decode cL_areDifferences 10 = .ok (.aload_n 0, 1) := by decide +kernel
theorem dL_areDifferences_11 : decode cL_areDifferences 11 = .ok (.getfield 64, 3) := by decide +kernel
theorem dL_areDifferences_14 : decode cL_areDifferences 14 = .ok (.invokevirtual 55, 3) := by decide +kernel
theorem dL_areDifferences_17 : decode cL_areDifferences 17 = .ok (.istore_n 3, 1) := by decide +kernel
theorem dL_areDifferences_18 : decode cL_areDifferences 18 = .ok (.iconst 0, 1) := by decide +kernel
theorem dL_areDifferences_19 : decode cL_areDifferences 19 = .ok (.istore 4, 2) := by decide +kernel
theorem dL_areDifferences_21 : decode cL_areDifferences 21 = .ok (.iconst 0, 1) := by decide +kernel
theorem dL_areDifferences_22 : decode cL_areDifferences 22 = .ok (.istore 5, 2) := by decide +kernel
theorem dL_areDifferences_24 : decode cL_areDifferences 24 = .ok (.iload 5, 2) := by decide +kernel
theorem dL_areDifferences_26 : decode cL_areDifferences 26 = .ok (.aload_n 0, 1) := by decide +kernel
theorem dL_areDifferences_27 : decode cL_areDifferences 27 = .ok (.getfield 61, 3) := by decide +kernel
theorem dL_areDifferences_30 : decode cL_areDifferences 30 = .ok (.if_icmp .ge 192, 3) := by decide +kernel
theorem dL_areDifferences_33 : decode cL_areDifferences 33 = .ok (.aload_n 0, 1) := by decide +kernel
theorem dL_areDifferences_34 : decode cL_areDifferences 34 = .ok (.getfield 64, 3) := by decide +kernel
theorem dL_areDifferences_37 : decode cL_areDifferences 37 = .ok (.newarray .int, 2) := by decide +kernel
theorem dL_areDifferences_39 : decode cL_areDifferences 39 = .ok (.astore 6, 2) := by decide +kernel
theorem dL_areDifferences_41 : decode cL_areDifferences 41 = .ok (.aload 6, 2) := by decide +kernel
theorem dL_areDifferences_43 : decode cL_areDifferences 43 = .ok (.iload_n 3, 1) := by decide +kernel
theorem dL_areDifferences_44 : decode cL_areDifferences 44 = .ok (.iload_n 2, 1) := by decide +kernel
theorem dL_areDifferences_45 : decode cL_areDifferences 45 = .ok (.iload_n 3, 1) := by decide +kernel
theorem dL_areDifferences_46 : decode cL_areDifferences 46 = .ok (.if_icmp .ne 7, 3) := by decide +kernel
theorem dL_areDifferences_49 : decode cL_areDifferences 49 = .ok (.iconst 0, 1) := by decide +kernel
theorem dL_areDifferences_50 : decode cL_areDifferences 50 = .ok (.goto 5, 3) := by decide +kernel
theorem dL_areDifferences_53 : decode cL_areDifferences 53 = .ok (.iload 5, 2) := by decide +kernel
theorem dL_areDifferences_55 : decode cL_areDifferences 55 = .ok (.iastore, 1) := by decide +kernel
theorem dL_areDifferences_56 : decode cL_areDifferences 56 = .ok (.iload_n 2, 1) := by decide +kernel
theorem dL_areDifferences_57 : decode cL_areDifferences 57 = .ok (.iload_n 3, 1) := by decide +kernel
theorem dL_areDifferences_58 : decode cL_areDifferences 58 = .ok (.if_icmp .ne 8, 3) := by decide +kernel
theorem dL_areDifferences_61 : decode cL_areDifferences 61 = .ok (.iload 5, 2) := by decide +kernel
theorem dL_areDifferences_63 : decode cL_areDifferences 63 = .ok (.ifCond .ne 7, 3) := by decide +kernel
theorem dL_areDifferences_66 : decode cL_areDifferences 66 = .ok (.iconst 1, 1) := by decide +kernel
theorem dL_areDifferences_67 : decode cL_areDifferences 67 = .ok (.goto 4, 3) := by decide +kernel
theorem dL_areDifferences_70 : decode cL_areDifferences 70 = .ok (.iconst 0, 1) := by decide +kernel
theorem dL_areDifferences_71 : decode cL_areDifferences 71 = .ok (.istore 7, 2) := by decide +kernel
theorem dL_areDifferences_73 : decode cL_areDifferences 73 = .ok (.iconst 0, 1) := by decide +kernel
theorem dL_areDifferences_74 : decode cL_areDifferences 74 = .ok (.istore 8, 2) := by decide +kernel
theorem dL_areDifferences_76 : decode cL_areDifferences 76 = .ok (.iload 8, 2) := by decide +kernel
theorem dL_areDifferences_78 : decode cL_areDifferences 78 = .ok (.aload_n 0, 1) := by decide +kernel
theorem dL_areDifferences_79 : decode cL_areDifferences 79 = .ok (.getfield 95, 3) := by decide +kernel
theorem dL_areDifferences_82 : decode cL_areDifferences 82 = .ok (.if_icmp .ge 101, 3) := by decide +kernel
theorem dL_areDifferences_85 : decode cL_areDifferences 85 = .ok (.iload_n 2, 1) := by decide +kernel
theorem dL_areDifferences_86 : decode cL_areDifferences 86 = .ok (.iload_n 3, 1) := by decide +kernel
theorem dL_areDifferences_87 : decode cL_areDifferences 87 = .ok (.if_icmp .eq 96, 3) := by decide +kernel
theorem dL_areDifferences_90 : decode cL_areDifferences 90 = .ok (.aload_n 1, 1) := by decide +kernel
theorem dL_areDifferences_91 : decode cL_areDifferences 91 = .ok (.iload 8, 2) := by decide +kernel
theorem dL_areDifferences_93 : decode cL_areDifferences 93 = .ok (.iconst 0, 1) := by decide +kernel
theorem dL_areDifferences_94 : decode cL_areDifferences 94 = .ok (.invokevirtual 113, 3) := by decide +kernel
theorem dL_areDifferences_97 : decode cL_areDifferences 97 = .ok (.iload_n 2, 1) := by decide +kernel
theorem dL_areDifferences_98 : decode cL_areDifferences 98 = .ok (.if_icmp .ne 14, 3) := by decide +kernel
theorem dL_areDifferences_101 : decode cL_areDifferences 101 = .ok (.aload_n 1, 1) := by decide +kernel
theorem dL_areDifferences_102 : decode cL_areDifferences 102 = .ok (.iload 8, 2) := by decide +kernel
theorem dL_areDifferences_104 : decode cL_areDifferences 104 = .ok (.iconst 1, 1) := by decide +kernel
theorem dL_areDifferences_105 : decode cL_areDifferences 105 = .ok (.invokevirtual 113, 3) := by decide +kernel
theorem dL_areDifferences_108 : decode cL_areDifferences 108 = .ok (.iload_n 3, 1) := by decide +kernel
theorem dL_areDifferences_109 : decode cL_areDifferences 109 = .ok (.if_icmp .eq 25, 3) := by decide +kernel
theorem dL_areDifferences_112 : decode cL_areDifferences 112 = .ok (.aload_n 1, 1) := by decide +kernel
theorem dL_areDifferences_113 : decode cL_areDifferences 113 = .ok (.iload 8, 2) := by decide +kernel
theorem dL_areDifferences_115 : decode cL_areDifferences 115 = .ok (.iconst 0, 1) := by decide +kernel
theorem dL_areDifferences_116 : decode cL_areDifferences 116 = .ok (.invokevirtual 113, 3) := by decide +kernel
theorem dL_areDifferences_119 : decode cL_areDifferences 119 = .ok (.iload_n 3, 1) := by decide +kernel
theorem dL_areDifferences_120 : decode cL_areDifferences 120 = .ok (.if_icmp .ne 18, 3) := by decide +kernel
theorem dL_areDifferences_123 : decode cL_areDifferences 123 = .ok (.aload_n 1, 1) := by decide +kernel
theorem dL_areDifferences_124 : decode cL_areDifferences 124 = .ok (.iload 8, 2) := by decide +kernel
theorem dL_areDifferences_126 : decode cL_areDifferences 126 = .ok (.iconst 1, 1) := by decide +kernel
theorem dL_areDifferences_127 : decode cL_areDifferences 127 = .ok (.invokevirtual 113, 3) := by decide +kernel
theorem dL_areDifferences_130 : decode cL_areDifferences 130 = .ok (.iload_n 2, 1) := by decide +kernel
theorem dL_areDifferences_131 : decode cL_areDifferences 131 = .ok (.if_icmp .ne 7, 3) := by decide +kernel
theorem dL_areDifferences_134 : decode cL_areDifferences 134 = .ok (.iconst 1, 1) := by decide +kernel
theorem dL_areDifferences_135 : decode cL_areDifferences 135 = .ok (.goto 4, 3) := by decide +kernel
theorem dL_areDifferences_138 : decode cL_areDifferences 138 = .ok (.iconst 0, 1) := by decide +kernel
theorem dL_areDifferences_139 : decode cL_areDifferences 139 = .ok (.istore 9, 2) := by decide +kernel
theorem dL_areDifferences_141 : decode cL_areDifferences 141 = .ok (.iload 7, 2) := by decide +kernel
theorem dL_areDifferences_143 : decode cL_areDifferences 143 = .ok (.ifCond .eq 31, 3) := by decide +kernel
theorem dL_areDifferences_146 : decode cL_areDifferences 146 = .ok (.iload 9, 2) := by decide +kernel
theorem dL_areDifferences_148 : decode cL_areDifferences 148 = .ok (.ifCond .eq 22, 3) := by decide +kernel
theorem dL_areDifferences_151 : decode cL_areDifferences 151 = .ok (.aload_n 0, 1) := by decide +kernel
theorem dL_areDifferences_152 : decode cL_areDifferences 152 = .ok (.aload_n 1, 1) := by decide +kernel
theorem dL_areDifferences_153 : decode cL_areDifferences 153 = .ok (.iload 8, 2) := by decide +kernel
theorem dL_areDifferences_155 : decode cL_areDifferences 155 = .ok (.aload 6, 2) := by decide +kernel
theorem dL_areDifferences_157 : decode cL_areDifferences 157 = .ok (.invokevirtual 155, 3) := by decide +kernel
theorem dL_areDifferences_160 : decode cL_areDifferences 160 = .ok (.aload_n 1, 1) := by decide +kernel
theorem dL_areDifferences_161 : decode cL_areDifferences 161 = .ok (.iload 8, 2) := by decide +kernel
theorem dL_areDifferences_163 : decode cL_areDifferences 163 = .ok (.iconst 3, 1) := by decide +kernel
theorem dL_areDifferences_164 : decode cL_areDifferences 164 = .ok (.invokevirtual 113, 3) := by decide +kernel
theorem dL_areDifferences_167 : decode cL_areDifferences 167 = .ok (.if_icmp .gt 7, 3) := by decide +kernel
theorem dL_areDifferences_170 : decode cL_areDifferences 170 = .ok (.iconst 1, 1) := by decide +kernel
theorem dL_areDifferences_171 : decode cL_areDifferences 171 = .ok (.goto 4, 3) := by decide +kernel
theorem dL_areDifferences_174 : decode cL_areDifferences 174 = .ok (.iconst 0, 1) := by decide +kernel
theorem dL_areDifferences_175 : decode cL_areDifferences 175 = .ok (.istore 7, 2) := by decide +kernel
theorem dL_areDifferences_177 : decode cL_areDifferences 177 = .ok (.iinc 8 1, 3) := by decide +kernel
theorem dL_areDifferences_180 : decode cL_areDifferences 180 = .ok (.goto (-104), 3) := by decide +kernel
theorem dL_areDifferences_183 : decode cL_areDifferences 183 = .ok (.iload 4, 2) := by decide +kernel
theorem dL_areDifferences_185 : decode cL_areDifferences 185 = .ok (.iload 7, 2) := by decide +kernel
theorem dL_areDifferences_187 : decode cL_areDifferences 187 = .ok (.ifCond .eq 7, 3) := by decide +kernel
theorem dL_areDifferences_190 : decode cL_areDifferences 190 = .ok (.iconst 1, 1) := by decide +kernel
theorem dL_areDifferences_191 : decode cL_areDifferences 191 = .ok (.goto 4, 3) := by decide +kernel
theorem dL_areDifferences_194 : decode cL_areDifferences 194 = .ok (.iconst 0, 1) := by decide +kernel
theorem dL_areDifferences_195 : decode cL_areDifferences 195 = .ok (.iadd, 1) := by decide +kernel
theorem dL_areDifferences_196 : decode cL_areDifferences 196 = .ok (.istore 4, 2) := by decide +kernel
theorem dL_areDifferences_198 : decode cL_areDifferences 198 = .ok (.iload 7, 2) := by decide +kernel
theorem dL_areDifferences_200 : decode cL_areDifferences 200 = .ok (.ifCond .ne 16, 3) := by decide +kernel
theorem dL_areDifferences_203 : decode cL_areDifferences 203 = .ok (.aload_n 1, 1) := by decide +kernel
theorem dL_areDifferences_204 : decode cL_areDifferences 204 = .ok (.iload_n 2, 1) := by decide +kernel
theorem dL_areDifferences_205 : decode cL_areDifferences 205 = .ok (.iload_n 3, 1) := by decide +kernel
theorem dL_areDifferences_206 : decode cL_areDifferences 206 = .ok (.iload 5, 2) := by decide +kernel
theorem dL_areDifferences_208 : decode cL_areDifferences 208 = .ok (.invokevirtual 189, 3) := by decide +kernel
theorem dL_areDifferences_211 : decode cL_areDifferences 211 = .ok (.ifCond .eq 5, 3) := by decide +kernel
theorem dL_areDifferences_214 : decode cL_areDifferences 214 = .ok (.iconst 0, 1) := by decide +kernel
theorem dL_areDifferences_215 : decode cL_areDifferences 215 = .ok (.ireturn, 1) := by decide +kernel
theorem dL_areDifferences_216 : decode cL_areDifferences 216 = .ok (.iinc 5 1, 3) := by decide +kernel
theorem dL_areDifferences_219 : decode cL_areDifferences 219 = .ok (.goto (-195), 3) := by decide +kernel
theorem dL_areDifferences_222 : decode cL_areDifferences 222 = .ok (.aload_n 1, 1) := by decide +kernel
theorem dL_areDifferences_223 : decode cL_areDifferences 223 = .ok (.iload_n 2, 1) := by decide +kernel
theorem dL_areDifferences_224 : decode cL_areDifferences 224 = .ok (.iload_n 3, 1) := by decide +kernel
theorem dL_areDifferences_225 : decode cL_areDifferences 225 = .ok (.iconst 0, 1) := by decide +kernel
theorem dL_areDifferences_226 : decode cL_areDifferences 226 = .ok (.invokevirtual 193, 3) := by decide +kernel
theorem dL_areDifferences_229 : decode cL_areDifferences 229 = .ok (.iload 4, 2) := by decide +kernel
theorem dL_areDifferences_231 : decode cL_areDifferences 231 = .ok (.if_icmp .ne 36, 3) := by decide +kernel
theorem dL_areDifferences_234 : decode cL_areDifferences 234 = .ok (.aload_n 1, 1) := by decide +kernel
theorem dL_areDifferences_235 : decode cL_areDifferences 235 = .ok (.iload_n 2, 1) := by decide +kernel
theorem dL_areDifferences_236 : decode cL_areDifferences 236 = .ok (.iload_n 3, 1) := by decide +kernel
theorem dL_areDifferences_237 : decode cL_areDifferences 237 = .ok (.iconst 1, 1) := by decide +kernel
theorem dL_areDifferences_238 : decode cL_areDifferences 238 = .ok (.invokevirtual 193, 3) := by decide +kernel
theorem dL_areDifferences_241 : decode cL_areDifferences 241 = .ok (.iload 4, 2) := by decide +kernel
theorem dL_areDifferences_243 : decode cL_areDifferences 243 = .ok (.if_icmp .gt 24, 3) := by decide +kernel
theorem dL_areDifferences_246 : decode cL_areDifferences 246 = .ok (.aload_n 1, 1) := by decide +kernel
theorem dL_areDifferences_247 : decode cL_areDifferences 247 = .ok (.iload_n 2, 1) := by decide +kernel
theorem dL_areDifferences_248 : decode cL_areDifferences 248 = .ok (.iload_n 3, 1) := by decide +kernel
theorem dL_areDifferences_249 : decode cL_areDifferences 249 = .ok (.iconst 1, 1) := by decide +kernel
theorem dL_areDifferences_250 : decode cL_areDifferences 250 = .ok (.invokevirtual 193, 3) := by decide +kernel
theorem dL_areDifferences_253 : decode cL_areDifferences 253 = .ok (.aload_n 1, 1) := by decide +kernel
theorem dL_areDifferences_254 : decode cL_areDifferences 254 = .ok (.iload_n 3, 1) := by decide +kernel
theorem dL_areDifferences_255 : decode cL_areDifferences 255 = .ok (.iload_n 2, 1) := by decide +kernel
theorem dL_areDifferences_256 : decode cL_areDifferences 256 = .ok (.iconst 1, 1) := by decide +kernel
theorem dL_areDifferences_257 : decode cL_areDifferences 257 = .ok (.invokevirtual 193, 3) := by decide +kernel
theorem dL_areDifferences_260 : decode cL_areDifferences 260 = .ok (.if_icmp .ne 7, 3) := by decide +kernel
theorem dL_areDifferences_263 : decode cL_areDifferences 263 = .ok (.iconst 1, 1) := by decide +kernel
theorem dL_areDifferences_264 : decode cL_areDifferences 264 = .ok (.goto 4, 3) := by decide +kernel
theorem dL_areDifferences_267 : decode cL_areDifferences 267 = .ok (.iconst 0, 1) := by decide +kernel
theorem dL_areDifferences_268 : decode cL_areDifferences 268 = .ok (.ireturn, 1) := by decide +kernel
theorem dL_tries_0 : decode cL_tries 0 = .ok (.iconst 1, 1) := by decide +kernel
theorem dL_tries_1 : decode cL_tries 1 = .ok (.istore_n 2, 1) := by decide +kernel
theorem dL_tries_2 : decode cL_tries 2 = .ok (.iconst 1, 1) := by decide +kernel
theorem dL_tries_3 : decode cL_tries 3 = .ok (.istore_n 3, 1) := by decide +kernel
theorem dL_tries_4 : decode cL_tries 4 = .ok (.iload_n 3, 1) := by decide +kernel
theorem dL_tries_5 : decode cL_tries 5 = .ok (.aload_n 0, 1) := by decide +kernel
theorem dL_tries_6 : decode cL_tries 6 = .ok (.getfield 64, 3) := by decide +kernel
theorem dL_tries_9 : decode cL_tries 9 = .ok (.if_icmp .ge 16, 3) := by decide +kernel
theorem dL_tries_12 : decode cL_tries 12 = .ok (.iload_n 2, 1) := by decide +kernel
theorem dL_tries_13 : decode cL_tries 13 = .ok (.aload_n 0, 1) := by decide +kernel
theorem dL_tries_14 : decode cL_tries 14 = .ok (.getfield 61, 3) := by decide +kernel
theorem dL_tries_17 : decode cL_tries 17 = .ok (.imul, 1) := by decide +kernel
theorem dL_tries_18 : decode cL_tries 18 = .ok (.istore_n 2, 1) := by decide +kernel
theorem dL_tries_19 : decode cL_tries 19 = .ok (.iinc 3 1, 3) := by decide +kernel
theorem dL_tries_22 : decode cL_tries 22 = .ok (.goto (-18), 3) := by decide +kernel
theorem dL_tries_25 : decode cL_tries 25 = .ok (.iconst 0, 1) := by decide +kernel
theorem dL_tries_26 : decode cL_tries 26 = .ok (.istore_n 3, 1) := by decide +kernel
theorem dL_tries_27 : decode cL_tries 27 = .ok (.iload_n 3, 1) := by decide +kernel
theorem dL_tries_28 : decode cL_tries 28 = .ok (.iload_n 2, 1) := by decide +kernel
theorem dL_tries_29 : decode cL_tries 29 = .ok (.if_icmp .ge 205, 3) := by decide +kernel
theorem dL_tries_32 : decode cL_tries 32 = .ok (.aload_n 0, 1) := by decide +kernel
theorem dL_tries_33 : decode cL_tries 33 = .ok (.getfield 64, 3) := by decide +kernel
theorem dL_tries_36 : decode cL_tries 36 = .ok (.newarray .int, 2) := by decide +kernel
theorem dL_tries_38 : decode cL_tries 38 = .ok (.astore 4, 2) := by decide +kernel
theorem dL_tries_40 : decode cL_tries 40 = .ok (.iload_n 3, 1) := by decide +kernel
theorem dL_tries_41 : decode cL_tries 41 = .ok (.istore 5, 2) := by decide +kernel
theorem dL_tries_43 : decode cL_tries 43 = .ok (.aload_n 0, 1) := by decide +kernel
theorem dL_tries_44 : decode cL_tries 44 = .ok (.getfield 64, 3) := by decide +kernel
theorem dL_tries_47 : decode cL_tries 47 = .ok (.iconst 1, 1) := by decide +kernel
theorem dL_tries_48 : decode cL_tries 48 = .ok (.isub, 1) := by decide +kernel
theorem dL_tries_49 : decode cL_tries 49 = .ok (.istore 6, 2) := by decide +kernel
theorem dL_tries_51 : decode cL_tries 51 = .ok (.iload 6, 2) := by decide +kernel
theorem dL_tries_53 : decode cL_tries 53 = .ok (.ifCond .le 30, 3) := by decide +kernel
theorem dL_tries_56 : decode cL_tries 56 = .ok (.aload 4, 2) := by decide +kernel
theorem dL_tries_58 : decode cL_tries 58 = .ok (.iload 6, 2) := by decide +kernel
theorem dL_tries_60 : decode cL_tries 60 = .ok (.iload 5, 2) := by decide +kernel
theorem dL_tries_62 : decode cL_tries 62 = .ok (.aload_n 0, 1) := by decide +kernel
theorem dL_tries_63 : decode cL_tries 63 = .ok (.getfield 61, 3) := by decide +kernel
theorem dL_tries_66 : decode cL_tries 66 = .ok (.irem, 1) := by decide +kernel
theorem dL_tries_67 : decode cL_tries 67 = .ok (.iastore, 1) := by decide +kernel
theorem dL_tries_68 : decode cL_tries 68 = .ok (.iload 5, 2) := by decide +kernel
theorem dL_tries_70 : decode cL_tries 70 = .ok (.aload_n 0, 1) := by decide +kernel
theorem dL_tries_71 : decode cL_tries 71 = .ok (.getfield 61, 3) := by decide +kernel
theorem dL_tries_74 : decode cL_tries 74 = .ok (.idiv, 1) := by decide +kernel
theorem dL_tries_75 : decode cL_tries 75 = .ok (.istore 5, 2) := by decide +kernel
theorem dL_tries_77 : decode cL_tries 77 = .ok (.iinc 6 (-1), 3) := by decide +kernel
theorem dL_tries_80 : decode cL_tries 80 = .ok (.goto (-29), 3) := by decide +kernel
theorem dL_tries_83 : decode cL_tries 83 = .ok (.aload 4, 2) := by decide +kernel
theorem dL_tries_85 : decode cL_tries 85 = .ok (.iconst 0, 1) := by decide +kernel
theorem dL_tries_86 : decode cL_tries 86 = .ok (.aload_n 1, 1) := by decide +kernel
theorem dL_tries_87 : decode cL_tries 87 = .ok (.iconst 0, 1) := by decide +kernel
theorem dL_tries_88 : decode cL_tries 88 = .ok (.invokevirtual 106, 3) := by decide +kernel
theorem dL_tries_91 : decode cL_tries 91 = .ok (.iastore, 1) := by decide +kernel
theorem dL_tries_92 : decode cL_tries 92 = .ok (.iconst 1, 1) := by decide +kernel
theorem dL_tries_93 : decode cL_tries 93 = .ok (.istore 6, 2) := by decide +kernel
theorem dL_tries_95 : decode cL_tries 95 = .ok (.iconst 0, 1) := by decide +kernel
theorem dL_tries_96 : decode cL_tries 96 = .ok (.istore 7, 2) := by decide +kernel
theorem dL_tries_98 : decode cL_tries 98 = .ok (.iconst 0, 1) := by decide +kernel
theorem dL_tries_99 : decode cL_tries 99 = .ok (.istore 8, 2) := by decide +kernel
theorem dL_tries_101 : decode cL_tries 101 = .ok (.iload 8, 2) := by decide +kernel
theorem dL_tries_103 : decode cL_tries 103 = .ok (.aload_n 0, 1) := by decide +kernel
theorem dL_tries_104 : decode cL_tries 104 = .ok (.getfield 95, 3) := by decide +kernel
theorem dL_tries_107 : decode cL_tries 107 = .ok (.if_icmp .ge 67, 3) := by decide +kernel
theorem dL_tries_110 : decode cL_tries 110 = .ok (.iload 6, 2) := by decide +kernel
theorem dL_tries_112 : decode cL_tries 112 = .ok (.ifCond .eq 62, 3) := by decide +kernel
theorem dL_tries_115 : decode cL_tries 115 = .ok (.aload_n 0, 1) := by decide +kernel
theorem dL_tries_116 : decode cL_tries 116 = .ok (.aload_n 1, 1) := by decide +kernel
theorem dL_tries_117 : decode cL_tries 117 = .ok (.iload 8, 2) := by decide +kernel
theorem dL_tries_119 : decode cL_tries 119 = .ok (.aload 4, 2) := by decide +kernel
theorem dL_tries_121 : decode cL_tries 121 = .ok (.invokevirtual 155, 3) := by decide +kernel
theorem dL_tries_124 : decode cL_tries 124 = .ok (.istore 9, 2) := by decide +kernel
theorem dL_tries_126 : decode cL_tries 126 = .ok (.iload 9, 2) := by decide +kernel
theorem dL_tries_128 : decode cL_tries 128 = .ok (.aload_n 1, 1) := by decide +kernel
theorem dL_tries_129 : decode cL_tries 129 = .ok (.iload 8, 2) := by decide +kernel
theorem dL_tries_131 : decode cL_tries 131 = .ok (.iconst 3, 1) := by decide +kernel
theorem dL_tries_132 : decode cL_tries 132 = .ok (.invokevirtual 113, 3) := by decide +kernel
theorem dL_tries_135 : decode cL_tries 135 = .ok (.if_icmp .gt 7, 3) := by decide +kernel
theorem dL_tries_138 : decode cL_tries 138 = .ok (.iconst 1, 1) := by decide +kernel
theorem dL_tries_139 : decode cL_tries 139 = .ok (.goto 4, 3) := by decide +kernel
theorem dL_tries_142 : decode cL_tries 142 = .ok (.iconst 0, 1) := by decide +kernel
theorem dL_tries_143 : decode cL_tries 143 = .ok (.istore 6, 2) := by decide +kernel
theorem dL_tries_145 : decode cL_tries 145 = .ok (.iload 7, 2) := by decide +kernel
theorem dL_tries_147 : decode cL_tries 147 = .ok (.aload_n 1, 1) := by decide +kernel
theorem dL_tries_148 : decode cL_tries 148 = .ok (.iload 8, 2) := by decide +kernel
theorem dL_tries_150 : decode cL_tries 150 = .ok (.iconst 4, 1) := by decide +kernel
theorem dL_tries_151 : decode cL_tries 151 = .ok (.invokevirtual 113, 3) := by decide +kernel
theorem dL_tries_154 : decode cL_tries 154 = .ok (.iload 9, 2) := by decide +kernel
theorem dL_tries_156 : decode cL_tries 156 = .ok (.aload_n 1, 1) := by decide +kernel
theorem dL_tries_157 : decode cL_tries 157 = .ok (.iload 8, 2) := by decide +kernel
theorem dL_tries_159 : decode cL_tries 159 = .ok (.iconst 2, 1) := by decide +kernel
theorem dL_tries_160 : decode cL_tries 160 = .ok (.invokevirtual 113, 3) := by decide +kernel
theorem dL_tries_163 : decode cL_tries 163 = .ok (.isub, 1) := by decide +kernel
theorem dL_tries_164 : decode cL_tries 164 = .ok (.imul, 1) := by decide +kernel
theorem dL_tries_165 : decode cL_tries 165 = .ok (.iadd, 1) := by decide +kernel
theorem dL_tries_166 : decode cL_tries 166 = .ok (.istore 7, 2) := by decide +kernel
theorem dL_tries_168 : decode cL_tries 168 = .ok (.iinc 8 1, 3) := by decide +kernel
theorem dL_tries_171 : decode cL_tries 171 = .ok (.goto (-70), 3) := by decide +kernel
theorem dL_tries_174 : decode cL_tries 174 = .ok (.iload 6, 2) := by decide +kernel
theorem dL_tries_176 : decode cL_tries 176 = .ok (.ifCond .ne 6, 3) := by decide +kernel
theorem dL_tries_179 : decode cL_tries 179 = .ok (.goto 49, 3) := by decide +kernel
theorem dL_tries_182 : decode cL_tries 182 = .ok (.aload_n 0, 1) := by decide +kernel
theorem dL_tries_183 : decode cL_tries 183 = .ok (.getfield 13, 3) := by decide +kernel
theorem dL_tries_186 : decode cL_tries 186 = .ok (.arraylength, 1) := by decide +kernel
theorem dL_tries_187 : decode cL_tries 187 = .ok (.ifCond .ne 9, 3) := by decide +kernel
theorem dL_tries_190 : decode cL_tries 190 = .ok (.aload_n 0, 1) := by decide +kernel
theorem dL_tries_191 : decode cL_tries 191 = .ok (.aload 4, 2) := by decide +kernel
theorem dL_tries_193 : decode cL_tries 193 = .ok (.putfield 13, 3) := by decide +kernel
theorem dL_tries_196 : decode cL_tries 196 = .ok (.aload_n 0, 1) := by decide +kernel
theorem dL_tries_197 : decode cL_tries 197 = .ok (.getfield 16, 3) := by decide +kernel
theorem dL_tries_200 : decode cL_tries 200 = .ok (.arraylength, 1) := by decide +kernel
theorem dL_tries_201 : decode cL_tries 201 = .ok (.ifCond .le 15, 3) := by decide +kernel
theorem dL_tries_204 : decode cL_tries 204 = .ok (.iload 7, 2) := by decide +kernel
theorem dL_tries_206 : decode cL_tries 206 = .ok (.aload_n 0, 1) := by decide +kernel
theorem dL_tries_207 : decode cL_tries 207 = .ok (.getfield 197, 3) := by decide +kernel
theorem dL_tries_210 : decode cL_tries 210 = .ok (.if_icmp .lt 6, 3) := by decide +kernel
theorem dL_tries_213 : decode cL_tries 213 = .ok (.goto 15, 3) := by decide +kernel
theorem dL_tries_216 : decode cL_tries 216 = .ok (.aload_n 0, 1) := by decide +kernel
theorem dL_tries_217 : decode cL_tries 217 = .ok (.aload 4, 2) := by decide +kernel
theorem dL_tries_219 : decode cL_tries 219 = .ok (.putfield 16, 3) := by decide +kernel
theorem dL_tries_222 : decode cL_tries 222 = .ok (.aload_n 0, 1) := by decide +kernel
theorem dL_tries_223 : decode cL_tries 223 = .ok (.iload 7, 2) := by decide +kernel
theorem dL_tries_225 : decode cL_tries 225 = .ok (.putfield 197, 3) := by decide +kernel
theorem dL_tries_228 : decode cL_tries 228 = .ok (.iinc 3 1, 3) := by decide +kernel
theorem dL_tries_231 : decode cL_tries 231 = .ok (.goto (-204), 3) := by decide +kernel
theorem dL_tries_234 : decode cL_tries 234 = .ok (.return_, 1) := by decide +kernel
theorem dL_isFound_0 : decode cL_isFound 0 = .ok (.aload_n 1, 1) := by decide +kernel
theorem dL_isFound_1 : decode cL_isFound 1 = .ok (.invokevirtual 200, 3) := by decide +kernel
theorem dL_isFound_4 : decode cL_isFound 4 = .ok (.aload_n 0, 1) := by decide +kernel
theorem dL_isFound_5 : decode cL_isFound 5 = .ok (.getfield 13, 3) := by decide +kernel
theorem dL_isFound_8 : decode cL_isFound 8 = .ok (.arraylength, 1) := by decide +kernel
theorem dL_isFound_9 : decode cL_isFound 9 = .ok (.ifCond .le 7, 3) := by decide +kernel
theorem dL_isFound_12 : decode cL_isFound 12 = .ok (.iconst 1, 1) := by decide +kernel
theorem dL_isFound_13 : decode cL_isFound 13 = .ok (.goto 4, 3) := by decide +kernel
theorem dL_isFound_16 : decode cL_isFound 16 = .ok (.iconst 0, 1) := by decide +kernel
theorem dL_isFound_17 : decode cL_isFound 17 = .ok (.if_icmp .eq 5, 3) := by decide +kernel
theorem dL_isFound_20 : decode cL_isFound 20 = .ok (.iconst 0, 1) := by decide +kernel
theorem dL_isFound_21 : decode cL_isFound 21 = .ok (.ireturn, 1) := by decide +kernel
theorem dL_isFound_22 : decode cL_isFound 22 = .ok (.aload_n 0, 1) := by decide +kernel
theorem dL_isFound_23 : decode cL_isFound 23 = .ok (.getfield 13, 3) := by decide +kernel
theorem dL_isFound_26 : decode cL_isFound 26 = .ok (.arraylength, 1) := by decide +kernel
theorem dL_isFound_27 : decode cL_isFound 27 = .ok (.ifCond .ne 8, 3) := by decide +kernel
theorem dL_isFound_30 : decode cL_isFound 30 = .ok (.aload_n 1, 1) := by decide +kernel
theorem dL_isFound_31 : decode cL_isFound 31 = .ok (.invokestatic 204, 3) := by decide +kernel
theorem dL_isFound_34 : decode cL_isFound 34 = .ok (.ireturn, 1) := by decide +kernel
theorem dL_isFound_35 : decode cL_isFound 35 = .ok (.aload_n 1, 1) := by decide +kernel
theorem dL_isFound_36 : decode cL_isFound 36 = .ok (.invokevirtual 207, 3) := by decide +kernel
theorem dL_isFound_39 : decode cL_isFound 39 = .ok (.ifCond .eq 32, 3) := by decide +kernel
theorem dL_isFound_42 : decode cL_isFound 42 = .ok (.aload_n 1, 1) := by decide +kernel
theorem dL_isFound_43 : decode cL_isFound 43 = .ok (.invokevirtual 210, 3) := by decide +kernel
theorem dL_isFound_46 : decode cL_isFound 46 = .ok (.aload_n 0, 1) := by decide +kernel
theorem dL_isFound_47 : decode cL_isFound 47 = .ok (.getfield 197, 3) := by decide +kernel
theorem dL_isFound_50 : decode cL_isFound 50 = .ok (.if_icmp .ne 21, 3) := by decide +kernel
theorem dL_isFound_53 : decode cL_isFound 53 = .ok (.aload_n 1, 1) := by decide +kernel
theorem dL_isFound_54 : decode cL_isFound 54 = .ok (.invokevirtual 213, 3) := by decide +kernel
theorem dL_isFound_57 : decode cL_isFound 57 = .ok (.aload_n 0, 1) := by decide +kernel
theorem dL_isFound_58 : decode cL_isFound 58 = .ok (.getfield 197, 3) := by decide +kernel
theorem dL_isFound_61 : decode cL_isFound 61 = .ok (.if_icmp .lt 10, 3) := by decide +kernel
theorem dL_isFound_64 : decode cL_isFound 64 = .ok (.aload_n 1, 1) := by decide +kernel
theorem dL_isFound_65 : decode cL_isFound 65 = .ok (.invokevirtual 168, 3) := by decide +kernel
theorem dL_isFound_68 : decode cL_isFound 68 = .ok (.ifCond .eq 5, 3) := by decide +kernel
theorem dL_isFound_71 : decode cL_isFound 71 = .ok (.iconst 0, 1) := by decide +kernel
theorem dL_isFound_72 : decode cL_isFound 72 = .ok (.ireturn, 1) := by decide +kernel
theorem dL_isFound_73 : decode cL_isFound 73 = .ok (.iconst 0, 1) := by decide +kernel
theorem dL_isFound_74 : decode cL_isFound 74 = .ok (.istore_n 2, 1) := by decide +kernel
theorem dL_isFound_75 : decode cL_isFound 75 = .ok (.iload_n 2, 1) := by decide +kernel
theorem dL_isFound_76 : decode cL_isFound 76 = .ok (.aload_n 0, 1) := by decide +kernel
theorem dL_isFound_77 : decode cL_isFound 77 = .ok (.getfield 64, 3) := by decide +kernel
theorem dL_isFound_80 : decode cL_isFound 80 = .ok (.if_icmp .ge 25, 3) := by decide +kernel
theorem dL_isFound_83 : decode cL_isFound 83 = .ok (.aload_n 1, 1) := by decide +kernel
theorem dL_isFound_84 : decode cL_isFound 84 = .ok (.iload_n 2, 1) := by decide +kernel
theorem dL_isFound_85 : decode cL_isFound 85 = .ok (.invokevirtual 106, 3) := by decide +kernel
theorem dL_isFound_88 : decode cL_isFound 88 = .ok (.aload_n 0, 1) := by decide +kernel
theorem dL_isFound_89 : decode cL_isFound 89 = .ok (.getfield 13, 3) := by decide +kernel
theorem dL_isFound_92 : decode cL_isFound 92 = .ok (.iload_n 2, 1) := by decide +kernel
theorem dL_isFound_93 : decode cL_isFound 93 = .ok (.iaload, 1) := by decide +kernel
theorem dL_isFound_94 : decode cL_isFound 94 = .ok (.if_icmp .eq 5, 3) := by decide +kernel
theorem dL_isFound_97 : decode cL_isFound 97 = .ok (.iconst 0, 1) := by decide +kernel
theorem dL_isFound_98 : decode cL_isFound 98 = .ok (.ireturn, 1) := by decide +kernel
theorem dL_isFound_99 : decode cL_isFound 99 = .ok (.iinc 2 1, 3) := by decide +kernel
theorem dL_isFound_102 : decode cL_isFound 102 = .ok (.goto (-27), 3) := by decide +kernel
theorem dL_isFound_105 : decode cL_isFound 105 = .ok (.aload_n 1, 1) := by decide +kernel
theorem dL_isFound_106 : decode cL_isFound 106 = .ok (.invokevirtual 216, 3) := by decide +kernel
theorem dL_isFound_109 : decode cL_isFound 109 = .ok (.aload_n 0, 1) := by decide +kernel
theorem dL_isFound_110 : decode cL_isFound 110 = .ok (.getfield 197, 3) := by decide +kernel
theorem dL_isFound_113 : decode cL_isFound 113 = .ok (.if_icmp .eq 5, 3) := by decide +kernel
theorem dL_isFound_116 : decode cL_isFound 116 = .ok (.iconst 0, 1) := by decide +kernel
theorem dL_isFound_117 : decode cL_isFound 117 = .ok (.ireturn, 1) := by decide +kernel
theorem dL_isFound_118 : decode cL_isFound 118 = .ok (.iconst 0, 1) := by decide +kernel
theorem dL_isFound_119 : decode cL_isFound 119 = .ok (.istore_n 2, 1) := by decide +kernel
theorem dL_isFound_120 : decode cL_isFound 120 = .ok (.iload_n 2, 1) := by decide +kernel
theorem dL_isFound_121 : decode cL_isFound 121 = .ok (.aload_n 0, 1) := by decide +kernel
theorem dL_isFound_122 : decode cL_isFound 122 = .ok (.getfield 64, 3) := by decide +kernel
theorem dL_isFound_125 : decode cL_isFound 125 = .ok (.if_icmp .ge 25, 3) := by decide +kernel
theorem dL_isFound_128 : decode cL_isFound 128 = .ok (.aload_n 1, 1) := by decide +kernel
theorem dL_isFound_129 : decode cL_isFound 129 = .ok (.iload_n 2, 1) := by decide +kernel
theorem dL_isFound_130 : decode cL_isFound 130 = .ok (.invokevirtual 106, 3) := by decide +kernel
theorem dL_isFound_133 : decode cL_isFound 133 = .ok (.aload_n 0, 1) := by decide +kernel
theorem dL_isFound_134 : decode cL_isFound 134 = .ok (.getfield 16, 3) := by decide +kernel
theorem dL_isFound_137 : decode cL_isFound 137 = .ok (.iload_n 2, 1) := by decide +kernel
theorem dL_isFound_138 : decode cL_isFound 138 = .ok (.iaload, 1) := by decide +kernel
theorem dL_isFound_139 : decode cL_isFound 139 = .ok (.if_icmp .eq 5, 3) := by decide +kernel
theorem dL_isFound_142 : decode cL_isFound 142 = .ok (.iconst 0, 1) := by decide +kernel
theorem dL_isFound_143 : decode cL_isFound 143 = .ok (.ireturn, 1) := by decide +kernel
theorem dL_isFound_144 : decode cL_isFound 144 = .ok (.iinc 2 1, 3) := by decide +kernel
theorem dL_isFound_147 : decode cL_isFound 147 = .ok (.goto (-27), 3) := by decide +kernel
theorem dL_isFound_150 : decode cL_isFound 150 = .ok (.iconst 1, 1) := by decide +kernel
theorem dL_isFound_151 : decode cL_isFound 151 = .ok (.ireturn, 1) := by decide +kernel
theorem dL_isHopeless_0 : decode cL_isHopeless 0 = .ok (.aload_n 0, 1) := by decide +kernel
theorem dL_isHopeless_1 : decode cL_isHopeless 1 = .ok (.invokevirtual 213, 3) := by decide +kernel
theorem dL_isHopeless_4 : decode cL_isHopeless 4 = .ok (.bipush (-7), 2) := by decide +kernel
theorem dL_isHopeless_6 : decode cL_isHopeless 6 = .ok (.if_icmp .ne 7, 3) := by decide +kernel
theorem dL_isHopeless_9 : decode cL_isHopeless 9 = .ok (.iconst 1, 1) := by decide +kernel
theorem dL_isHopeless_10 : decode cL_isHopeless 10 = .ok (.goto 4, 3) := by decide +kernel
theorem dL_isHopeless_13 : decode cL_isHopeless 13 = .ok (.iconst 0, 1) := by decide +kernel
theorem dL_isHopeless_14 : decode cL_isHopeless 14 = .ok (.ireturn, 1) := by decide +kernel
theorem dL_isHopeless_15 : decode cL_isHopeless 15 = .ok (.astore_n 1, 1) := by decide +kernel
theorem dL_isHopeless_16 : decode cL_isHopeless 16 = .ok (.aload_n 0, 1) := by decide +kernel
theorem dL_isHopeless_17 : decode cL_isHopeless 17 = .ok (.invokevirtual 219, 3) := by decide +kernel
theorem dL_isHopeless_20 : decode cL_isHopeless 20 = .ok (.iconst (-1), 1) := by decide +kernel
theorem dL_isHopeless_21 : decode cL_isHopeless 21 = .ok (.if_icmp .ne 7, 3) := by decide +kernel
theorem dL_isHopeless_24 : decode cL_isHopeless 24 = .ok (.iconst 1, 1) := by decide +kernel
theorem dL_isHopeless_25 : decode cL_isHopeless 25 = .ok (.goto 4, 3) := by decide +kernel
theorem dL_isHopeless_28 : decode cL_isHopeless 28 = .ok (.iconst 0, 1) := by decide +kernel
theorem dL_isHopeless_29 : decode cL_isHopeless 29 = .ok (.ireturn, 1) := by decide +kernel
theorem dL_isNoEvent_0 : decode cL_isNoEvent 0 = .ok (.aload_n 0, 1) := by decide +kernel
theorem dL_isNoEvent_1 : decode cL_isNoEvent 1 = .ok (.bipush 6, 2) := by decide +kernel
theorem dL_isNoEvent_3 : decode cL_isNoEvent 3 = .ok (.invokevirtual 106, 3) := by decide +kernel
theorem dL_isNoEvent_6 : decode cL_isNoEvent 6 = .ok (.bipush (-7), 2) := by decide +kernel
theorem dL_isNoEvent_8 : decode cL_isNoEvent 8 = .ok (.if_icmp .ne 7, 3) := by decide +kernel
theorem dL_isNoEvent_11 : decode cL_isNoEvent 11 = .ok (.iconst 1, 1) := by decide +kernel
theorem dL_isNoEvent_12 : decode cL_isNoEvent 12 = .ok (.goto 4, 3) := by decide +kernel
theorem dL_isNoEvent_15 : decode cL_isNoEvent 15 = .ok (.iconst 0, 1) := by decide +kernel
theorem dL_isNoEvent_16 : decode cL_isNoEvent 16 = .ok (.ireturn, 1) := by decide +kernel
theorem dL_isNoEvent_17 : decode cL_isNoEvent 17 = .ok (.astore_n 1, 1) := by decide +kernel
theorem dL_isNoEvent_18 : decode cL_isNoEvent 18 = .ok (.iconst 1, 1) := by decide +kernel
theorem dL_isNoEvent_19 : decode cL_isNoEvent 19 = .ok (.ireturn, 1) := by decide +kernel
theorem dL_isBad_0 : decode cL_isBad 0 = .ok (.aload_n 0, 1) := by decide +kernel
theorem dL_isBad_1 : decode cL_isBad 1 = .ok (.bipush 25, 2) := by decide +kernel
theorem dL_isBad_3 : decode cL_isBad 3 = .ok (.invokevirtual 224, 3) := by decide +kernel
theorem dL_isBad_6 : decode cL_isBad 6 = .ok (.bipush (-7), 2) := by decide +kernel
theorem dL_isBad_8 : decode cL_isBad 8 = .ok (.if_icmp .ne 7, 3) := by decide +kernel
theorem dL_isBad_11 : decode cL_isBad 11 = .ok (.iconst 1, 1) := by decide +kernel
theorem dL_isBad_12 : decode cL_isBad 12 = .ok (.goto 4, 3) := by decide +kernel
theorem dL_isBad_15 : decode cL_isBad 15 = .ok (.iconst 0, 1) := by decide +kernel
theorem dL_isBad_16 : decode cL_isBad 16 = .ok (.ireturn, 1) := by decide +kernel
theorem dL_isBad_17 : decode cL_isBad 17 = .ok (.astore_n 1, 1) := by decide +kernel
theorem dL_isBad_18 : decode cL_isBad 18 = .ok (.iconst 1, 1) := by decide +kernel
theorem dL_isBad_19 : decode cL_isBad 19 = .ok (.ireturn, 1) := by decide +kernel
