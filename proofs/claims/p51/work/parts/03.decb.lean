theorem dX8_init_0 : decode cX8_init 0 = .ok (.aload_n 0, 1) := by decide +kernel
theorem dX8_init_1 : decode cX8_init 1 = .ok (.invokespecial 3, 3) := by decide +kernel
theorem dX8_init_4 : decode cX8_init 4 = .ok (.aload_n 0, 1) := by decide +kernel
theorem dX8_init_5 : decode cX8_init 5 = .ok (.sipush 500, 3) := by decide +kernel
theorem dX8_init_8 : decode cX8_init 8 = .ok (.newarray .byte, 2) := by decide +kernel
theorem dX8_init_10 : decode cX8_init 10 = .ok (.putfield 9, 3) := by decide +kernel
theorem dX8_init_13 : decode cX8_init 13 = .ok (.aload_n 0, 1) := by decide +kernel
theorem dX8_init_14 : decode cX8_init 14 = .ok (.iconst 0, 1) := by decide +kernel
theorem dX8_init_15 : decode cX8_init 15 = .ok (.putfield 13, 3) := by decide +kernel
theorem dX8_init_18 : decode cX8_init 18 = .ok (.aload_n 0, 1) := by decide +kernel
theorem dX8_init_19 : decode cX8_init 19 = .ok (.new 17, 3) := by decide +kernel
theorem dX8_init_22 : decode cX8_init 22 = .ok (.dup, 1) := by decide +kernel
theorem dX8_init_23 : decode cX8_init 23 = .ok (.invokespecial 19, 3) := by decide +kernel
theorem dX8_init_26 : decode cX8_init 26 = .ok (.putfield 20, 3) := by decide +kernel
theorem dX8_init_29 : decode cX8_init 29 = .ok (.aload_n 0, 1) := by decide +kernel
theorem dX8_init_30 : decode cX8_init 30 = .ok (.new 24, 3) := by decide +kernel
theorem dX8_init_33 : decode cX8_init 33 = .ok (.dup, 1) := by decide +kernel
theorem dX8_init_34 : decode cX8_init 34 = .ok (.invokespecial 26, 3) := by decide +kernel
theorem dX8_init_37 : decode cX8_init 37 = .ok (.putfield 27, 3) := by decide +kernel
theorem dX8_init_40 : decode cX8_init 40 = .ok (.aload_n 0, 1) := by decide +kernel
theorem dX8_init_41 : decode cX8_init 41 = .ok (.new 31, 3) := by decide +kernel
theorem dX8_init_44 : decode cX8_init 44 = .ok (.dup, 1) := by decide +kernel
theorem dX8_init_45 : decode cX8_init 45 = .ok (.invokespecial 33, 3) := by decide +kernel
theorem dX8_init_48 : decode cX8_init 48 = .ok (.putfield 34, 3) := by decide +kernel
theorem dX8_init_51 : decode cX8_init 51 = .ok (.aload_n 0, 1) := by decide +kernel
theorem dX8_init_52 : decode cX8_init 52 = .ok (.new 31, 3) := by decide +kernel
theorem dX8_init_55 : decode cX8_init 55 = .ok (.dup, 1) := by decide +kernel
theorem dX8_init_56 : decode cX8_init 56 = .ok (.invokespecial 33, 3) := by decide +kernel
theorem dX8_init_59 : decode cX8_init 59 = .ok (.putfield 38, 3) := by decide +kernel
theorem dX8_init_62 : decode cX8_init 62 = .ok (.aload_n 0, 1) := by decide +kernel
theorem dX8_init_63 : decode cX8_init 63 = .ok (.new 41, 3) := by decide +kernel
theorem dX8_init_66 : decode cX8_init 66 = .ok (.dup, 1) := by decide +kernel
theorem dX8_init_67 : decode cX8_init 67 = .ok (.invokespecial 43, 3) := by decide +kernel
theorem dX8_init_70 : decode cX8_init 70 = .ok (.putfield 44, 3) := by decide +kernel
theorem dX8_init_73 : decode cX8_init 73 = .ok (.aload_n 0, 1) := by decide +kernel
theorem dX8_init_74 : decode cX8_init 74 = .ok (.new 48, 3) := by decide +kernel
theorem dX8_init_77 : decode cX8_init 77 = .ok (.dup, 1) := by decide +kernel
theorem dX8_init_78 : decode cX8_init 78 = .ok (.invokespecial 50, 3) := by decide +kernel
theorem dX8_init_81 : decode cX8_init 81 = .ok (.putfield 51, 3) := by decide +kernel
theorem dX8_init_84 : decode cX8_init 84 = .ok (.aload_n 0, 1) := by decide +kernel
theorem dX8_init_85 : decode cX8_init 85 = .ok (.new 55, 3) := by decide +kernel
theorem dX8_init_88 : decode cX8_init 88 = .ok (.dup, 1) := by decide +kernel
theorem dX8_init_89 : decode cX8_init 89 = .ok (.invokespecial 57, 3) := by decide +kernel
theorem dX8_init_92 : decode cX8_init 92 = .ok (.putfield 58, 3) := by decide +kernel
theorem dX8_init_95 : decode cX8_init 95 = .ok (.aload_n 0, 1) := by decide +kernel
theorem dX8_init_96 : decode cX8_init 96 = .ok (.new 62, 3) := by decide +kernel
theorem dX8_init_99 : decode cX8_init 99 = .ok (.dup, 1) := by decide +kernel
theorem dX8_init_100 : decode cX8_init 100 = .ok (.invokespecial 64, 3) := by decide +kernel
theorem dX8_init_103 : decode cX8_init 103 = .ok (.putfield 65, 3) := by decide +kernel
theorem dX8_init_106 : decode cX8_init 106 = .ok (.aload_n 0, 1) := by decide +kernel
theorem dX8_init_107 : decode cX8_init 107 = .ok (.new 69, 3) := by decide +kernel
theorem dX8_init_110 : decode cX8_init 110 = .ok (.dup, 1) := by decide +kernel
theorem dX8_init_111 : decode cX8_init 111 = .ok (.invokespecial 71, 3) := by decide +kernel
theorem dX8_init_114 : decode cX8_init 114 = .ok (.putfield 72, 3) := by decide +kernel
theorem dX8_init_117 : decode cX8_init 117 = .ok (.return_, 1) := by decide +kernel
theorem dX8_feed_0 : decode cX8_feed 0 = .ok (.aload_n 0, 1) := by decide +kernel
theorem dX8_feed_1 : decode cX8_feed 1 = .ok (.getfield 13, 3) := by decide +kernel
theorem dX8_feed_4 : decode cX8_feed 4 = .ok (.sipush 480, 3) := by decide +kernel
theorem dX8_feed_7 : decode cX8_feed 7 = .ok (.if_icmp .le 6, 3) := by decide +kernel
theorem dX8_feed_10 : decode cX8_feed 10 = .ok (.bipush (-2), 2) := by decide +kernel
theorem dX8_feed_12 : decode cX8_feed 12 = .ok (.ireturn, 1) := by decide +kernel
theorem dX8_feed_13 : decode cX8_feed 13 = .ok (.aload_n 0, 1) := by decide +kernel
theorem dX8_feed_14 : decode cX8_feed 14 = .ok (.iload_n 1, 1) := by decide +kernel
theorem dX8_feed_15 : decode cX8_feed 15 = .ok (.invokevirtual 76, 3) := by decide +kernel
theorem dX8_feed_18 : decode cX8_feed 18 = .ok (.aload_n 0, 1) := by decide +kernel
theorem dX8_feed_19 : decode cX8_feed 19 = .ok (.iload_n 2, 1) := by decide +kernel
theorem dX8_feed_20 : decode cX8_feed 20 = .ok (.invokevirtual 76, 3) := by decide +kernel
theorem dX8_feed_23 : decode cX8_feed 23 = .ok (.aload_n 0, 1) := by decide +kernel
theorem dX8_feed_24 : decode cX8_feed 24 = .ok (.iload_n 3, 1) := by decide +kernel
theorem dX8_feed_25 : decode cX8_feed 25 = .ok (.invokevirtual 76, 3) := by decide +kernel
theorem dX8_feed_28 : decode cX8_feed 28 = .ok (.aload_n 0, 1) := by decide +kernel
theorem dX8_feed_29 : decode cX8_feed 29 = .ok (.iload 4, 2) := by decide +kernel
theorem dX8_feed_31 : decode cX8_feed 31 = .ok (.invokevirtual 76, 3) := by decide +kernel
theorem dX8_feed_34 : decode cX8_feed 34 = .ok (.aload_n 0, 1) := by decide +kernel
theorem dX8_feed_35 : decode cX8_feed 35 = .ok (.iload 5, 2) := by decide +kernel
theorem dX8_feed_37 : decode cX8_feed 37 = .ok (.invokevirtual 76, 3) := by decide +kernel
theorem dX8_feed_40 : decode cX8_feed 40 = .ok (.aload_n 0, 1) := by decide +kernel
theorem dX8_feed_41 : decode cX8_feed 41 = .ok (.getfield 13, 3) := by decide +kernel
theorem dX8_feed_44 : decode cX8_feed 44 = .ok (.ireturn, 1) := by decide +kernel
theorem dX8_appendBytes_0 : decode cX8_appendBytes 0 = .ok (.bipush 24, 2) := by decide +kernel
theorem dX8_appendBytes_2 : decode cX8_appendBytes 2 = .ok (.istore_n 2, 1) := by decide +kernel
theorem dX8_appendBytes_3 : decode cX8_appendBytes 3 = .ok (.iload_n 2, 1) := by decide +kernel
theorem dX8_appendBytes_4 : decode cX8_appendBytes 4 = .ok (.ifCond .lt 42, 3) := by decide +kernel
theorem dX8_appendBytes_7 : decode cX8_appendBytes 7 = .ok (.aload_n 0, 1) := by decide +kernel
theorem dX8_appendBytes_8 : decode cX8_appendBytes 8 = .ok (.getfield 13, 3) := by decide +kernel
theorem dX8_appendBytes_11 : decode cX8_appendBytes 11 = .ok (.sipush 500, 3) := by decide +kernel
theorem dX8_appendBytes_14 : decode cX8_appendBytes 14 = .ok (.if_icmp .ge 32, 3) := by decide +kernel
theorem dX8_appendBytes_17 : decode cX8_appendBytes 17 = .ok (.aload_n 0, 1) := by decide +kernel
theorem dX8_appendBytes_18 : decode cX8_appendBytes 18 = .ok (.getfield 9, 3) := by decide +kernel
theorem dX8_appendBytes_21 : decode cX8_appendBytes 21 = .ok (.aload_n 0, 1) := by decide +kernel
theorem dX8_appendBytes_22 : decode cX8_appendBytes 22 = .ok (.getfield 13, 3) := by decide +kernel
theorem dX8_appendBytes_25 : decode cX8_appendBytes 25 = .ok (.iload_n 1, 1) := by decide +kernel
theorem dX8_appendBytes_26 : decode cX8_appendBytes 26 = .ok (.iload_n 2, 1) := by decide +kernel
theorem dX8_appendBytes_27 : decode cX8_appendBytes 27 = .ok (.iushr, 1) := by decide +kernel
theorem dX8_appendBytes_28 : decode cX8_appendBytes 28 = .ok (.i2b, 1) := by decide +kernel
theorem dX8_appendBytes_29 : decode cX8_appendBytes 29 = .ok (.bastore, 1) := by decide +kernel
theorem dX8_appendBytes_30 : decode cX8_appendBytes 30 = .ok (.aload_n 0, 1) := by decide +kernel
theorem dX8_appendBytes_31 : decode cX8_appendBytes 31 = .ok (.dup, 1) := by decide +kernel
theorem dX8_appendBytes_32 : decode cX8_appendBytes 32 = .ok (.getfield 13, 3) := by decide +kernel
theorem dX8_appendBytes_35 : decode cX8_appendBytes 35 = .ok (.iconst 1, 1) := by decide +kernel
theorem dX8_appendBytes_36 : decode cX8_appendBytes 36 = .ok (.iadd, 1) := by decide +kernel
theorem dX8_appendBytes_37 : decode cX8_appendBytes 37 = .ok (.putfield 13, 3) := by decide +kernel
theorem dX8_appendBytes_40 : decode cX8_appendBytes 40 = .ok (.iinc 2 (-8), 3) := by decide +kernel
theorem dX8_appendBytes_43 : decode cX8_appendBytes 43 = .ok (.goto (-40), 3) := by decide +kernel
theorem dX8_appendBytes_46 : decode cX8_appendBytes 46 = .ok (.return_, 1) := by decide +kernel
theorem dX8_load_0 : decode cX8_load 0 = .ok (.iload_n 1, 1) := by decide +kernel
theorem dX8_load_1 : decode cX8_load 1 = .ok (.iconst 0, 1) := by decide +kernel
theorem dX8_load_2 : decode cX8_load 2 = .ok (.aload_n 0, 1) := by decide +kernel
theorem dX8_load_3 : decode cX8_load 3 = .ok (.getfield 13, 3) := by decide +kernel
theorem dX8_load_6 : decode cX8_load 6 = .ok (.invokestatic 80, 3) := by decide +kernel
theorem dX8_load_9 : decode cX8_load 9 = .ok (.aload_n 0, 1) := by decide +kernel
theorem dX8_load_10 : decode cX8_load 10 = .ok (.iconst 0, 1) := by decide +kernel
theorem dX8_load_11 : decode cX8_load 11 = .ok (.putfield 13, 3) := by decide +kernel
theorem dX8_load_14 : decode cX8_load 14 = .ok (.aload_n 0, 1) := by decide +kernel
theorem dX8_load_15 : decode cX8_load 15 = .ok (.getfield 20, 3) := by decide +kernel
theorem dX8_load_18 : decode cX8_load 18 = .ok (.aload_n 0, 1) := by decide +kernel
theorem dX8_load_19 : decode cX8_load 19 = .ok (.getfield 9, 3) := by decide +kernel
theorem dX8_load_22 : decode cX8_load 22 = .ok (.iload_n 1, 1) := by decide +kernel
theorem dX8_load_23 : decode cX8_load 23 = .ok (.invokevirtual 84, 3) := by decide +kernel
theorem dX8_load_26 : decode cX8_load 26 = .ok (.ifCond .ne 6, 3) := by decide +kernel
theorem dX8_load_29 : decode cX8_load 29 = .ok (.bipush (-3), 2) := by decide +kernel
theorem dX8_load_31 : decode cX8_load 31 = .ok (.ireturn, 1) := by decide +kernel
theorem dX8_load_32 : decode cX8_load 32 = .ok (.aload_n 0, 1) := by decide +kernel
theorem dX8_load_33 : decode cX8_load 33 = .ok (.getfield 34, 3) := by decide +kernel
theorem dX8_load_36 : decode cX8_load 36 = .ok (.aload_n 0, 1) := by decide +kernel
theorem dX8_load_37 : decode cX8_load 37 = .ok (.getfield 20, 3) := by decide +kernel
theorem dX8_load_40 : decode cX8_load 40 = .ok (.getfield 88, 3) := by decide +kernel
theorem dX8_load_43 : decode cX8_load 43 = .ok (.invokevirtual 89, 3) := by decide +kernel
theorem dX8_load_46 : decode cX8_load 46 = .ok (.aload_n 0, 1) := by decide +kernel
theorem dX8_load_47 : decode cX8_load 47 = .ok (.getfield 27, 3) := by decide +kernel
theorem dX8_load_50 : decode cX8_load 50 = .ok (.aload_n 0, 1) := by decide +kernel
theorem dX8_load_51 : decode cX8_load 51 = .ok (.getfield 20, 3) := by decide +kernel
theorem dX8_load_54 : decode cX8_load 54 = .ok (.getfield 93, 3) := by decide +kernel
theorem dX8_load_57 : decode cX8_load 57 = .ok (.invokevirtual 94, 3) := by decide +kernel
theorem dX8_load_60 : decode cX8_load 60 = .ok (.aload_n 0, 1) := by decide +kernel
theorem dX8_load_61 : decode cX8_load 61 = .ok (.getfield 44, 3) := by decide +kernel
theorem dX8_load_64 : decode cX8_load 64 = .ok (.invokevirtual 97, 3) := by decide +kernel
theorem dX8_load_67 : decode cX8_load 67 = .ok (.aload_n 0, 1) := by decide +kernel
theorem dX8_load_68 : decode cX8_load 68 = .ok (.getfield 34, 3) := by decide +kernel
theorem dX8_load_71 : decode cX8_load 71 = .ok (.getfield 100, 3) := by decide +kernel
theorem dX8_load_74 : decode cX8_load 74 = .ok (.ireturn, 1) := by decide +kernel
theorem dX8_errorKind_0 : decode cX8_errorKind 0 = .ok (.aload_n 0, 1) := by decide +kernel
theorem dX8_errorKind_1 : decode cX8_errorKind 1 = .ok (.getfield 20, 3) := by decide +kernel
theorem dX8_errorKind_4 : decode cX8_errorKind 4 = .ok (.getfield 103, 3) := by decide +kernel
theorem dX8_errorKind_7 : decode cX8_errorKind 7 = .ok (.ireturn, 1) := by decide +kernel
theorem dX8_period_0 : decode cX8_period 0 = .ok (.aload_n 0, 1) := by decide +kernel
theorem dX8_period_1 : decode cX8_period 1 = .ok (.getfield 34, 3) := by decide +kernel
theorem dX8_period_4 : decode cX8_period 4 = .ok (.getfield 109, 3) := by decide +kernel
theorem dX8_period_7 : decode cX8_period 7 = .ok (.ireturn, 1) := by decide +kernel
theorem dX8_events_0 : decode cX8_events 0 = .ok (.aload_n 0, 1) := by decide +kernel
theorem dX8_events_1 : decode cX8_events 1 = .ok (.getfield 34, 3) := by decide +kernel
theorem dX8_events_4 : decode cX8_events 4 = .ok (.getfield 112, 3) := by decide +kernel
theorem dX8_events_7 : decode cX8_events 7 = .ok (.ireturn, 1) := by decide +kernel
theorem dX8_time_0 : decode cX8_time 0 = .ok (.aload_n 0, 1) := by decide +kernel
theorem dX8_time_1 : decode cX8_time 1 = .ok (.iload_n 1, 1) := by decide +kernel
theorem dX8_time_2 : decode cX8_time 2 = .ok (.invokevirtual 119, 3) := by decide +kernel
theorem dX8_time_5 : decode cX8_time 5 = .ok (.aload_n 0, 1) := by decide +kernel
theorem dX8_time_6 : decode cX8_time 6 = .ok (.getfield 34, 3) := by decide +kernel
theorem dX8_time_9 : decode cX8_time 9 = .ok (.getfield 122, 3) := by decide +kernel
theorem dX8_time_12 : decode cX8_time 12 = .ok (.iload_n 1, 1) := by decide +kernel
theorem dX8_time_13 : decode cX8_time 13 = .ok (.iaload, 1) := by decide +kernel
theorem dX8_time_14 : decode cX8_time 14 = .ok (.ireturn, 1) := by decide +kernel
theorem dX8_span_0 : decode cX8_span 0 = .ok (.aload_n 0, 1) := by decide +kernel
theorem dX8_span_1 : decode cX8_span 1 = .ok (.iload_n 1, 1) := by decide +kernel
theorem dX8_span_2 : decode cX8_span 2 = .ok (.invokevirtual 126, 3) := by decide +kernel
theorem dX8_span_5 : decode cX8_span 5 = .ok (.iload_n 2, 1) := by decide +kernel
theorem dX8_span_6 : decode cX8_span 6 = .ok (.tableswitch 84 0 4 #[34, 44, 54, 64, 74], 34) := by decide +kernel
theorem dX8_span_40 : decode cX8_span 40 = .ok (.aload_n 0, 1) := by decide +kernel
theorem dX8_span_41 : decode cX8_span 41 = .ok (.getfield 34, 3) := by decide +kernel
theorem dX8_span_44 : decode cX8_span 44 = .ok (.getfield 129, 3) := by decide +kernel
theorem dX8_span_47 : decode cX8_span 47 = .ok (.iload_n 1, 1) := by decide +kernel
theorem dX8_span_48 : decode cX8_span 48 = .ok (.iaload, 1) := by decide +kernel
theorem dX8_span_49 : decode cX8_span 49 = .ok (.ireturn, 1) := by decide +kernel
theorem dX8_span_50 : decode cX8_span 50 = .ok (.aload_n 0, 1) := by decide +kernel
theorem dX8_span_51 : decode cX8_span 51 = .ok (.getfield 34, 3) := by decide +kernel
theorem dX8_span_54 : decode cX8_span 54 = .ok (.getfield 132, 3) := by decide +kernel
theorem dX8_span_57 : decode cX8_span 57 = .ok (.iload_n 1, 1) := by decide +kernel
theorem dX8_span_58 : decode cX8_span 58 = .ok (.iaload, 1) := by decide +kernel
theorem dX8_span_59 : decode cX8_span 59 = .ok (.ireturn, 1) := by decide +kernel
theorem dX8_span_60 : decode cX8_span 60 = .ok (.aload_n 0, 1) := by decide +kernel
theorem dX8_span_61 : decode cX8_span 61 = .ok (.getfield 34, 3) := by decide +kernel
theorem dX8_span_64 : decode cX8_span 64 = .ok (.getfield 135, 3) := by decide +kernel
theorem dX8_span_67 : decode cX8_span 67 = .ok (.iload_n 1, 1) := by decide +kernel
theorem dX8_span_68 : decode cX8_span 68 = .ok (.iaload, 1) := by decide +kernel
theorem dX8_span_69 : decode cX8_span 69 = .ok (.ireturn, 1) := by decide +kernel
theorem dX8_span_70 : decode cX8_span 70 = .ok (.aload_n 0, 1) := by decide +kernel
theorem dX8_span_71 : decode cX8_span 71 = .ok (.getfield 34, 3) := by decide +kernel
theorem dX8_span_74 : decode cX8_span 74 = .ok (.getfield 138, 3) := by decide +kernel
theorem dX8_span_77 : decode cX8_span 77 = .ok (.iload_n 1, 1) := by decide +kernel
theorem dX8_span_78 : decode cX8_span 78 = .ok (.iaload, 1) := by decide +kernel
theorem dX8_span_79 : decode cX8_span 79 = .ok (.ireturn, 1) := by decide +kernel
theorem dX8_span_80 : decode cX8_span 80 = .ok (.aload_n 0, 1) := by decide +kernel
theorem dX8_span_81 : decode cX8_span 81 = .ok (.getfield 34, 3) := by decide +kernel
theorem dX8_span_84 : decode cX8_span 84 = .ok (.getfield 141, 3) := by decide +kernel
theorem dX8_span_87 : decode cX8_span 87 = .ok (.iload_n 1, 1) := by decide +kernel
theorem dX8_span_88 : decode cX8_span 88 = .ok (.iaload, 1) := by decide +kernel
theorem dX8_span_89 : decode cX8_span 89 = .ok (.ireturn, 1) := by decide +kernel
theorem dX8_span_90 : decode cX8_span 90 = .ok (.new 144, 3) := by decide +kernel
theorem dX8_span_93 : decode cX8_span 93 = .ok (.dup, 1) := by decide +kernel
theorem dX8_span_94 : decode cX8_span 94 = .ok (.ldc 146, 2) := by decide +kernel
theorem dX8_span_96 : decode cX8_span 96 = .ok (.invokespecial 148, 3) := by decide +kernel
theorem dX8_span_99 : decode cX8_span 99 = .ok (.athrow, 1) := by decide +kernel
theorem dX8_duration_0 : decode cX8_duration 0 = .ok (.aload_n 0, 1) := by decide +kernel
theorem dX8_duration_1 : decode cX8_duration 1 = .ok (.iload_n 1, 1) := by decide +kernel
theorem dX8_duration_2 : decode cX8_duration 2 = .ok (.invokevirtual 126, 3) := by decide +kernel
theorem dX8_duration_5 : decode cX8_duration 5 = .ok (.aload_n 0, 1) := by decide +kernel
theorem dX8_duration_6 : decode cX8_duration 6 = .ok (.getfield 34, 3) := by decide +kernel
theorem dX8_duration_9 : decode cX8_duration 9 = .ok (.getfield 135, 3) := by decide +kernel
theorem dX8_duration_12 : decode cX8_duration 12 = .ok (.iload_n 1, 1) := by decide +kernel
theorem dX8_duration_13 : decode cX8_duration 13 = .ok (.iaload, 1) := by decide +kernel
theorem dX8_duration_14 : decode cX8_duration 14 = .ok (.aload_n 0, 1) := by decide +kernel
theorem dX8_duration_15 : decode cX8_duration 15 = .ok (.getfield 34, 3) := by decide +kernel
theorem dX8_duration_18 : decode cX8_duration 18 = .ok (.iload_n 1, 1) := by decide +kernel
theorem dX8_duration_19 : decode cX8_duration 19 = .ok (.invokevirtual 151, 3) := by decide +kernel
theorem dX8_duration_22 : decode cX8_duration 22 = .ok (.iadd, 1) := by decide +kernel
theorem dX8_duration_23 : decode cX8_duration 23 = .ok (.ireturn, 1) := by decide +kernel
theorem dX8_slack_0 : decode cX8_slack 0 = .ok (.aload_n 0, 1) := by decide +kernel
theorem dX8_slack_1 : decode cX8_slack 1 = .ok (.iload_n 1, 1) := by decide +kernel
theorem dX8_slack_2 : decode cX8_slack 2 = .ok (.invokevirtual 126, 3) := by decide +kernel
theorem dX8_slack_5 : decode cX8_slack 5 = .ok (.aload_n 0, 1) := by decide +kernel
theorem dX8_slack_6 : decode cX8_slack 6 = .ok (.getfield 34, 3) := by decide +kernel
theorem dX8_slack_9 : decode cX8_slack 9 = .ok (.iload_n 1, 1) := by decide +kernel
theorem dX8_slack_10 : decode cX8_slack 10 = .ok (.invokevirtual 151, 3) := by decide +kernel
theorem dX8_slack_13 : decode cX8_slack 13 = .ok (.ireturn, 1) := by decide +kernel
theorem dX8_isKept_0 : decode cX8_isKept 0 = .ok (.aload_n 0, 1) := by decide +kernel
theorem dX8_isKept_1 : decode cX8_isKept 1 = .ok (.iload_n 1, 1) := by decide +kernel
theorem dX8_isKept_2 : decode cX8_isKept 2 = .ok (.invokevirtual 126, 3) := by decide +kernel
theorem dX8_isKept_5 : decode cX8_isKept 5 = .ok (.aload_n 0, 1) := by decide +kernel
theorem dX8_isKept_6 : decode cX8_isKept 6 = .ok (.getfield 34, 3) := by decide +kernel
theorem dX8_isKept_9 : decode cX8_isKept 9 = .ok (.iload_n 1, 1) := by decide +kernel
theorem dX8_isKept_10 : decode cX8_isKept 10 = .ok (.invokevirtual 155, 3) := by decide +kernel
theorem dX8_isKept_13 : decode cX8_isKept 13 = .ok (.ireturn, 1) := by decide +kernel
theorem dX8_broken_0 : decode cX8_broken 0 = .ok (.aload_n 0, 1) := by decide +kernel
theorem dX8_broken_1 : decode cX8_broken 1 = .ok (.getfield 34, 3) := by decide +kernel
theorem dX8_broken_4 : decode cX8_broken 4 = .ok (.invokevirtual 159, 3) := by decide +kernel
theorem dX8_broken_7 : decode cX8_broken 7 = .ok (.ireturn, 1) := by decide +kernel
theorem dX8_firstBroken_0 : decode cX8_firstBroken 0 = .ok (.iconst 0, 1) := by decide +kernel
theorem dX8_firstBroken_1 : decode cX8_firstBroken 1 = .ok (.istore_n 1, 1) := by decide +kernel
theorem dX8_firstBroken_2 : decode cX8_firstBroken 2 = .ok (.iload_n 1, 1) := by decide +kernel
theorem dX8_firstBroken_3 : decode cX8_firstBroken 3 = .ok (.aload_n 0, 1) := by decide +kernel
theorem dX8_firstBroken_4 : decode cX8_firstBroken 4 = .ok (.getfield 34, 3) := by decide +kernel
theorem dX8_firstBroken_7 : decode cX8_firstBroken 7 = .ok (.getfield 100, 3) := by decide +kernel
theorem dX8_firstBroken_10 : decode cX8_firstBroken 10 = .ok (.if_icmp .ge 22, 3) := by decide +kernel
theorem dX8_firstBroken_13 : decode cX8_firstBroken 13 = .ok (.aload_n 0, 1) := by decide +kernel
theorem dX8_firstBroken_14 : decode cX8_firstBroken 14 = .ok (.getfield 34, 3) := by decide +kernel
theorem dX8_firstBroken_17 : decode cX8_firstBroken 17 = .ok (.iload_n 1, 1) := by decide +kernel
theorem dX8_firstBroken_18 : decode cX8_firstBroken 18 = .ok (.invokevirtual 155, 3) := by decide +kernel
theorem dX8_firstBroken_21 : decode cX8_firstBroken 21 = .ok (.ifCond .ne 5, 3) := by decide +kernel
theorem dX8_firstBroken_24 : decode cX8_firstBroken 24 = .ok (.iload_n 1, 1) := by decide +kernel
theorem dX8_firstBroken_25 : decode cX8_firstBroken 25 = .ok (.ireturn, 1) := by decide +kernel
theorem dX8_firstBroken_26 : decode cX8_firstBroken 26 = .ok (.iinc 1 1, 3) := by decide +kernel
theorem dX8_firstBroken_29 : decode cX8_firstBroken 29 = .ok (.goto (-27), 3) := by decide +kernel
theorem dX8_firstBroken_32 : decode cX8_firstBroken 32 = .ok (.new 163, 3) := by decide +kernel
theorem dX8_firstBroken_35 : decode cX8_firstBroken 35 = .ok (.dup, 1) := by decide +kernel
theorem dX8_firstBroken_36 : decode cX8_firstBroken 36 = .ok (.ldc 165, 2) := by decide +kernel
theorem dX8_firstBroken_38 : decode cX8_firstBroken 38 = .ok (.invokespecial 167, 3) := by decide +kernel
theorem dX8_firstBroken_41 : decode cX8_firstBroken 41 = .ok (.athrow, 1) := by decide +kernel
theorem dX8_cost_0 : decode cX8_cost 0 = .ok (.aload_n 0, 1) := by decide +kernel
theorem dX8_cost_1 : decode cX8_cost 1 = .ok (.getfield 34, 3) := by decide +kernel
theorem dX8_cost_4 : decode cX8_cost 4 = .ok (.invokevirtual 168, 3) := by decide +kernel
theorem dX8_cost_7 : decode cX8_cost 7 = .ok (.ireturn, 1) := by decide +kernel
theorem dX8_meanSlack_0 : decode cX8_meanSlack 0 = .ok (.aload_n 0, 1) := by decide +kernel
theorem dX8_meanSlack_1 : decode cX8_meanSlack 1 = .ok (.getfield 34, 3) := by decide +kernel
theorem dX8_meanSlack_4 : decode cX8_meanSlack 4 = .ok (.invokevirtual 171, 3) := by decide +kernel
theorem dX8_meanSlack_7 : decode cX8_meanSlack 7 = .ok (.istore_n 1, 1) := by decide +kernel
theorem dX8_meanSlack_8 : decode cX8_meanSlack 8 = .ok (.iload_n 1, 1) := by decide +kernel
theorem dX8_meanSlack_9 : decode cX8_meanSlack 9 = .ok (.ifCond .gt 7, 3) := by decide +kernel
theorem dX8_meanSlack_12 : decode cX8_meanSlack 12 = .ok (.fconst 0, 1) := by decide +kernel
theorem dX8_meanSlack_13 : decode cX8_meanSlack 13 = .ok (.goto 14, 3) := by decide +kernel
theorem dX8_meanSlack_16 : decode cX8_meanSlack 16 = .ok (.aload_n 0, 1) := by decide +kernel
theorem dX8_meanSlack_17 : decode cX8_meanSlack 17 = .ok (.getfield 34, 3) := by decide +kernel
theorem dX8_meanSlack_20 : decode cX8_meanSlack 20 = .ok (.invokevirtual 168, 3) := by decide +kernel
theorem dX8_meanSlack_23 : decode cX8_meanSlack 23 = .ok (.i2f, 1) := by decide +kernel
theorem dX8_meanSlack_24 : decode cX8_meanSlack 24 = .ok (.iload_n 1, 1) := by decide +kernel
theorem dX8_meanSlack_25 : decode cX8_meanSlack 25 = .ok (.i2f, 1) := by decide +kernel
theorem dX8_meanSlack_26 : decode cX8_meanSlack 26 = .ok (.fdiv, 1) := by decide +kernel
theorem dX8_meanSlack_27 : decode cX8_meanSlack 27 = .ok (.freturn, 1) := by decide +kernel
theorem dX8_allowed_0 : decode cX8_allowed 0 = .ok (.aload_n 0, 1) := by decide +kernel
theorem dX8_allowed_1 : decode cX8_allowed 1 = .ok (.iload_n 1, 1) := by decide +kernel
theorem dX8_allowed_2 : decode cX8_allowed 2 = .ok (.invokevirtual 119, 3) := by decide +kernel
theorem dX8_allowed_5 : decode cX8_allowed 5 = .ok (.aload_n 0, 1) := by decide +kernel
theorem dX8_allowed_6 : decode cX8_allowed 6 = .ok (.iload_n 2, 1) := by decide +kernel
theorem dX8_allowed_7 : decode cX8_allowed 7 = .ok (.invokevirtual 119, 3) := by decide +kernel
theorem dX8_allowed_10 : decode cX8_allowed 10 = .ok (.aload_n 0, 1) := by decide +kernel
theorem dX8_allowed_11 : decode cX8_allowed 11 = .ok (.getfield 51, 3) := by decide +kernel
theorem dX8_allowed_14 : decode cX8_allowed 14 = .ok (.aload_n 0, 1) := by decide +kernel
theorem dX8_allowed_15 : decode cX8_allowed 15 = .ok (.getfield 34, 3) := by decide +kernel
theorem dX8_allowed_18 : decode cX8_allowed 18 = .ok (.invokevirtual 174, 3) := by decide +kernel
theorem dX8_allowed_21 : decode cX8_allowed 21 = .ok (.iload_n 3, 1) := by decide +kernel
theorem dX8_allowed_22 : decode cX8_allowed 22 = .ok (.ifCond .eq 10, 3) := by decide +kernel
theorem dX8_allowed_25 : decode cX8_allowed 25 = .ok (.aload_n 0, 1) := by decide +kernel
theorem dX8_allowed_26 : decode cX8_allowed 26 = .ok (.getfield 51, 3) := by decide +kernel
theorem dX8_allowed_29 : decode cX8_allowed 29 = .ok (.invokevirtual 177, 3) := by decide +kernel
theorem dX8_allowed_32 : decode cX8_allowed 32 = .ok (.aload_n 0, 1) := by decide +kernel
theorem dX8_allowed_33 : decode cX8_allowed 33 = .ok (.getfield 51, 3) := by decide +kernel
theorem dX8_allowed_36 : decode cX8_allowed 36 = .ok (.iload_n 1, 1) := by decide +kernel
theorem dX8_allowed_37 : decode cX8_allowed 37 = .ok (.iload_n 2, 1) := by decide +kernel
theorem dX8_allowed_38 : decode cX8_allowed 38 = .ok (.invokevirtual 180, 3) := by decide +kernel
theorem dX8_allowed_41 : decode cX8_allowed 41 = .ok (.invokestatic 184, 3) := by decide +kernel
theorem dX8_allowed_44 : decode cX8_allowed 44 = .ok (.ireturn, 1) := by decide +kernel
theorem dX8_isAllowed_0 : decode cX8_isAllowed 0 = .ok (.aload_n 0, 1) := by decide +kernel
theorem dX8_isAllowed_1 : decode cX8_isAllowed 1 = .ok (.iload_n 1, 1) := by decide +kernel
theorem dX8_isAllowed_2 : decode cX8_isAllowed 2 = .ok (.invokevirtual 119, 3) := by decide +kernel
theorem dX8_isAllowed_5 : decode cX8_isAllowed 5 = .ok (.aload_n 0, 1) := by decide +kernel
theorem dX8_isAllowed_6 : decode cX8_isAllowed 6 = .ok (.iload_n 2, 1) := by decide +kernel
theorem dX8_isAllowed_7 : decode cX8_isAllowed 7 = .ok (.invokevirtual 119, 3) := by decide +kernel
theorem dX8_isAllowed_10 : decode cX8_isAllowed 10 = .ok (.iload_n 3, 1) := by decide +kernel
theorem dX8_isAllowed_11 : decode cX8_isAllowed 11 = .ok (.iconst 0, 1) := by decide +kernel
theorem dX8_isAllowed_12 : decode cX8_isAllowed 12 = .ok (.aload_n 0, 1) := by decide +kernel
theorem dX8_isAllowed_13 : decode cX8_isAllowed 13 = .ok (.getfield 34, 3) := by decide +kernel
theorem dX8_isAllowed_16 : decode cX8_isAllowed 16 = .ok (.getfield 109, 3) := by decide +kernel
theorem dX8_isAllowed_19 : decode cX8_isAllowed 19 = .ok (.iconst 1, 1) := by decide +kernel
theorem dX8_isAllowed_20 : decode cX8_isAllowed 20 = .ok (.isub, 1) := by decide +kernel
theorem dX8_isAllowed_21 : decode cX8_isAllowed 21 = .ok (.invokestatic 80, 3) := by decide +kernel
theorem dX8_isAllowed_24 : decode cX8_isAllowed 24 = .ok (.aload_n 0, 1) := by decide +kernel
theorem dX8_isAllowed_25 : decode cX8_isAllowed 25 = .ok (.invokevirtual 189, 3) := by decide +kernel
theorem dX8_isAllowed_28 : decode cX8_isAllowed 28 = .ok (.aload_n 0, 1) := by decide +kernel
theorem dX8_isAllowed_29 : decode cX8_isAllowed 29 = .ok (.getfield 51, 3) := by decide +kernel
theorem dX8_isAllowed_32 : decode cX8_isAllowed 32 = .ok (.iload_n 1, 1) := by decide +kernel
theorem dX8_isAllowed_33 : decode cX8_isAllowed 33 = .ok (.iload_n 2, 1) := by decide +kernel
theorem dX8_isAllowed_34 : decode cX8_isAllowed 34 = .ok (.iload_n 3, 1) := by decide +kernel
theorem dX8_isAllowed_35 : decode cX8_isAllowed 35 = .ok (.invokevirtual 192, 3) := by decide +kernel
theorem dX8_isAllowed_38 : decode cX8_isAllowed 38 = .ok (.ireturn, 1) := by decide +kernel
theorem dX8_isTight_0 : decode cX8_isTight 0 = .ok (.aload_n 0, 1) := by decide +kernel
theorem dX8_isTight_1 : decode cX8_isTight 1 = .ok (.invokevirtual 189, 3) := by decide +kernel
theorem dX8_isTight_4 : decode cX8_isTight 4 = .ok (.aload_n 0, 1) := by decide +kernel
theorem dX8_isTight_5 : decode cX8_isTight 5 = .ok (.getfield 51, 3) := by decide +kernel
theorem dX8_isTight_8 : decode cX8_isTight 8 = .ok (.invokevirtual 199, 3) := by decide +kernel
theorem dX8_isTight_11 : decode cX8_isTight 11 = .ok (.ifCond .ne 7, 3) := by decide +kernel
theorem dX8_isTight_14 : decode cX8_isTight 14 = .ok (.iconst 1, 1) := by decide +kernel
theorem dX8_isTight_15 : decode cX8_isTight 15 = .ok (.goto 4, 3) := by decide +kernel
theorem dX8_isTight_18 : decode cX8_isTight 18 = .ok (.iconst 0, 1) := by decide +kernel
theorem dX8_isTight_19 : decode cX8_isTight 19 = .ok (.ireturn, 1) := by decide +kernel
theorem dX8_tightenDifferences_0 : decode cX8_tightenDifferences 0 = .ok (.aload_n 0, 1) := by decide +kernel
theorem dX8_tightenDifferences_1 : decode cX8_tightenDifferences 1 = .ok (.getfield 51, 3) := by decide +kernel
theorem dX8_tightenDifferences_4 : decode cX8_tightenDifferences 4 = .ok (.aload_n 0, 1) := by decide +kernel
theorem dX8_tightenDifferences_5 : decode cX8_tightenDifferences 5 = .ok (.getfield 34, 3) := by decide +kernel
theorem dX8_tightenDifferences_8 : decode cX8_tightenDifferences 8 = .ok (.invokevirtual 174, 3) := by decide +kernel
theorem dX8_tightenDifferences_11 : decode cX8_tightenDifferences 11 = .ok (.aload_n 0, 1) := by decide +kernel
theorem dX8_tightenDifferences_12 : decode cX8_tightenDifferences 12 = .ok (.getfield 51, 3) := by decide +kernel
theorem dX8_tightenDifferences_15 : decode cX8_tightenDifferences 15 = .ok (.invokevirtual 177, 3) := by decide +kernel
theorem dX8_tightenDifferences_18 : decode cX8_tightenDifferences 18 = .ok (.return_, 1) := by decide +kernel
theorem dX8_isSolvable_0 : decode cX8_isSolvable 0 = .ok (.aload_n 0, 1) := by decide +kernel
theorem dX8_isSolvable_1 : decode cX8_isSolvable 1 = .ok (.getfield 65, 3) := by decide +kernel
theorem dX8_isSolvable_4 : decode cX8_isSolvable 4 = .ok (.aload_n 0, 1) := by decide +kernel
theorem dX8_isSolvable_5 : decode cX8_isSolvable 5 = .ok (.getfield 34, 3) := by decide +kernel
theorem dX8_isSolvable_8 : decode cX8_isSolvable 8 = .ok (.iconst 1, 1) := by decide +kernel
theorem dX8_isSolvable_9 : decode cX8_isSolvable 9 = .ok (.invokevirtual 245, 3) := by decide +kernel
theorem dX8_isSolvable_12 : decode cX8_isSolvable 12 = .ok (.ireturn, 1) := by decide +kernel
theorem dX8_leastCost_0 : decode cX8_leastCost 0 = .ok (.aload_n 0, 1) := by decide +kernel
theorem dX8_leastCost_1 : decode cX8_leastCost 1 = .ok (.getfield 65, 3) := by decide +kernel
theorem dX8_leastCost_4 : decode cX8_leastCost 4 = .ok (.aload_n 0, 1) := by decide +kernel
theorem dX8_leastCost_5 : decode cX8_leastCost 5 = .ok (.getfield 34, 3) := by decide +kernel
theorem dX8_leastCost_8 : decode cX8_leastCost 8 = .ok (.iconst 0, 1) := by decide +kernel
theorem dX8_leastCost_9 : decode cX8_leastCost 9 = .ok (.invokevirtual 245, 3) := by decide +kernel
theorem dX8_leastCost_12 : decode cX8_leastCost 12 = .ok (.invokestatic 249, 3) := by decide +kernel
theorem dX8_leastCost_15 : decode cX8_leastCost 15 = .ok (.aload_n 0, 1) := by decide +kernel
theorem dX8_leastCost_16 : decode cX8_leastCost 16 = .ok (.getfield 65, 3) := by decide +kernel
theorem dX8_leastCost_19 : decode cX8_leastCost 19 = .ok (.getfield 253, 3) := by decide +kernel
theorem dX8_leastCost_22 : decode cX8_leastCost 22 = .ok (.ireturn, 1) := by decide +kernel
theorem dX8_share_0 : decode cX8_share 0 = .ok (.aload_n 0, 1) := by decide +kernel
theorem dX8_share_1 : decode cX8_share 1 = .ok (.iload_n 1, 1) := by decide +kernel
theorem dX8_share_2 : decode cX8_share 2 = .ok (.invokevirtual 126, 3) := by decide +kernel
theorem dX8_share_5 : decode cX8_share 5 = .ok (.iload_n 2, 1) := by decide +kernel
theorem dX8_share_6 : decode cX8_share 6 = .ok (.iconst 0, 1) := by decide +kernel
theorem dX8_share_7 : decode cX8_share 7 = .ok (.sipush 999, 3) := by decide +kernel
theorem dX8_share_10 : decode cX8_share 10 = .ok (.invokestatic 80, 3) := by decide +kernel
theorem dX8_share_13 : decode cX8_share 13 = .ok (.aload_n 0, 1) := by decide +kernel
theorem dX8_share_14 : decode cX8_share 14 = .ok (.getfield 34, 3) := by decide +kernel
theorem dX8_share_17 : decode cX8_share 17 = .ok (.invokevirtual 171, 3) := by decide +kernel
theorem dX8_share_20 : decode cX8_share 20 = .ok (.istore_n 3, 1) := by decide +kernel
theorem dX8_share_21 : decode cX8_share 21 = .ok (.iload_n 3, 1) := by decide +kernel
theorem dX8_share_22 : decode cX8_share 22 = .ok (.ifCond .gt 5, 3) := by decide +kernel
theorem dX8_share_25 : decode cX8_share 25 = .ok (.iconst 0, 1) := by decide +kernel
theorem dX8_share_26 : decode cX8_share 26 = .ok (.ireturn, 1) := by decide +kernel
theorem dX8_share_27 : decode cX8_share 27 = .ok (.iload_n 2, 1) := by decide +kernel
theorem dX8_share_28 : decode cX8_share 28 = .ok (.istore 4, 2) := by decide +kernel
theorem dX8_share_30 : decode cX8_share 30 = .ok (.iconst 0, 1) := by decide +kernel
theorem dX8_share_31 : decode cX8_share 31 = .ok (.istore 5, 2) := by decide +kernel
theorem dX8_share_33 : decode cX8_share 33 = .ok (.iload_n 2, 1) := by decide +kernel
theorem dX8_share_34 : decode cX8_share 34 = .ok (.aload_n 0, 1) := by decide +kernel
theorem dX8_share_35 : decode cX8_share 35 = .ok (.getfield 34, 3) := by decide +kernel
theorem dX8_share_38 : decode cX8_share 38 = .ok (.getfield 141, 3) := by decide +kernel
theorem dX8_share_41 : decode cX8_share 41 = .ok (.iload_n 1, 1) := by decide +kernel
theorem dX8_share_42 : decode cX8_share 42 = .ok (.iaload, 1) := by decide +kernel
theorem dX8_share_43 : decode cX8_share 43 = .ok (.imul, 1) := by decide +kernel
theorem dX8_share_44 : decode cX8_share 44 = .ok (.iload_n 3, 1) := by decide +kernel
theorem dX8_share_45 : decode cX8_share 45 = .ok (.irem, 1) := by decide +kernel
theorem dX8_share_46 : decode cX8_share 46 = .ok (.istore 6, 2) := by decide +kernel
theorem dX8_share_48 : decode cX8_share 48 = .ok (.iconst 0, 1) := by decide +kernel
theorem dX8_share_49 : decode cX8_share 49 = .ok (.istore 7, 2) := by decide +kernel
theorem dX8_share_51 : decode cX8_share 51 = .ok (.iload 7, 2) := by decide +kernel
theorem dX8_share_53 : decode cX8_share 53 = .ok (.aload_n 0, 1) := by decide +kernel
theorem dX8_share_54 : decode cX8_share 54 = .ok (.getfield 34, 3) := by decide +kernel
theorem dX8_share_57 : decode cX8_share 57 = .ok (.getfield 100, 3) := by decide +kernel
theorem dX8_share_60 : decode cX8_share 60 = .ok (.if_icmp .ge 61, 3) := by decide +kernel
theorem dX8_share_63 : decode cX8_share 63 = .ok (.iload_n 2, 1) := by decide +kernel
theorem dX8_share_64 : decode cX8_share 64 = .ok (.aload_n 0, 1) := by decide +kernel
theorem dX8_share_65 : decode cX8_share 65 = .ok (.getfield 34, 3) := by decide +kernel
theorem dX8_share_68 : decode cX8_share 68 = .ok (.getfield 141, 3) := by decide +kernel
theorem dX8_share_71 : decode cX8_share 71 = .ok (.iload 7, 2) := by decide +kernel
theorem dX8_share_73 : decode cX8_share 73 = .ok (.iaload, 1) := by decide +kernel
theorem dX8_share_74 : decode cX8_share 74 = .ok (.imul, 1) := by decide +kernel
theorem dX8_share_75 : decode cX8_share 75 = .ok (.istore 8, 2) := by decide +kernel
theorem dX8_share_77 : decode cX8_share 77 = .ok (.iload 4, 2) := by decide +kernel
theorem dX8_share_79 : decode cX8_share 79 = .ok (.iload 8, 2) := by decide +kernel
theorem dX8_share_81 : decode cX8_share 81 = .ok (.iload_n 3, 1) := by decide +kernel
theorem dX8_share_82 : decode cX8_share 82 = .ok (.idiv, 1) := by decide +kernel
theorem dX8_share_83 : decode cX8_share 83 = .ok (.isub, 1) := by decide +kernel
theorem dX8_share_84 : decode cX8_share 84 = .ok (.istore 4, 2) := by decide +kernel
theorem dX8_share_86 : decode cX8_share 86 = .ok (.iload 8, 2) := by decide +kernel
theorem dX8_share_88 : decode cX8_share 88 = .ok (.iload_n 3, 1) := by decide +kernel
theorem dX8_share_89 : decode cX8_share 89 = .ok (.irem, 1) := by decide +kernel
theorem dX8_share_90 : decode cX8_share 90 = .ok (.istore 9, 2) := by decide +kernel
theorem dX8_share_92 : decode cX8_share 92 = .ok (.iload 9, 2) := by decide +kernel
theorem dX8_share_94 : decode cX8_share 94 = .ok (.iload 6, 2) := by decide +kernel
theorem dX8_share_96 : decode cX8_share 96 = .ok (.if_icmp .gt 16, 3) := by decide +kernel
theorem dX8_share_99 : decode cX8_share 99 = .ok (.iload 9, 2) := by decide +kernel
theorem dX8_share_101 : decode cX8_share 101 = .ok (.iload 6, 2) := by decide +kernel
theorem dX8_share_103 : decode cX8_share 103 = .ok (.if_icmp .ne 12, 3) := by decide +kernel
theorem dX8_share_106 : decode cX8_share 106 = .ok (.iload 7, 2) := by decide +kernel
theorem dX8_share_108 : decode cX8_share 108 = .ok (.iload_n 1, 1) := by decide +kernel
theorem dX8_share_109 : decode cX8_share 109 = .ok (.if_icmp .ge 6, 3) := by decide +kernel
theorem dX8_share_112 : decode cX8_share 112 = .ok (.iinc 5 1, 3) := by decide +kernel
theorem dX8_share_115 : decode cX8_share 115 = .ok (.iinc 7 1, 3) := by decide +kernel
theorem dX8_share_118 : decode cX8_share 118 = .ok (.goto (-67), 3) := by decide +kernel
theorem dX8_share_121 : decode cX8_share 121 = .ok (.iload_n 2, 1) := by decide +kernel
theorem dX8_share_122 : decode cX8_share 122 = .ok (.aload_n 0, 1) := by decide +kernel
theorem dX8_share_123 : decode cX8_share 123 = .ok (.getfield 34, 3) := by decide +kernel
theorem dX8_share_126 : decode cX8_share 126 = .ok (.getfield 141, 3) := by decide +kernel
theorem dX8_share_129 : decode cX8_share 129 = .ok (.iload_n 1, 1) := by decide +kernel
theorem dX8_share_130 : decode cX8_share 130 = .ok (.iaload, 1) := by decide +kernel
theorem dX8_share_131 : decode cX8_share 131 = .ok (.imul, 1) := by decide +kernel
theorem dX8_share_132 : decode cX8_share 132 = .ok (.iload_n 3, 1) := by decide +kernel
theorem dX8_share_133 : decode cX8_share 133 = .ok (.idiv, 1) := by decide +kernel
theorem dX8_share_134 : decode cX8_share 134 = .ok (.iload 5, 2) := by decide +kernel
theorem dX8_share_136 : decode cX8_share 136 = .ok (.iload 4, 2) := by decide +kernel
theorem dX8_share_138 : decode cX8_share 138 = .ok (.if_icmp .ge 7, 3) := by decide +kernel
theorem dX8_share_141 : decode cX8_share 141 = .ok (.iconst 1, 1) := by decide +kernel
theorem dX8_share_142 : decode cX8_share 142 = .ok (.goto 4, 3) := by decide +kernel
theorem dX8_share_145 : decode cX8_share 145 = .ok (.iconst 0, 1) := by decide +kernel
theorem dX8_share_146 : decode cX8_share 146 = .ok (.iadd, 1) := by decide +kernel
theorem dX8_share_147 : decode cX8_share 147 = .ok (.ireturn, 1) := by decide +kernel
theorem dX8_setPeriod_0 : decode cX8_setPeriod 0 = .ok (.iload_n 1, 1) := by decide +kernel
theorem dX8_setPeriod_1 : decode cX8_setPeriod 1 = .ok (.iconst 2, 1) := by decide +kernel
theorem dX8_setPeriod_2 : decode cX8_setPeriod 2 = .ok (.bipush 24, 2) := by decide +kernel
theorem dX8_setPeriod_4 : decode cX8_setPeriod 4 = .ok (.invokestatic 80, 3) := by decide +kernel
theorem dX8_setPeriod_7 : decode cX8_setPeriod 7 = .ok (.iconst 0, 1) := by decide +kernel
theorem dX8_setPeriod_8 : decode cX8_setPeriod 8 = .ok (.istore_n 2, 1) := by decide +kernel
theorem dX8_setPeriod_9 : decode cX8_setPeriod 9 = .ok (.iload_n 2, 1) := by decide +kernel
theorem dX8_setPeriod_10 : decode cX8_setPeriod 10 = .ok (.aload_n 0, 1) := by decide +kernel
theorem dX8_setPeriod_11 : decode cX8_setPeriod 11 = .ok (.getfield 34, 3) := by decide +kernel
theorem dX8_setPeriod_14 : decode cX8_setPeriod 14 = .ok (.getfield 100, 3) := by decide +kernel
theorem dX8_setPeriod_17 : decode cX8_setPeriod 17 = .ok (.if_icmp .ge 45, 3) := by decide +kernel
theorem dX8_setPeriod_20 : decode cX8_setPeriod 20 = .ok (.aload_n 0, 1) := by decide +kernel
theorem dX8_setPeriod_21 : decode cX8_setPeriod 21 = .ok (.getfield 34, 3) := by decide +kernel
theorem dX8_setPeriod_24 : decode cX8_setPeriod 24 = .ok (.getfield 138, 3) := by decide +kernel
theorem dX8_setPeriod_27 : decode cX8_setPeriod 27 = .ok (.iload_n 2, 1) := by decide +kernel
theorem dX8_setPeriod_28 : decode cX8_setPeriod 28 = .ok (.iaload, 1) := by decide +kernel
theorem dX8_setPeriod_29 : decode cX8_setPeriod 29 = .ok (.aload_n 0, 1) := by decide +kernel
theorem dX8_setPeriod_30 : decode cX8_setPeriod 30 = .ok (.getfield 34, 3) := by decide +kernel
theorem dX8_setPeriod_33 : decode cX8_setPeriod 33 = .ok (.getfield 135, 3) := by decide +kernel
theorem dX8_setPeriod_36 : decode cX8_setPeriod 36 = .ok (.iload_n 2, 1) := by decide +kernel
theorem dX8_setPeriod_37 : decode cX8_setPeriod 37 = .ok (.iaload, 1) := by decide +kernel
theorem dX8_setPeriod_38 : decode cX8_setPeriod 38 = .ok (.iload_n 1, 1) := by decide +kernel
theorem dX8_setPeriod_39 : decode cX8_setPeriod 39 = .ok (.iadd, 1) := by decide +kernel
theorem dX8_setPeriod_40 : decode cX8_setPeriod 40 = .ok (.iconst 1, 1) := by decide +kernel
theorem dX8_setPeriod_41 : decode cX8_setPeriod 41 = .ok (.isub, 1) := by decide +kernel
theorem dX8_setPeriod_42 : decode cX8_setPeriod 42 = .ok (.if_icmp .le 14, 3) := by decide +kernel
theorem dX8_setPeriod_45 : decode cX8_setPeriod 45 = .ok (.new 267, 3) := by decide +kernel
theorem dX8_setPeriod_48 : decode cX8_setPeriod 48 = .ok (.dup, 1) := by decide +kernel
theorem dX8_setPeriod_49 : decode cX8_setPeriod 49 = .ok (.ldc_w 276, 3) := by decide +kernel
theorem dX8_setPeriod_52 : decode cX8_setPeriod 52 = .ok (.invokespecial 271, 3) := by decide +kernel
theorem dX8_setPeriod_55 : decode cX8_setPeriod 55 = .ok (.athrow, 1) := by decide +kernel
theorem dX8_setPeriod_56 : decode cX8_setPeriod 56 = .ok (.iinc 2 1, 3) := by decide +kernel
theorem dX8_setPeriod_59 : decode cX8_setPeriod 59 = .ok (.goto (-50), 3) := by decide +kernel
theorem dX8_setPeriod_62 : decode cX8_setPeriod 62 = .ok (.aload_n 0, 1) := by decide +kernel
theorem dX8_setPeriod_63 : decode cX8_setPeriod 63 = .ok (.getfield 44, 3) := by decide +kernel
theorem dX8_setPeriod_66 : decode cX8_setPeriod 66 = .ok (.aload_n 0, 1) := by decide +kernel
theorem dX8_setPeriod_67 : decode cX8_setPeriod 67 = .ok (.getfield 34, 3) := by decide +kernel
theorem dX8_setPeriod_70 : decode cX8_setPeriod 70 = .ok (.invokevirtual 259, 3) := by decide +kernel
theorem dX8_setPeriod_73 : decode cX8_setPeriod 73 = .ok (.aload_n 0, 1) := by decide +kernel
theorem dX8_setPeriod_74 : decode cX8_setPeriod 74 = .ok (.getfield 34, 3) := by decide +kernel
theorem dX8_setPeriod_77 : decode cX8_setPeriod 77 = .ok (.getfield 109, 3) := by decide +kernel
theorem dX8_setPeriod_80 : decode cX8_setPeriod 80 = .ok (.istore_n 2, 1) := by decide +kernel
theorem dX8_setPeriod_81 : decode cX8_setPeriod 81 = .ok (.aload_n 0, 1) := by decide +kernel
theorem dX8_setPeriod_82 : decode cX8_setPeriod 82 = .ok (.getfield 34, 3) := by decide +kernel
theorem dX8_setPeriod_85 : decode cX8_setPeriod 85 = .ok (.iload_n 1, 1) := by decide +kernel
theorem dX8_setPeriod_86 : decode cX8_setPeriod 86 = .ok (.putfield 109, 3) := by decide +kernel
theorem dX8_setPeriod_89 : decode cX8_setPeriod 89 = .ok (.iconst 0, 1) := by decide +kernel
theorem dX8_setPeriod_90 : decode cX8_setPeriod 90 = .ok (.istore_n 3, 1) := by decide +kernel
theorem dX8_setPeriod_91 : decode cX8_setPeriod 91 = .ok (.iload_n 3, 1) := by decide +kernel
theorem dX8_setPeriod_92 : decode cX8_setPeriod 92 = .ok (.aload_n 0, 1) := by decide +kernel
theorem dX8_setPeriod_93 : decode cX8_setPeriod 93 = .ok (.getfield 34, 3) := by decide +kernel
theorem dX8_setPeriod_96 : decode cX8_setPeriod 96 = .ok (.getfield 112, 3) := by decide +kernel
theorem dX8_setPeriod_99 : decode cX8_setPeriod 99 = .ok (.if_icmp .ge 31, 3) := by decide +kernel
theorem dX8_setPeriod_102 : decode cX8_setPeriod 102 = .ok (.aload_n 0, 1) := by decide +kernel
theorem dX8_setPeriod_103 : decode cX8_setPeriod 103 = .ok (.getfield 34, 3) := by decide +kernel
theorem dX8_setPeriod_106 : decode cX8_setPeriod 106 = .ok (.getfield 122, 3) := by decide +kernel
theorem dX8_setPeriod_109 : decode cX8_setPeriod 109 = .ok (.iload_n 3, 1) := by decide +kernel
theorem dX8_setPeriod_110 : decode cX8_setPeriod 110 = .ok (.aload_n 0, 1) := by decide +kernel
theorem dX8_setPeriod_111 : decode cX8_setPeriod 111 = .ok (.getfield 34, 3) := by decide +kernel
theorem dX8_setPeriod_114 : decode cX8_setPeriod 114 = .ok (.getfield 122, 3) := by decide +kernel
theorem dX8_setPeriod_117 : decode cX8_setPeriod 117 = .ok (.iload_n 3, 1) := by decide +kernel
theorem dX8_setPeriod_118 : decode cX8_setPeriod 118 = .ok (.iaload, 1) := by decide +kernel
theorem dX8_setPeriod_119 : decode cX8_setPeriod 119 = .ok (.iload_n 1, 1) := by decide +kernel
theorem dX8_setPeriod_120 : decode cX8_setPeriod 120 = .ok (.invokestatic 203, 3) := by decide +kernel
theorem dX8_setPeriod_123 : decode cX8_setPeriod 123 = .ok (.iastore, 1) := by decide +kernel
theorem dX8_setPeriod_124 : decode cX8_setPeriod 124 = .ok (.iinc 3 1, 3) := by decide +kernel
theorem dX8_setPeriod_127 : decode cX8_setPeriod 127 = .ok (.goto (-36), 3) := by decide +kernel
theorem dX8_setPeriod_130 : decode cX8_setPeriod 130 = .ok (.iload_n 2, 1) := by decide +kernel
theorem dX8_setPeriod_131 : decode cX8_setPeriod 131 = .ok (.ireturn, 1) := by decide +kernel
theorem dX8_solve_0 : decode cX8_solve 0 = .ok (.aload_n 0, 1) := by decide +kernel
theorem dX8_solve_1 : decode cX8_solve 1 = .ok (.getfield 65, 3) := by decide +kernel
theorem dX8_solve_4 : decode cX8_solve 4 = .ok (.aload_n 0, 1) := by decide +kernel
theorem dX8_solve_5 : decode cX8_solve 5 = .ok (.getfield 34, 3) := by decide +kernel
theorem dX8_solve_8 : decode cX8_solve 8 = .ok (.iconst 1, 1) := by decide +kernel
theorem dX8_solve_9 : decode cX8_solve 9 = .ok (.invokevirtual 245, 3) := by decide +kernel
theorem dX8_solve_12 : decode cX8_solve 12 = .ok (.invokestatic 249, 3) := by decide +kernel
theorem dX8_solve_15 : decode cX8_solve 15 = .ok (.aload_n 0, 1) := by decide +kernel
theorem dX8_solve_16 : decode cX8_solve 16 = .ok (.invokevirtual 278, 3) := by decide +kernel
theorem dX8_solve_19 : decode cX8_solve 19 = .ok (.ireturn, 1) := by decide +kernel
theorem dX8_cheapen_0 : decode cX8_cheapen 0 = .ok (.aload_n 0, 1) := by decide +kernel
theorem dX8_cheapen_1 : decode cX8_cheapen 1 = .ok (.getfield 65, 3) := by decide +kernel
theorem dX8_cheapen_4 : decode cX8_cheapen 4 = .ok (.aload_n 0, 1) := by decide +kernel
theorem dX8_cheapen_5 : decode cX8_cheapen 5 = .ok (.getfield 34, 3) := by decide +kernel
theorem dX8_cheapen_8 : decode cX8_cheapen 8 = .ok (.iconst 0, 1) := by decide +kernel
theorem dX8_cheapen_9 : decode cX8_cheapen 9 = .ok (.invokevirtual 245, 3) := by decide +kernel
theorem dX8_cheapen_12 : decode cX8_cheapen 12 = .ok (.invokestatic 249, 3) := by decide +kernel
theorem dX8_cheapen_15 : decode cX8_cheapen 15 = .ok (.aload_n 0, 1) := by decide +kernel
theorem dX8_cheapen_16 : decode cX8_cheapen 16 = .ok (.invokevirtual 278, 3) := by decide +kernel
theorem dX8_cheapen_19 : decode cX8_cheapen 19 = .ok (.ireturn, 1) := by decide +kernel
theorem dX8_takeBest_0 : decode cX8_takeBest 0 = .ok (.aload_n 0, 1) := by decide +kernel
theorem dX8_takeBest_1 : decode cX8_takeBest 1 = .ok (.getfield 44, 3) := by decide +kernel
theorem dX8_takeBest_4 : decode cX8_takeBest 4 = .ok (.aload_n 0, 1) := by decide +kernel
theorem dX8_takeBest_5 : decode cX8_takeBest 5 = .ok (.getfield 34, 3) := by decide +kernel
theorem dX8_takeBest_8 : decode cX8_takeBest 8 = .ok (.invokevirtual 259, 3) := by decide +kernel
theorem dX8_takeBest_11 : decode cX8_takeBest 11 = .ok (.aload_n 0, 1) := by decide +kernel
theorem dX8_takeBest_12 : decode cX8_takeBest 12 = .ok (.getfield 65, 3) := by decide +kernel
theorem dX8_takeBest_15 : decode cX8_takeBest 15 = .ok (.getfield 281, 3) := by decide +kernel
theorem dX8_takeBest_18 : decode cX8_takeBest 18 = .ok (.iconst 0, 1) := by decide +kernel
theorem dX8_takeBest_19 : decode cX8_takeBest 19 = .ok (.aload_n 0, 1) := by decide +kernel
theorem dX8_takeBest_20 : decode cX8_takeBest 20 = .ok (.getfield 34, 3) := by decide +kernel
theorem dX8_takeBest_23 : decode cX8_takeBest 23 = .ok (.getfield 122, 3) := by decide +kernel
theorem dX8_takeBest_26 : decode cX8_takeBest 26 = .ok (.iconst 0, 1) := by decide +kernel
theorem dX8_takeBest_27 : decode cX8_takeBest 27 = .ok (.aload_n 0, 1) := by decide +kernel
theorem dX8_takeBest_28 : decode cX8_takeBest 28 = .ok (.getfield 34, 3) := by decide +kernel
theorem dX8_takeBest_31 : decode cX8_takeBest 31 = .ok (.getfield 112, 3) := by decide +kernel
theorem dX8_takeBest_34 : decode cX8_takeBest 34 = .ok (.invokestatic 284, 3) := by decide +kernel
theorem dX8_takeBest_37 : decode cX8_takeBest 37 = .ok (.aload_n 0, 1) := by decide +kernel
theorem dX8_takeBest_38 : decode cX8_takeBest 38 = .ok (.getfield 65, 3) := by decide +kernel
theorem dX8_takeBest_41 : decode cX8_takeBest 41 = .ok (.getfield 253, 3) := by decide +kernel
theorem dX8_takeBest_44 : decode cX8_takeBest 44 = .ok (.ireturn, 1) := by decide +kernel
theorem dX8_undo_0 : decode cX8_undo 0 = .ok (.aload_n 0, 1) := by decide +kernel
theorem dX8_undo_1 : decode cX8_undo 1 = .ok (.getfield 44, 3) := by decide +kernel
theorem dX8_undo_4 : decode cX8_undo 4 = .ok (.aload_n 0, 1) := by decide +kernel
theorem dX8_undo_5 : decode cX8_undo 5 = .ok (.getfield 34, 3) := by decide +kernel
theorem dX8_undo_8 : decode cX8_undo 8 = .ok (.invokevirtual 294, 3) := by decide +kernel
theorem dX8_undo_11 : decode cX8_undo 11 = .ok (.ireturn, 1) := by decide +kernel
theorem dX8_requireEvent_0 : decode cX8_requireEvent 0 = .ok (.iload_n 1, 1) := by decide +kernel
theorem dX8_requireEvent_1 : decode cX8_requireEvent 1 = .ok (.ifCond .lt 14, 3) := by decide +kernel
theorem dX8_requireEvent_4 : decode cX8_requireEvent 4 = .ok (.iload_n 1, 1) := by decide +kernel
theorem dX8_requireEvent_5 : decode cX8_requireEvent 5 = .ok (.aload_n 0, 1) := by decide +kernel
theorem dX8_requireEvent_6 : decode cX8_requireEvent 6 = .ok (.getfield 34, 3) := by decide +kernel
theorem dX8_requireEvent_9 : decode cX8_requireEvent 9 = .ok (.getfield 112, 3) := by decide +kernel
theorem dX8_requireEvent_12 : decode cX8_requireEvent 12 = .ok (.if_icmp .lt 14, 3) := by decide +kernel
theorem dX8_requireEvent_15 : decode cX8_requireEvent 15 = .ok (.new 313, 3) := by decide +kernel
theorem dX8_requireEvent_18 : decode cX8_requireEvent 18 = .ok (.dup, 1) := by decide +kernel
theorem dX8_requireEvent_19 : decode cX8_requireEvent 19 = .ok (.ldc_w 321, 3) := by decide +kernel
theorem dX8_requireEvent_22 : decode cX8_requireEvent 22 = .ok (.invokespecial 317, 3) := by decide +kernel
theorem dX8_requireEvent_25 : decode cX8_requireEvent 25 = .ok (.athrow, 1) := by decide +kernel
theorem dX8_requireEvent_26 : decode cX8_requireEvent 26 = .ok (.return_, 1) := by decide +kernel
theorem dX8_requireSpan_0 : decode cX8_requireSpan 0 = .ok (.iload_n 1, 1) := by decide +kernel
theorem dX8_requireSpan_1 : decode cX8_requireSpan 1 = .ok (.ifCond .lt 14, 3) := by decide +kernel
theorem dX8_requireSpan_4 : decode cX8_requireSpan 4 = .ok (.iload_n 1, 1) := by decide +kernel
theorem dX8_requireSpan_5 : decode cX8_requireSpan 5 = .ok (.aload_n 0, 1) := by decide +kernel
theorem dX8_requireSpan_6 : decode cX8_requireSpan 6 = .ok (.getfield 34, 3) := by decide +kernel
theorem dX8_requireSpan_9 : decode cX8_requireSpan 9 = .ok (.getfield 100, 3) := by decide +kernel
theorem dX8_requireSpan_12 : decode cX8_requireSpan 12 = .ok (.if_icmp .lt 14, 3) := by decide +kernel
theorem dX8_requireSpan_15 : decode cX8_requireSpan 15 = .ok (.new 313, 3) := by decide +kernel
theorem dX8_requireSpan_18 : decode cX8_requireSpan 18 = .ok (.dup, 1) := by decide +kernel
theorem dX8_requireSpan_19 : decode cX8_requireSpan 19 = .ok (.ldc_w 323, 3) := by decide +kernel
theorem dX8_requireSpan_22 : decode cX8_requireSpan 22 = .ok (.invokespecial 317, 3) := by decide +kernel
theorem dX8_requireSpan_25 : decode cX8_requireSpan 25 = .ok (.athrow, 1) := by decide +kernel
theorem dX8_requireSpan_26 : decode cX8_requireSpan 26 = .ok (.return_, 1) := by decide +kernel
theorem dX8_requireRange_0 : decode cX8_requireRange 0 = .ok (.iload_n 0, 1) := by decide +kernel
theorem dX8_requireRange_1 : decode cX8_requireRange 1 = .ok (.iload_n 1, 1) := by decide +kernel
theorem dX8_requireRange_2 : decode cX8_requireRange 2 = .ok (.if_icmp .lt 8, 3) := by decide +kernel
theorem dX8_requireRange_5 : decode cX8_requireRange 5 = .ok (.iload_n 0, 1) := by decide +kernel
theorem dX8_requireRange_6 : decode cX8_requireRange 6 = .ok (.iload_n 2, 1) := by decide +kernel
theorem dX8_requireRange_7 : decode cX8_requireRange 7 = .ok (.if_icmp .le 14, 3) := by decide +kernel
theorem dX8_requireRange_10 : decode cX8_requireRange 10 = .ok (.new 144, 3) := by decide +kernel
theorem dX8_requireRange_13 : decode cX8_requireRange 13 = .ok (.dup, 1) := by decide +kernel
theorem dX8_requireRange_14 : decode cX8_requireRange 14 = .ok (.ldc_w 329, 3) := by decide +kernel
theorem dX8_requireRange_17 : decode cX8_requireRange 17 = .ok (.invokespecial 148, 3) := by decide +kernel
theorem dX8_requireRange_20 : decode cX8_requireRange 20 = .ok (.athrow, 1) := by decide +kernel
theorem dX8_requireRange_21 : decode cX8_requireRange 21 = .ok (.return_, 1) := by decide +kernel
theorem dX8_requireGood_0 : decode cX8_requireGood 0 = .ok (.iload_n 0, 1) := by decide +kernel
theorem dX8_requireGood_1 : decode cX8_requireGood 1 = .ok (.ifCond .ne 14, 3) := by decide +kernel
theorem dX8_requireGood_4 : decode cX8_requireGood 4 = .ok (.new 163, 3) := by decide +kernel
theorem dX8_requireGood_7 : decode cX8_requireGood 7 = .ok (.dup, 1) := by decide +kernel
theorem dX8_requireGood_8 : decode cX8_requireGood 8 = .ok (.ldc_w 331, 3) := by decide +kernel
theorem dX8_requireGood_11 : decode cX8_requireGood 11 = .ok (.invokespecial 167, 3) := by decide +kernel
theorem dX8_requireGood_14 : decode cX8_requireGood 14 = .ok (.athrow, 1) := by decide +kernel
theorem dX8_requireGood_15 : decode cX8_requireGood 15 = .ok (.return_, 1) := by decide +kernel
theorem dX8_modulo_0 : decode cX8_modulo 0 = .ok (.iload_n 1, 1) := by decide +kernel
theorem dX8_modulo_1 : decode cX8_modulo 1 = .ok (.iconst 1, 1) := by decide +kernel
theorem dX8_modulo_2 : decode cX8_modulo 2 = .ok (.if_icmp .ge 5, 3) := by decide +kernel
theorem dX8_modulo_5 : decode cX8_modulo 5 = .ok (.iconst 0, 1) := by decide +kernel
theorem dX8_modulo_6 : decode cX8_modulo 6 = .ok (.ireturn, 1) := by decide +kernel
theorem dX8_modulo_7 : decode cX8_modulo 7 = .ok (.iload_n 0, 1) := by decide +kernel
theorem dX8_modulo_8 : decode cX8_modulo 8 = .ok (.iload_n 1, 1) := by decide +kernel
theorem dX8_modulo_9 : decode cX8_modulo 9 = .ok (.irem, 1) := by decide +kernel
theorem dX8_modulo_10 : decode cX8_modulo 10 = .ok (.istore_n 2, 1) := by decide +kernel
theorem dX8_modulo_11 : decode cX8_modulo 11 = .ok (.iload_n 2, 1) := by decide +kernel
theorem dX8_modulo_12 : decode cX8_modulo 12 = .ok (.ifCond .ge 9, 3) := by decide +kernel
theorem dX8_modulo_15 : decode cX8_modulo 15 = .ok (.iload_n 2, 1) := by decide +kernel
theorem dX8_modulo_16 : decode cX8_modulo 16 = .ok (.iload_n 1, 1) := by decide +kernel
theorem dX8_modulo_17 : decode cX8_modulo 17 = .ok (.iadd, 1) := by decide +kernel
theorem dX8_modulo_18 : decode cX8_modulo 18 = .ok (.goto 4, 3) := by decide +kernel
theorem dX8_modulo_21 : decode cX8_modulo 21 = .ok (.iload_n 2, 1) := by decide +kernel
theorem dX8_modulo_22 : decode cX8_modulo 22 = .ok (.ireturn, 1) := by decide +kernel
