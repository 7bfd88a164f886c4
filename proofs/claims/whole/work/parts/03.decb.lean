theorem dX8_init_0 : decode cX8_init 0 = .ok (.aload_n 0, 1) := by decide +kernel
theorem dX8_init_1 : decode cX8_init 1 = .ok (.invokespecial 3, 3) := by decide +kernel
theorem dX8_init_4 : decode cX8_init 4 = .ok (.aload_n 0, 1) := by decide +kernel
theorem dX8_init_5 : decode cX8_init 5 = .ok (.sipush 500, 3) := by decide +kernel
theorem dX8_init_8 : decode cX8_init 8 = .ok (.newarray .byte, 2) := by decide +kernel
theorem dX8_init_10 : decode cX8_init 10 = .ok (.putfield 9, 3) := by decide +kernel
theorem dX8_init_13 : decode cX8_init 13 = .ok (.aload_n 0, 1) := by decide +kernel
theorem dX8_init_14 : decode cX8_init 14 = .ok (.iconst 0, 1) := by decide +kernel
theorem dX8_init_15 : decode cX8_init 15 = .ok (.putfield 13, 3) := by decide +kernel
theorem dX8_init_18 : decode cX8_init 18 = .ok (.aload_n 0, 1) := by decide +kernel
theorem dX8_init_19 : decode cX8_init 19 = .ok (.new 17, 3) := by decide +kernel
theorem dX8_init_22 : decode cX8_init 22 = .ok (.dup, 1) := by decide +kernel
theorem dX8_init_23 : decode cX8_init 23 = .ok (.invokespecial 19, 3) := by decide +kernel
theorem dX8_init_26 : decode cX8_init 26 = .ok (.putfield 20, 3) := by decide +kernel
theorem dX8_init_29 : decode cX8_init 29 = .ok (.aload_n 0, 1) := by decide +kernel
theorem dX8_init_30 : decode cX8_init 30 = .ok (.new 24, 3) := by decide +kernel
theorem dX8_init_33 : decode cX8_init 33 = .ok (.dup, 1) := by decide +kernel
theorem dX8_init_34 : decode cX8_init 34 = .ok (.invokespecial 26, 3) := by decide +kernel
theorem dX8_init_37 : decode cX8_init 37 = .ok (.putfield 27, 3) := by decide +kernel
theorem dX8_init_40 : decode cX8_init 40 = .ok (.aload_n 0, 1) := by decide +kernel
theorem dX8_init_41 : decode cX8_init 41 = .ok (.new 31, 3) := by decide +kernel
theorem dX8_init_44 : decode cX8_init 44 = .ok (.dup, 1) := by decide +kernel
theorem dX8_init_45 : decode cX8_init 45 = .ok (.invokespecial 33, 3) := by decide +kernel
theorem dX8_init_48 : decode cX8_init 48 = .ok (.putfield 34, 3) := by decide +kernel
theorem dX8_init_51 : decode cX8_init 51 = .ok (.aload_n 0, 1) := by decide +kernel
theorem dX8_init_52 : decode cX8_init 52 = .ok (.new 31, 3) := by decide +kernel
theorem dX8_init_55 : decode cX8_init 55 = .ok (.dup, 1) := by decide +kernel
theorem dX8_init_56 : decode cX8_init 56 = .ok (.invokespecial 33, 3) := by decide +kernel
theorem dX8_init_59 : decode cX8_init 59 = .ok (.putfield 38, 3) := by decide +kernel
theorem dX8_init_62 : decode cX8_init 62 = .ok (.aload_n 0, 1) := by decide +kernel
theorem dX8_init_63 : decode cX8_init 63 = .ok (.new 41, 3) := by decide +kernel
theorem dX8_init_66 : decode cX8_init 66 = .ok (.dup, 1) := by decide +kernel
theorem dX8_init_67 : decode cX8_init 67 = .ok (.invokespecial 43, 3) := by decide +kernel
theorem dX8_init_70 : decode cX8_init 70 = .ok (.putfield 44, 3) := by decide +kernel
theorem dX8_init_73 : decode cX8_init 73 = .ok (.aload_n 0, 1) := by decide +kernel
theorem dX8_init_74 : decode cX8_init 74 = .ok (.new 48, 3) := by decide +kernel
theorem dX8_init_77 : decode cX8_init 77 = .ok (.dup, 1) := by decide +kernel
theorem dX8_init_78 : decode cX8_init 78 = .ok (.invokespecial 50, 3) := by decide +kernel
theorem dX8_init_81 : decode cX8_init 81 = .ok (.putfield 51, 3) := by decide +kernel
theorem dX8_init_84 : decode cX8_init 84 = .ok (.aload_n 0, 1) := by decide +kernel
theorem dX8_init_85 : decode cX8_init 85 = .ok (.new 55, 3) := by decide +kernel
theorem dX8_init_88 : decode cX8_init 88 = .ok (.dup, 1) := by decide +kernel
theorem dX8_init_89 : decode cX8_init 89 = .ok (.invokespecial 57, 3) := by decide +kernel
theorem dX8_init_92 : decode cX8_init 92 = .ok (.putfield 58, 3) := by decide +kernel
theorem dX8_init_95 : decode cX8_init 95 = .ok (.aload_n 0, 1) := by decide +kernel
theorem dX8_init_96 : decode cX8_init 96 = .ok (.new 62, 3) := by decide +kernel
theorem dX8_init_99 : decode cX8_init 99 = .ok (.dup, 1) := by decide +kernel
theorem dX8_init_100 : decode cX8_init 100 = .ok (.invokespecial 64, 3) := by decide +kernel
theorem dX8_init_103 : decode cX8_init 103 = .ok (.putfield 65, 3) := by decide +kernel
theorem dX8_init_106 : decode cX8_init 106 = .ok (.aload_n 0, 1) := by decide +kernel
theorem dX8_init_107 : decode cX8_init 107 = .ok (.new 69, 3) := by decide +kernel
theorem dX8_init_110 : decode cX8_init 110 = .ok (.dup, 1) := by decide +kernel
theorem dX8_init_111 : decode cX8_init 111 = .ok (.invokespecial 71, 3) := by decide +kernel
theorem dX8_init_114 : decode cX8_init 114 = .ok (.putfield 72, 3) := by decide +kernel
theorem dX8_init_117 : decode cX8_init 117 = .ok (.return_, 1) := by decide +kernel
theorem dX8_feed_0 : decode cX8_feed 0 = .ok (.aload_n 0, 1) := by decide +kernel
theorem dX8_feed_1 : decode cX8_feed 1 = .ok (.getfield 13, 3) := by decide +kernel
theorem dX8_feed_4 : decode cX8_feed 4 = .ok (.sipush 480, 3) := by decide +kernel
theorem dX8_feed_7 : decode cX8_feed 7 = .ok (.if_icmp .le 6, 3) := by decide +kernel
theorem dX8_feed_10 : decode cX8_feed 10 = .ok (.bipush (-2), 2) := by decide +kernel
theorem dX8_feed_12 : decode cX8_feed 12 = .ok (.ireturn, 1) := by decide +kernel
theorem dX8_feed_13 : decode cX8_feed 13 = .ok (.aload_n 0, 1) := by decide +kernel
theorem dX8_feed_14 : decode cX8_feed 14 = .ok (.iload_n 1, 1) := by decide +kernel
theorem dX8_feed_15 : decode cX8_feed 15 = .ok (.invokevirtual 76, 3) := by decide +kernel
theorem dX8_feed_18 : decode cX8_feed 18 = .ok (.aload_n 0, 1) := by decide +kernel
theorem dX8_feed_19 : decode cX8_feed 19 = .ok (.iload_n 2, 1) := by decide +kernel
theorem dX8_feed_20 : decode cX8_feed 20 = .ok (.invokevirtual 76, 3) := by decide +kernel
theorem dX8_feed_23 : decode cX8_feed 23 = .ok (.aload_n 0, 1) := by decide +kernel
theorem dX8_feed_24 : decode cX8_feed 24 = .ok (.iload_n 3, 1) := by decide +kernel
theorem dX8_feed_25 : decode cX8_feed 25 = .ok (.invokevirtual 76, 3) := by decide +kernel
theorem dX8_feed_28 : decode cX8_feed 28 = .ok (.aload_n 0, 1) := by decide +kernel
theorem dX8_feed_29 : decode cX8_feed 29 = .ok (.iload 4, 2) := by decide +kernel
theorem dX8_feed_31 : decode cX8_feed 31 = .ok (.invokevirtual 76, 3) := by decide +kernel
theorem dX8_feed_34 : decode cX8_feed 34 = .ok (.aload_n 0, 1) := by decide +kernel
theorem dX8_feed_35 : decode cX8_feed 35 = .ok (.iload 5, 2) := by decide +kernel
theorem dX8_feed_37 : decode cX8_feed 37 = .ok (.invokevirtual 76, 3) := by decide +kernel
theorem dX8_feed_40 : decode cX8_feed 40 = .ok (.aload_n 0, 1) := by decide +kernel
theorem dX8_feed_41 : decode cX8_feed 41 = .ok (.getfield 13, 3) := by decide +kernel
theorem dX8_feed_44 : decode cX8_feed 44 = .ok (.ireturn, 1) := by decide +kernel
theorem dX8_appendBytes_0 : decode cX8_appendBytes 0 = .ok (.bipush 24, 2) := by decide +kernel
theorem dX8_appendBytes_2 : decode cX8_appendBytes 2 = .ok (.istore_n 2, 1) := by decide +kernel
theorem dX8_appendBytes_3 : decode cX8_appendBytes 3 = .ok (.iload_n 2, 1) := by decide +kernel
theorem dX8_appendBytes_4 : decode cX8_appendBytes 4 = .ok (.ifCond .lt 42, 3) := by decide +kernel
theorem dX8_appendBytes_7 : decode cX8_appendBytes 7 = .ok (.aload_n 0, 1) := by decide +kernel
theorem dX8_appendBytes_8 : decode cX8_appendBytes 8 = .ok (.getfield 13, 3) := by decide +kernel
theorem dX8_appendBytes_11 : decode cX8_appendBytes 11 = .ok (.sipush 500, 3) := by decide +kernel
theorem dX8_appendBytes_14 : decode cX8_appendBytes 14 = .ok (.if_icmp .ge 32, 3) := by decide +kernel
theorem dX8_appendBytes_17 : decode cX8_appendBytes 17 = .ok (.aload_n 0, 1) := by decide +kernel
theorem dX8_appendBytes_18 : decode cX8_appendBytes 18 = .ok (.getfield 9, 3) := by decide +kernel
theorem dX8_appendBytes_21 : decode cX8_appendBytes 21 = .ok (.aload_n 0, 1) := by decide +kernel
theorem dX8_appendBytes_22 : decode cX8_appendBytes 22 = .ok (.getfield 13, 3) := by decide +kernel
theorem dX8_appendBytes_25 : decode cX8_appendBytes 25 = .ok (.iload_n 1, 1) := by decide +kernel
theorem dX8_appendBytes_26 : decode cX8_appendBytes 26 = .ok (.iload_n 2, 1) := by decide +kernel
theorem dX8_appendBytes_27 : decode cX8_appendBytes 27 = .ok (.iushr, 1) := by decide +kernel
theorem dX8_appendBytes_28 : decode cX8_appendBytes 28 = .ok (.i2b, 1) := by decide +kernel
theorem dX8_appendBytes_29 : decode cX8_appendBytes 29 = .ok (.bastore, 1) := by decide +kernel
theorem dX8_appendBytes_30 : decode cX8_appendBytes 30 = .ok (.aload_n 0, 1) := by decide +kernel
theorem dX8_appendBytes_31 : decode cX8_appendBytes 31 = .ok (.dup, 1) := by decide +kernel
theorem dX8_appendBytes_32 : decode cX8_appendBytes 32 = .ok (.getfield 13, 3) := by decide +kernel
theorem dX8_appendBytes_35 : decode cX8_appendBytes 35 = .ok (.iconst 1, 1) := by decide +kernel
theorem dX8_appendBytes_36 : decode cX8_appendBytes 36 = .ok (.iadd, 1) := by decide +kernel
theorem dX8_appendBytes_37 : decode cX8_appendBytes 37 = .ok (.putfield 13, 3) := by decide +kernel
theorem dX8_appendBytes_40 : decode cX8_appendBytes 40 = .ok (.iinc 2 (-8), 3) := by decide +kernel
theorem dX8_appendBytes_43 : decode cX8_appendBytes 43 = .ok (.goto (-40), 3) := by decide +kernel
theorem dX8_appendBytes_46 : decode cX8_appendBytes 46 = .ok (.return_, 1) := by decide +kernel
theorem dX8_load_0 : decode cX8_load 0 = .ok (.iload_n 1, 1) := by decide +kernel
theorem dX8_load_1 : decode cX8_load 1 = .ok (.iconst 0, 1) := by decide +kernel
theorem dX8_load_2 : decode cX8_load 2 = .ok (.aload_n 0, 1) := by decide +kernel
theorem dX8_load_3 : decode cX8_load 3 = .ok (.getfield 13, 3) := by decide +kernel
theorem dX8_load_6 : decode cX8_load 6 = .ok (.invokestatic 80, 3) := by decide +kernel
theorem dX8_load_9 : decode cX8_load 9 = .ok (.aload_n 0, 1) := by decide +kernel
theorem dX8_load_10 : decode cX8_load 10 = .ok (.iconst 0, 1) := by decide +kernel
theorem dX8_load_11 : decode cX8_load 11 = .ok (.putfield 13, 3) := by decide +kernel
theorem dX8_load_14 : decode cX8_load 14 = .ok (.aload_n 0, 1) := by decide +kernel
theorem dX8_load_15 : decode cX8_load 15 = .ok (.getfield 20, 3) := by decide +kernel
theorem dX8_load_18 : decode cX8_load 18 = .ok (.aload_n 0, 1) := by decide +kernel
theorem dX8_load_19 : decode cX8_load 19 = .ok (.getfield 9, 3) := by decide +kernel
theorem dX8_load_22 : decode cX8_load 22 = .ok (.iload_n 1, 1) := by decide +kernel
theorem dX8_load_23 : decode cX8_load 23 = .ok (.invokevirtual 84, 3) := by decide +kernel
theorem dX8_load_26 : decode cX8_load 26 = .ok (.ifCond .ne 6, 3) := by decide +kernel
theorem dX8_load_29 : decode cX8_load 29 = .ok (.bipush (-3), 2) := by decide +kernel
theorem dX8_load_31 : decode cX8_load 31 = .ok (.ireturn, 1) := by decide +kernel
theorem dX8_load_32 : decode cX8_load 32 = .ok (.aload_n 0, 1) := by decide +kernel
theorem dX8_load_33 : decode cX8_load 33 = .ok (.getfield 34, 3) := by decide +kernel
theorem dX8_load_36 : decode cX8_load 36 = .ok (.aload_n 0, 1) := by decide +kernel
theorem dX8_load_37 : decode cX8_load 37 = .ok (.getfield 20, 3) := by decide +kernel
theorem dX8_load_40 : decode cX8_load 40 = .ok (.getfield 88, 3) := by decide +kernel
theorem dX8_load_43 : decode cX8_load 43 = .ok (.invokevirtual 89, 3) := by decide +kernel
theorem dX8_load_46 : decode cX8_load 46 = .ok (.aload_n 0, 1) := by decide +kernel
theorem dX8_load_47 : decode cX8_load 47 = .ok (.getfield 27, 3) := by decide +kernel
theorem dX8_load_50 : decode cX8_load 50 = .ok (.aload_n 0, 1) := by decide +kernel
theorem dX8_load_51 : decode cX8_load 51 = .ok (.getfield 20, 3) := by decide +kernel
theorem dX8_load_54 : decode cX8_load 54 = .ok (.getfield 93, 3) := by decide +kernel
theorem dX8_load_57 : decode cX8_load 57 = .ok (.invokevirtual 94, 3) := by decide +kernel
theorem dX8_load_60 : decode cX8_load 60 = .ok (.aload_n 0, 1) := by decide +kernel
theorem dX8_load_61 : decode cX8_load 61 = .ok (.getfield 44, 3) := by decide +kernel
theorem dX8_load_64 : decode cX8_load 64 = .ok (.invokevirtual 97, 3) := by decide +kernel
theorem dX8_load_67 : decode cX8_load 67 = .ok (.aload_n 0, 1) := by decide +kernel
theorem dX8_load_68 : decode cX8_load 68 = .ok (.getfield 34, 3) := by decide +kernel
theorem dX8_load_71 : decode cX8_load 71 = .ok (.getfield 100, 3) := by decide +kernel
theorem dX8_load_74 : decode cX8_load 74 = .ok (.ireturn, 1) := by decide +kernel
theorem dX8_errorKind_0 : decode cX8_errorKind 0 = .ok (.aload_n 0, 1) := by decide +kernel
theorem dX8_errorKind_1 : decode cX8_errorKind 1 = .ok (.getfield 20, 3) := by decide +kernel
theorem dX8_errorKind_4 : decode cX8_errorKind 4 = .ok (.getfield 103, 3) := by decide +kernel
theorem dX8_errorKind_7 : decode cX8_errorKind 7 = .ok (.ireturn, 1) := by decide +kernel
theorem dX8_errorPosition_0 : decode cX8_errorPosition 0 = .ok (.aload_n 0, 1) := by decide +kernel
theorem dX8_errorPosition_1 : decode cX8_errorPosition 1 = .ok (.getfield 20, 3) := by decide +kernel
theorem dX8_errorPosition_4 : decode cX8_errorPosition 4 = .ok (.getfield 106, 3) := by decide +kernel
theorem dX8_errorPosition_7 : decode cX8_errorPosition 7 = .ok (.ireturn, 1) := by decide +kernel
theorem dX8_period_0 : decode cX8_period 0 = .ok (.aload_n 0, 1) := by decide +kernel
theorem dX8_period_1 : decode cX8_period 1 = .ok (.getfield 34, 3) := by decide +kernel
theorem dX8_period_4 : decode cX8_period 4 = .ok (.getfield 109, 3) := by decide +kernel
theorem dX8_period_7 : decode cX8_period 7 = .ok (.ireturn, 1) := by decide +kernel
theorem dX8_events_0 : decode cX8_events 0 = .ok (.aload_n 0, 1) := by decide +kernel
theorem dX8_events_1 : decode cX8_events 1 = .ok (.getfield 34, 3) := by decide +kernel
theorem dX8_events_4 : decode cX8_events 4 = .ok (.getfield 112, 3) := by decide +kernel
theorem dX8_events_7 : decode cX8_events 7 = .ok (.ireturn, 1) := by decide +kernel
theorem dX8_spans_0 : decode cX8_spans 0 = .ok (.aload_n 0, 1) := by decide +kernel
theorem dX8_spans_1 : decode cX8_spans 1 = .ok (.getfield 34, 3) := by decide +kernel
theorem dX8_spans_4 : decode cX8_spans 4 = .ok (.getfield 100, 3) := by decide +kernel
theorem dX8_spans_7 : decode cX8_spans 7 = .ok (.ireturn, 1) := by decide +kernel
theorem dX8_find_0 : decode cX8_find 0 = .ok (.iload_n 1, 1) := by decide +kernel
theorem dX8_find_1 : decode cX8_find 1 = .ok (.iconst 0, 1) := by decide +kernel
theorem dX8_find_2 : decode cX8_find 2 = .ok (.aload_n 0, 1) := by decide +kernel
theorem dX8_find_3 : decode cX8_find 3 = .ok (.getfield 13, 3) := by decide +kernel
theorem dX8_find_6 : decode cX8_find 6 = .ok (.invokestatic 80, 3) := by decide +kernel
theorem dX8_find_9 : decode cX8_find 9 = .ok (.aload_n 0, 1) := by decide +kernel
theorem dX8_find_10 : decode cX8_find 10 = .ok (.iconst 0, 1) := by decide +kernel
theorem dX8_find_11 : decode cX8_find 11 = .ok (.putfield 13, 3) := by decide +kernel
theorem dX8_find_14 : decode cX8_find 14 = .ok (.aload_n 0, 1) := by decide +kernel
theorem dX8_find_15 : decode cX8_find 15 = .ok (.getfield 27, 3) := by decide +kernel
theorem dX8_find_18 : decode cX8_find 18 = .ok (.aload_n 0, 1) := by decide +kernel
theorem dX8_find_19 : decode cX8_find 19 = .ok (.getfield 9, 3) := by decide +kernel
theorem dX8_find_22 : decode cX8_find 22 = .ok (.iconst 0, 1) := by decide +kernel
theorem dX8_find_23 : decode cX8_find 23 = .ok (.iload_n 1, 1) := by decide +kernel
theorem dX8_find_24 : decode cX8_find 24 = .ok (.invokevirtual 115, 3) := by decide +kernel
theorem dX8_find_27 : decode cX8_find 27 = .ok (.ireturn, 1) := by decide +kernel
theorem dX8_time_0 : decode cX8_time 0 = .ok (.aload_n 0, 1) := by decide +kernel
theorem dX8_time_1 : decode cX8_time 1 = .ok (.iload_n 1, 1) := by decide +kernel
theorem dX8_time_2 : decode cX8_time 2 = .ok (.invokevirtual 119, 3) := by decide +kernel
theorem dX8_time_5 : decode cX8_time 5 = .ok (.aload_n 0, 1) := by decide +kernel
theorem dX8_time_6 : decode cX8_time 6 = .ok (.getfield 34, 3) := by decide +kernel
theorem dX8_time_9 : decode cX8_time 9 = .ok (.getfield 122, 3) := by decide +kernel
theorem dX8_time_12 : decode cX8_time 12 = .ok (.iload_n 1, 1) := by decide +kernel
theorem dX8_time_13 : decode cX8_time 13 = .ok (.iaload, 1) := by decide +kernel
theorem dX8_time_14 : decode cX8_time 14 = .ok (.ireturn, 1) := by decide +kernel
theorem dX8_span_0 : decode cX8_span 0 = .ok (.aload_n 0, 1) := by decide +kernel
theorem dX8_span_1 : decode cX8_span 1 = .ok (.iload_n 1, 1) := by decide +kernel
theorem dX8_span_2 : decode cX8_span 2 = .ok (.invokevirtual 126, 3) := by decide +kernel
theorem dX8_span_5 : decode cX8_span 5 = .ok (.iload_n 2, 1) := by decide +kernel
theorem dX8_span_6 : decode cX8_span 6 = .ok (.tableswitch 84 0 4 #[34, 44, 54, 64, 74], 34) := by decide +kernel
theorem dX8_span_40 : decode cX8_span 40 = .ok (.aload_n 0, 1) := by decide +kernel
theorem dX8_span_41 : decode cX8_span 41 = .ok (.getfield 34, 3) := by decide +kernel
theorem dX8_span_44 : decode cX8_span 44 = .ok (.getfield 129, 3) := by decide +kernel
theorem dX8_span_47 : decode cX8_span 47 = .ok (.iload_n 1, 1) := by decide +kernel
theorem dX8_span_48 : decode cX8_span 48 = .ok (.iaload, 1) := by decide +kernel
theorem dX8_span_49 : decode cX8_span 49 = .ok (.ireturn, 1) := by decide +kernel
theorem dX8_span_50 : decode cX8_span 50 = .ok (.aload_n 0, 1) := by decide +kernel
theorem dX8_span_51 : decode cX8_span 51 = .ok (.getfield 34, 3) := by decide +kernel
theorem dX8_span_54 : decode cX8_span 54 = .ok (.getfield 132, 3) := by decide +kernel
theorem dX8_span_57 : decode cX8_span 57 = .ok (.iload_n 1, 1) := by decide +kernel
theorem dX8_span_58 : decode cX8_span 58 = .ok (.iaload, 1) := by decide +kernel
theorem dX8_span_59 : decode cX8_span 59 = .ok (.ireturn, 1) := by decide +kernel
theorem dX8_span_60 : decode cX8_span 60 = .ok (.aload_n 0, 1) := by decide +kernel
theorem dX8_span_61 : decode cX8_span 61 = .ok (.getfield 34, 3) := by decide +kernel
theorem dX8_span_64 : decode cX8_span 64 = .ok (.getfield 135, 3) := by decide +kernel
theorem dX8_span_67 : decode cX8_span 67 = .ok (.iload_n 1, 1) := by decide +kernel
theorem dX8_span_68 : decode cX8_span 68 = .ok (.iaload, 1) := by decide +kernel
theorem dX8_span_69 : decode cX8_span 69 = .ok (.ireturn, 1) := by decide +kernel
theorem dX8_span_70 : decode cX8_span 70 = .ok (.aload_n 0, 1) := by decide +kernel
theorem dX8_span_71 : decode cX8_span 71 = .ok (.getfield 34, 3) := by decide +kernel
theorem dX8_span_74 : decode cX8_span 74 = .ok (.getfield 138, 3) := by decide +kernel
theorem dX8_span_77 : decode cX8_span 77 = .ok (.iload_n 1, 1) := by decide +kernel
theorem dX8_span_78 : decode cX8_span 78 = .ok (.iaload, 1) := by decide +kernel
theorem dX8_span_79 : decode cX8_span 79 = .ok (.ireturn, 1) := by decide +kernel
theorem dX8_span_80 : decode cX8_span 80 = .ok (.aload_n 0, 1) := by decide +kernel
theorem dX8_span_81 : decode cX8_span 81 = .ok (.getfield 34, 3) := by decide +kernel
theorem dX8_span_84 : decode cX8_span 84 = .ok (.getfield 141, 3) := by decide +kernel
theorem dX8_span_87 : decode cX8_span 87 = .ok (.iload_n 1, 1) := by decide +kernel
theorem dX8_span_88 : decode cX8_span 88 = .ok (.iaload, 1) := by decide +kernel
theorem dX8_span_89 : decode cX8_span 89 = .ok (.ireturn, 1) := by decide +kernel
theorem dX8_span_90 : decode cX8_span 90 = .ok (.new 144, 3) := by decide +kernel
theorem dX8_span_93 : decode cX8_span 93 = .ok (.dup, 1) := by decide +kernel
theorem dX8_span_94 : decode cX8_span 94 = .ok (.ldc 146, 2) := by decide +kernel
theorem dX8_span_96 : decode cX8_span 96 = .ok (.invokespecial 148, 3) := by decide +kernel
theorem dX8_span_99 : decode cX8_span 99 = .ok (.athrow, 1) := by decide +kernel
theorem dX8_duration_0 : decode cX8_duration 0 = .ok (.aload_n 0, 1) := by decide +kernel
theorem dX8_duration_1 : decode cX8_duration 1 = .ok (.iload_n 1, 1) := by decide +kernel
theorem dX8_duration_2 : decode cX8_duration 2 = .ok (.invokevirtual 126, 3) := by decide +kernel
theorem dX8_duration_5 : decode cX8_duration 5 = .ok (.aload_n 0, 1) := by decide +kernel
theorem dX8_duration_6 : decode cX8_duration 6 = .ok (.getfield 34, 3) := by decide +kernel
theorem dX8_duration_9 : decode cX8_duration 9 = .ok (.getfield 135, 3) := by decide +kernel
theorem dX8_duration_12 : decode cX8_duration 12 = .ok (.iload_n 1, 1) := by decide +kernel
theorem dX8_duration_13 : decode cX8_duration 13 = .ok (.iaload, 1) := by decide +kernel
theorem dX8_duration_14 : decode cX8_duration 14 = .ok (.aload_n 0, 1) := by decide +kernel
theorem dX8_duration_15 : decode cX8_duration 15 = .ok (.getfield 34, 3) := by decide +kernel
theorem dX8_duration_18 : decode cX8_duration 18 = .ok (.iload_n 1, 1) := by decide +kernel
theorem dX8_duration_19 : decode cX8_duration 19 = .ok (.invokevirtual 151, 3) := by decide +kernel
theorem dX8_duration_22 : decode cX8_duration 22 = .ok (.iadd, 1) := by decide +kernel
theorem dX8_duration_23 : decode cX8_duration 23 = .ok (.ireturn, 1) := by decide +kernel
theorem dX8_slack_0 : decode cX8_slack 0 = .ok (.aload_n 0, 1) := by decide +kernel
theorem dX8_slack_1 : decode cX8_slack 1 = .ok (.iload_n 1, 1) := by decide +kernel
theorem dX8_slack_2 : decode cX8_slack 2 = .ok (.invokevirtual 126, 3) := by decide +kernel
theorem dX8_slack_5 : decode cX8_slack 5 = .ok (.aload_n 0, 1) := by decide +kernel
theorem dX8_slack_6 : decode cX8_slack 6 = .ok (.getfield 34, 3) := by decide +kernel
theorem dX8_slack_9 : decode cX8_slack 9 = .ok (.iload_n 1, 1) := by decide +kernel
theorem dX8_slack_10 : decode cX8_slack 10 = .ok (.invokevirtual 151, 3) := by decide +kernel
theorem dX8_slack_13 : decode cX8_slack 13 = .ok (.ireturn, 1) := by decide +kernel
theorem dX8_isKept_0 : decode cX8_isKept 0 = .ok (.aload_n 0, 1) := by decide +kernel
theorem dX8_isKept_1 : decode cX8_isKept 1 = .ok (.iload_n 1, 1) := by decide +kernel
theorem dX8_isKept_2 : decode cX8_isKept 2 = .ok (.invokevirtual 126, 3) := by decide +kernel
theorem dX8_isKept_5 : decode cX8_isKept 5 = .ok (.aload_n 0, 1) := by decide +kernel
theorem dX8_isKept_6 : decode cX8_isKept 6 = .ok (.getfield 34, 3) := by decide +kernel
theorem dX8_isKept_9 : decode cX8_isKept 9 = .ok (.iload_n 1, 1) := by decide +kernel
theorem dX8_isKept_10 : decode cX8_isKept 10 = .ok (.invokevirtual 155, 3) := by decide +kernel
theorem dX8_isKept_13 : decode cX8_isKept 13 = .ok (.ireturn, 1) := by decide +kernel
theorem dX8_broken_0 : decode cX8_broken 0 = .ok (.aload_n 0, 1) := by decide +kernel
theorem dX8_broken_1 : decode cX8_broken 1 = .ok (.getfield 34, 3) := by decide +kernel
theorem dX8_broken_4 : decode cX8_broken 4 = .ok (.invokevirtual 159, 3) := by decide +kernel
theorem dX8_broken_7 : decode cX8_broken 7 = .ok (.ireturn, 1) := by decide +kernel
theorem dX8_firstBroken_0 : decode cX8_firstBroken 0 = .ok (.iconst 0, 1) := by decide +kernel
theorem dX8_firstBroken_1 : decode cX8_firstBroken 1 = .ok (.istore_n 1, 1) := by decide +kernel
theorem dX8_firstBroken_2 : decode cX8_firstBroken 2 = .ok (.iload_n 1, 1) := by decide +kernel
theorem dX8_firstBroken_3 : decode cX8_firstBroken 3 = .ok (.aload_n 0, 1) := by decide +kernel
theorem dX8_firstBroken_4 : decode cX8_firstBroken 4 = .ok (.getfield 34, 3) := by decide +kernel
theorem dX8_firstBroken_7 : decode cX8_firstBroken 7 = .ok (.getfield 100, 3) := by decide +kernel
theorem dX8_firstBroken_10 : decode cX8_firstBroken 10 = .ok (.if_icmp .ge 22, 3) := by decide +kernel
theorem dX8_firstBroken_13 : decode cX8_firstBroken 13 = .ok (.aload_n 0, 1) := by decide +kernel
theorem dX8_firstBroken_14 : decode cX8_firstBroken 14 = .ok (.getfield 34, 3) := by decide +kernel
theorem dX8_firstBroken_17 : decode cX8_firstBroken 17 = .ok (.iload_n 1, 1) := by decide +kernel
theorem dX8_firstBroken_18 : decode cX8_firstBroken 18 = .ok (.invokevirtual 155, 3) := by decide +kernel
theorem dX8_firstBroken_21 : decode cX8_firstBroken 21 = .ok (.ifCond .ne 5, 3) := by decide +kernel
theorem dX8_firstBroken_24 : decode cX8_firstBroken 24 = .ok (.iload_n 1, 1) := by decide +kernel
theorem dX8_firstBroken_25 : decode cX8_firstBroken 25 = .ok (.ireturn, 1) := by decide +kernel
theorem dX8_firstBroken_26 : decode cX8_firstBroken 26 = .ok (.iinc 1 1, 3) := by decide +kernel
theorem dX8_firstBroken_29 : decode cX8_firstBroken 29 = .ok (.goto (-27), 3) := by decide +kernel
theorem dX8_firstBroken_32 : decode cX8_firstBroken 32 = .ok (.new 163, 3) := by decide +kernel
theorem dX8_firstBroken_35 : decode cX8_firstBroken 35 = .ok (.dup, 1) := by decide +kernel
theorem dX8_firstBroken_36 : decode cX8_firstBroken 36 = .ok (.ldc 165, 2) := by decide +kernel
theorem dX8_firstBroken_38 : decode cX8_firstBroken 38 = .ok (.invokespecial 167, 3) := by decide +kernel
theorem dX8_firstBroken_41 : decode cX8_firstBroken 41 = .ok (.athrow, 1) := by decide +kernel
theorem dX8_cost_0 : decode cX8_cost 0 = .ok (.aload_n 0, 1) := by decide +kernel
theorem dX8_cost_1 : decode cX8_cost 1 = .ok (.getfield 34, 3) := by decide +kernel
theorem dX8_cost_4 : decode cX8_cost 4 = .ok (.invokevirtual 168, 3) := by decide +kernel
theorem dX8_cost_7 : decode cX8_cost 7 = .ok (.ireturn, 1) := by decide +kernel
theorem dX8_meanSlack_0 : decode cX8_meanSlack 0 = .ok (.aload_n 0, 1) := by decide +kernel
theorem dX8_meanSlack_1 : decode cX8_meanSlack 1 = .ok (.getfield 34, 3) := by decide +kernel
theorem dX8_meanSlack_4 : decode cX8_meanSlack 4 = .ok (.invokevirtual 171, 3) := by decide +kernel
theorem dX8_meanSlack_7 : decode cX8_meanSlack 7 = .ok (.istore_n 1, 1) := by decide +kernel
theorem dX8_meanSlack_8 : decode cX8_meanSlack 8 = .ok (.iload_n 1, 1) := by decide +kernel
theorem dX8_meanSlack_9 : decode cX8_meanSlack 9 = .ok (.ifCond .gt 7, 3) := by decide +kernel
theorem dX8_meanSlack_12 : decode cX8_meanSlack 12 = .ok (.fconst 0, 1) := by decide +kernel
theorem dX8_meanSlack_13 : decode cX8_meanSlack 13 = .ok (.goto 14, 3) := by decide +kernel
theorem dX8_meanSlack_16 : decode cX8_meanSlack 16 = .ok (.aload_n 0, 1) := by decide +kernel
theorem dX8_meanSlack_17 : decode cX8_meanSlack 17 = .ok (.getfield 34, 3) := by decide +kernel
theorem dX8_meanSlack_20 : decode cX8_meanSlack 20 = .ok (.invokevirtual 168, 3) := by decide +kernel
theorem dX8_meanSlack_23 : decode cX8_meanSlack 23 = .ok (.i2f, 1) := by decide +kernel
theorem dX8_meanSlack_24 : decode cX8_meanSlack 24 = .ok (.iload_n 1, 1) := by decide +kernel
theorem dX8_meanSlack_25 : decode cX8_meanSlack 25 = .ok (.i2f, 1) := by decide +kernel
theorem dX8_meanSlack_26 : decode cX8_meanSlack 26 = .ok (.fdiv, 1) := by decide +kernel
theorem dX8_meanSlack_27 : decode cX8_meanSlack 27 = .ok (.freturn, 1) := by decide +kernel
theorem dX8_allowed_0 : decode cX8_allowed 0 = .ok (.aload_n 0, 1) := by decide +kernel
theorem dX8_allowed_1 : decode cX8_allowed 1 = .ok (.iload_n 1, 1) := by decide +kernel
theorem dX8_allowed_2 : decode cX8_allowed 2 = .ok (.invokevirtual 119, 3) := by decide +kernel
theorem dX8_allowed_5 : decode cX8_allowed 5 = .ok (.aload_n 0, 1) := by decide +kernel
theorem dX8_allowed_6 : decode cX8_allowed 6 = .ok (.iload_n 2, 1) := by decide +kernel
theorem dX8_allowed_7 : decode cX8_allowed 7 = .ok (.invokevirtual 119, 3) := by decide +kernel
theorem dX8_allowed_10 : decode cX8_allowed 10 = .ok (.aload_n 0, 1) := by decide +kernel
theorem dX8_allowed_11 : decode cX8_allowed 11 = .ok (.getfield 51, 3) := by decide +kernel
theorem dX8_allowed_14 : decode cX8_allowed 14 = .ok (.aload_n 0, 1) := by decide +kernel
theorem dX8_allowed_15 : decode cX8_allowed 15 = .ok (.getfield 34, 3) := by decide +kernel
theorem dX8_allowed_18 : decode cX8_allowed 18 = .ok (.invokevirtual 174, 3) := by decide +kernel
theorem dX8_allowed_21 : decode cX8_allowed 21 = .ok (.iload_n 3, 1) := by decide +kernel
theorem dX8_allowed_22 : decode cX8_allowed 22 = .ok (.ifCond .eq 10, 3) := by decide +kernel
theorem dX8_allowed_25 : decode cX8_allowed 25 = .ok (.aload_n 0, 1) := by decide +kernel
theorem dX8_allowed_26 : decode cX8_allowed 26 = .ok (.getfield 51, 3) := by decide +kernel
theorem dX8_allowed_29 : decode cX8_allowed 29 = .ok (.invokevirtual 177, 3) := by decide +kernel
theorem dX8_allowed_32 : decode cX8_allowed 32 = .ok (.aload_n 0, 1) := by decide +kernel
theorem dX8_allowed_33 : decode cX8_allowed 33 = .ok (.getfield 51, 3) := by decide +kernel
theorem dX8_allowed_36 : decode cX8_allowed 36 = .ok (.iload_n 1, 1) := by decide +kernel
theorem dX8_allowed_37 : decode cX8_allowed 37 = .ok (.iload_n 2, 1) := by decide +kernel
theorem dX8_allowed_38 : decode cX8_allowed 38 = .ok (.invokevirtual 180, 3) := by decide +kernel
theorem dX8_allowed_41 : decode cX8_allowed 41 = .ok (.invokestatic 184, 3) := by decide +kernel
theorem dX8_allowed_44 : decode cX8_allowed 44 = .ok (.ireturn, 1) := by decide +kernel
theorem dX8_isAllowed_0 : decode cX8_isAllowed 0 = .ok (.aload_n 0, 1) := by decide +kernel
theorem dX8_isAllowed_1 : decode cX8_isAllowed 1 = .ok (.iload_n 1, 1) := by decide +kernel
theorem dX8_isAllowed_2 : decode cX8_isAllowed 2 = .ok (.invokevirtual 119, 3) := by decide +kernel
theorem dX8_isAllowed_5 : decode cX8_isAllowed 5 = .ok (.aload_n 0, 1) := by decide +kernel
theorem dX8_isAllowed_6 : decode cX8_isAllowed 6 = .ok (.iload_n 2, 1) := by decide +kernel
theorem dX8_isAllowed_7 : decode cX8_isAllowed 7 = .ok (.invokevirtual 119, 3) := by decide +kernel
theorem dX8_isAllowed_10 : decode cX8_isAllowed 10 = .ok (.iload_n 3, 1) := by decide +kernel
theorem dX8_isAllowed_11 : decode cX8_isAllowed 11 = .ok (.iconst 0, 1) := by decide +kernel
theorem dX8_isAllowed_12 : decode cX8_isAllowed 12 = .ok (.aload_n 0, 1) := by decide +kernel
theorem dX8_isAllowed_13 : decode cX8_isAllowed 13 = .ok (.getfield 34, 3) := by decide +kernel
theorem dX8_isAllowed_16 : decode cX8_isAllowed 16 = .ok (.getfield 109, 3) := by decide +kernel
theorem dX8_isAllowed_19 : decode cX8_isAllowed 19 = .ok (.iconst 1, 1) := by decide +kernel
theorem dX8_isAllowed_20 : decode cX8_isAllowed 20 = .ok (.isub, 1) := by decide +kernel
theorem dX8_isAllowed_21 : decode cX8_isAllowed 21 = .ok (.invokestatic 80, 3) := by decide +kernel
theorem dX8_isAllowed_24 : decode cX8_isAllowed 24 = .ok (.aload_n 0, 1) := by decide +kernel
theorem dX8_isAllowed_25 : decode cX8_isAllowed 25 = .ok (.invokevirtual 189, 3) := by decide +kernel
theorem dX8_isAllowed_28 : decode cX8_isAllowed 28 = .ok (.aload_n 0, 1) := by decide +kernel
theorem dX8_isAllowed_29 : decode cX8_isAllowed 29 = .ok (.getfield 51, 3) := by decide +kernel
theorem dX8_isAllowed_32 : decode cX8_isAllowed 32 = .ok (.iload_n 1, 1) := by decide +kernel
theorem dX8_isAllowed_33 : decode cX8_isAllowed 33 = .ok (.iload_n 2, 1) := by decide +kernel
theorem dX8_isAllowed_34 : decode cX8_isAllowed 34 = .ok (.iload_n 3, 1) := by decide +kernel
theorem dX8_isAllowed_35 : decode cX8_isAllowed 35 = .ok (.invokevirtual 192, 3) := by decide +kernel
theorem dX8_isAllowed_38 : decode cX8_isAllowed 38 = .ok (.ireturn, 1) := by decide +kernel
theorem dX8_rounds_0 : decode cX8_rounds 0 = .ok (.aload_n 0, 1) := by decide +kernel
theorem dX8_rounds_1 : decode cX8_rounds 1 = .ok (.invokevirtual 189, 3) := by decide +kernel
theorem dX8_rounds_4 : decode cX8_rounds 4 = .ok (.aload_n 0, 1) := by decide +kernel
theorem dX8_rounds_5 : decode cX8_rounds 5 = .ok (.getfield 51, 3) := by decide +kernel
theorem dX8_rounds_8 : decode cX8_rounds 8 = .ok (.getfield 196, 3) := by decide +kernel
theorem dX8_rounds_11 : decode cX8_rounds 11 = .ok (.ireturn, 1) := by decide +kernel
theorem dX8_isTight_0 : decode cX8_isTight 0 = .ok (.aload_n 0, 1) := by decide +kernel
theorem dX8_isTight_1 : decode cX8_isTight 1 = .ok (.invokevirtual 189, 3) := by decide +kernel
theorem dX8_isTight_4 : decode cX8_isTight 4 = .ok (.aload_n 0, 1) := by decide +kernel
theorem dX8_isTight_5 : decode cX8_isTight 5 = .ok (.getfield 51, 3) := by decide +kernel
theorem dX8_isTight_8 : decode cX8_isTight 8 = .ok (.invokevirtual 199, 3) := by decide +kernel
theorem dX8_isTight_11 : decode cX8_isTight 11 = .ok (.ifCond .ne 7, 3) := by decide +kernel
theorem dX8_isTight_14 : decode cX8_isTight 14 = .ok (.iconst 1, 1) := by decide +kernel
theorem dX8_isTight_15 : decode cX8_isTight 15 = .ok (.goto 4, 3) := by decide +kernel
theorem dX8_isTight_18 : decode cX8_isTight 18 = .ok (.iconst 0, 1) := by decide +kernel
theorem dX8_isTight_19 : decode cX8_isTight 19 = .ok (.ireturn, 1) := by decide +kernel
theorem dX8_bound_0 : decode cX8_bound 0 = .ok (.aload_n 0, 1) := by decide +kernel
theorem dX8_bound_1 : decode cX8_bound 1 = .ok (.iload_n 1, 1) := by decide +kernel
theorem dX8_bound_2 : decode cX8_bound 2 = .ok (.invokevirtual 126, 3) := by decide +kernel
theorem dX8_bound_5 : decode cX8_bound 5 = .ok (.aload_n 0, 1) := by decide +kernel
theorem dX8_bound_6 : decode cX8_bound 6 = .ok (.invokevirtual 189, 3) := by decide +kernel
theorem dX8_bound_9 : decode cX8_bound 9 = .ok (.aload_n 0, 1) := by decide +kernel
theorem dX8_bound_10 : decode cX8_bound 10 = .ok (.getfield 34, 3) := by decide +kernel
theorem dX8_bound_13 : decode cX8_bound 13 = .ok (.getfield 135, 3) := by decide +kernel
theorem dX8_bound_16 : decode cX8_bound 16 = .ok (.iload_n 1, 1) := by decide +kernel
theorem dX8_bound_17 : decode cX8_bound 17 = .ok (.iaload, 1) := by decide +kernel
theorem dX8_bound_18 : decode cX8_bound 18 = .ok (.istore_n 3, 1) := by decide +kernel
theorem dX8_bound_19 : decode cX8_bound 19 = .ok (.iconst 0, 1) := by decide +kernel
theorem dX8_bound_20 : decode cX8_bound 20 = .ok (.istore 4, 2) := by decide +kernel
theorem dX8_bound_22 : decode cX8_bound 22 = .ok (.iload 4, 2) := by decide +kernel
theorem dX8_bound_24 : decode cX8_bound 24 = .ok (.aload_n 0, 1) := by decide +kernel
theorem dX8_bound_25 : decode cX8_bound 25 = .ok (.getfield 34, 3) := by decide +kernel
theorem dX8_bound_28 : decode cX8_bound 28 = .ok (.getfield 109, 3) := by decide +kernel
theorem dX8_bound_31 : decode cX8_bound 31 = .ok (.if_icmp .ge 79, 3) := by decide +kernel
theorem dX8_bound_34 : decode cX8_bound 34 = .ok (.iload_n 2, 1) := by decide +kernel
theorem dX8_bound_35 : decode cX8_bound 35 = .ok (.ifCond .eq 20, 3) := by decide +kernel
theorem dX8_bound_38 : decode cX8_bound 38 = .ok (.iload_n 3, 1) := by decide +kernel
theorem dX8_bound_39 : decode cX8_bound 39 = .ok (.aload_n 0, 1) := by decide +kernel
theorem dX8_bound_40 : decode cX8_bound 40 = .ok (.getfield 34, 3) := by decide +kernel
theorem dX8_bound_43 : decode cX8_bound 43 = .ok (.getfield 109, 3) := by decide +kernel
theorem dX8_bound_46 : decode cX8_bound 46 = .ok (.iadd, 1) := by decide +kernel
theorem dX8_bound_47 : decode cX8_bound 47 = .ok (.iconst 1, 1) := by decide +kernel
theorem dX8_bound_48 : decode cX8_bound 48 = .ok (.isub, 1) := by decide +kernel
theorem dX8_bound_49 : decode cX8_bound 49 = .ok (.iload 4, 2) := by decide +kernel
theorem dX8_bound_51 : decode cX8_bound 51 = .ok (.isub, 1) := by decide +kernel
theorem dX8_bound_52 : decode cX8_bound 52 = .ok (.goto 7, 3) := by decide +kernel
theorem dX8_bound_55 : decode cX8_bound 55 = .ok (.iload_n 3, 1) := by decide +kernel
theorem dX8_bound_56 : decode cX8_bound 56 = .ok (.iload 4, 2) := by decide +kernel
theorem dX8_bound_58 : decode cX8_bound 58 = .ok (.iadd, 1) := by decide +kernel
theorem dX8_bound_59 : decode cX8_bound 59 = .ok (.istore 5, 2) := by decide +kernel
theorem dX8_bound_61 : decode cX8_bound 61 = .ok (.aload_n 0, 1) := by decide +kernel
theorem dX8_bound_62 : decode cX8_bound 62 = .ok (.getfield 51, 3) := by decide +kernel
theorem dX8_bound_65 : decode cX8_bound 65 = .ok (.aload_n 0, 1) := by decide +kernel
theorem dX8_bound_66 : decode cX8_bound 66 = .ok (.getfield 34, 3) := by decide +kernel
theorem dX8_bound_69 : decode cX8_bound 69 = .ok (.getfield 129, 3) := by decide +kernel
theorem dX8_bound_72 : decode cX8_bound 72 = .ok (.iload_n 1, 1) := by decide +kernel
theorem dX8_bound_73 : decode cX8_bound 73 = .ok (.iaload, 1) := by decide +kernel
theorem dX8_bound_74 : decode cX8_bound 74 = .ok (.aload_n 0, 1) := by decide +kernel
theorem dX8_bound_75 : decode cX8_bound 75 = .ok (.getfield 34, 3) := by decide +kernel
theorem dX8_bound_78 : decode cX8_bound 78 = .ok (.getfield 132, 3) := by decide +kernel
theorem dX8_bound_81 : decode cX8_bound 81 = .ok (.iload_n 1, 1) := by decide +kernel
theorem dX8_bound_82 : decode cX8_bound 82 = .ok (.iaload, 1) := by decide +kernel
theorem dX8_bound_83 : decode cX8_bound 83 = .ok (.iload 5, 2) := by decide +kernel
theorem dX8_bound_85 : decode cX8_bound 85 = .ok (.aload_n 0, 1) := by decide +kernel
theorem dX8_bound_86 : decode cX8_bound 86 = .ok (.getfield 34, 3) := by decide +kernel
theorem dX8_bound_89 : decode cX8_bound 89 = .ok (.getfield 109, 3) := by decide +kernel
theorem dX8_bound_92 : decode cX8_bound 92 = .ok (.invokestatic 203, 3) := by decide +kernel
theorem dX8_bound_95 : decode cX8_bound 95 = .ok (.invokevirtual 192, 3) := by decide +kernel
theorem dX8_bound_98 : decode cX8_bound 98 = .ok (.ifCond .eq 6, 3) := by decide +kernel
theorem dX8_bound_101 : decode cX8_bound 101 = .ok (.iload 5, 2) := by decide +kernel
theorem dX8_bound_103 : decode cX8_bound 103 = .ok (.ireturn, 1) := by decide +kernel
theorem dX8_bound_104 : decode cX8_bound 104 = .ok (.iinc 4 1, 3) := by decide +kernel
theorem dX8_bound_107 : decode cX8_bound 107 = .ok (.goto (-85), 3) := by decide +kernel
theorem dX8_bound_110 : decode cX8_bound 110 = .ok (.new 163, 3) := by decide +kernel
theorem dX8_bound_113 : decode cX8_bound 113 = .ok (.dup, 1) := by decide +kernel
theorem dX8_bound_114 : decode cX8_bound 114 = .ok (.ldc 206, 2) := by decide +kernel
theorem dX8_bound_116 : decode cX8_bound 116 = .ok (.invokespecial 167, 3) := by decide +kernel
theorem dX8_bound_119 : decode cX8_bound 119 = .ok (.athrow, 1) := by decide +kernel
theorem dX8_tightenDifferences_0 : decode cX8_tightenDifferences 0 = .ok (.aload_n 0, 1) := by decide +kernel
theorem dX8_tightenDifferences_1 : decode cX8_tightenDifferences 1 = .ok (.getfield 51, 3) := by decide +kernel
theorem dX8_tightenDifferences_4 : decode cX8_tightenDifferences 4 = .ok (.aload_n 0, 1) := by decide +kernel
theorem dX8_tightenDifferences_5 : decode cX8_tightenDifferences 5 = .ok (.getfield 34, 3) := by decide +kernel
theorem dX8_tightenDifferences_8 : decode cX8_tightenDifferences 8 = .ok (.invokevirtual 174, 3) := by decide +kernel
theorem dX8_tightenDifferences_11 : decode cX8_tightenDifferences 11 = .ok (.aload_n 0, 1) := by decide +kernel
theorem dX8_tightenDifferences_12 : decode cX8_tightenDifferences 12 = .ok (.getfield 51, 3) := by decide +kernel
theorem dX8_tightenDifferences_15 : decode cX8_tightenDifferences 15 = .ok (.invokevirtual 177, 3) := by decide +kernel
theorem dX8_tightenDifferences_18 : decode cX8_tightenDifferences 18 = .ok (.return_, 1) := by decide +kernel
theorem dX8_cycles_0 : decode cX8_cycles 0 = .ok (.aload_n 0, 1) := by decide +kernel
theorem dX8_cycles_1 : decode cX8_cycles 1 = .ok (.getfield 58, 3) := by decide +kernel
theorem dX8_cycles_4 : decode cX8_cycles 4 = .ok (.aload_n 0, 1) := by decide +kernel
theorem dX8_cycles_5 : decode cX8_cycles 5 = .ok (.getfield 34, 3) := by decide +kernel
theorem dX8_cycles_8 : decode cX8_cycles 8 = .ok (.invokevirtual 208, 3) := by decide +kernel
theorem dX8_cycles_11 : decode cX8_cycles 11 = .ok (.aload_n 0, 1) := by decide +kernel
theorem dX8_cycles_12 : decode cX8_cycles 12 = .ok (.getfield 58, 3) := by decide +kernel
theorem dX8_cycles_15 : decode cX8_cycles 15 = .ok (.getfield 211, 3) := by decide +kernel
theorem dX8_cycles_18 : decode cX8_cycles 18 = .ok (.ireturn, 1) := by decide +kernel
theorem dX8_cycleLength_0 : decode cX8_cycleLength 0 = .ok (.aload_n 0, 1) := by decide +kernel
theorem dX8_cycleLength_1 : decode cX8_cycleLength 1 = .ok (.iload_n 1, 1) := by decide +kernel
theorem dX8_cycleLength_2 : decode cX8_cycleLength 2 = .ok (.invokevirtual 214, 3) := by decide +kernel
theorem dX8_cycleLength_5 : decode cX8_cycleLength 5 = .ok (.aload_n 0, 1) := by decide +kernel
theorem dX8_cycleLength_6 : decode cX8_cycleLength 6 = .ok (.getfield 58, 3) := by decide +kernel
theorem dX8_cycleLength_9 : decode cX8_cycleLength 9 = .ok (.getfield 217, 3) := by decide +kernel
theorem dX8_cycleLength_12 : decode cX8_cycleLength 12 = .ok (.iload_n 1, 1) := by decide +kernel
theorem dX8_cycleLength_13 : decode cX8_cycleLength 13 = .ok (.iaload, 1) := by decide +kernel
theorem dX8_cycleLength_14 : decode cX8_cycleLength 14 = .ok (.ireturn, 1) := by decide +kernel
theorem dX8_cycleSpan_0 : decode cX8_cycleSpan 0 = .ok (.aload_n 0, 1) := by decide +kernel
theorem dX8_cycleSpan_1 : decode cX8_cycleSpan 1 = .ok (.iload_n 1, 1) := by decide +kernel
theorem dX8_cycleSpan_2 : decode cX8_cycleSpan 2 = .ok (.iload_n 2, 1) := by decide +kernel
theorem dX8_cycleSpan_3 : decode cX8_cycleSpan 3 = .ok (.invokevirtual 220, 3) := by decide +kernel
theorem dX8_cycleSpan_6 : decode cX8_cycleSpan 6 = .ok (.aload_n 0, 1) := by decide +kernel
theorem dX8_cycleSpan_7 : decode cX8_cycleSpan 7 = .ok (.getfield 58, 3) := by decide +kernel
theorem dX8_cycleSpan_10 : decode cX8_cycleSpan 10 = .ok (.getfield 224, 3) := by decide +kernel
theorem dX8_cycleSpan_13 : decode cX8_cycleSpan 13 = .ok (.iload_n 1, 1) := by decide +kernel
theorem dX8_cycleSpan_14 : decode cX8_cycleSpan 14 = .ok (.aaload, 1) := by decide +kernel
theorem dX8_cycleSpan_15 : decode cX8_cycleSpan 15 = .ok (.iload_n 2, 1) := by decide +kernel
theorem dX8_cycleSpan_16 : decode cX8_cycleSpan 16 = .ok (.iaload, 1) := by decide +kernel
theorem dX8_cycleSpan_17 : decode cX8_cycleSpan 17 = .ok (.ireturn, 1) := by decide +kernel
theorem dX8_isForward_0 : decode cX8_isForward 0 = .ok (.aload_n 0, 1) := by decide +kernel
theorem dX8_isForward_1 : decode cX8_isForward 1 = .ok (.iload_n 1, 1) := by decide +kernel
theorem dX8_isForward_2 : decode cX8_isForward 2 = .ok (.iload_n 2, 1) := by decide +kernel
theorem dX8_isForward_3 : decode cX8_isForward 3 = .ok (.invokevirtual 220, 3) := by decide +kernel
theorem dX8_isForward_6 : decode cX8_isForward 6 = .ok (.aload_n 0, 1) := by decide +kernel
theorem dX8_isForward_7 : decode cX8_isForward 7 = .ok (.getfield 58, 3) := by decide +kernel
theorem dX8_isForward_10 : decode cX8_isForward 10 = .ok (.getfield 228, 3) := by decide +kernel
theorem dX8_isForward_13 : decode cX8_isForward 13 = .ok (.iload_n 1, 1) := by decide +kernel
theorem dX8_isForward_14 : decode cX8_isForward 14 = .ok (.aaload, 1) := by decide +kernel
theorem dX8_isForward_15 : decode cX8_isForward 15 = .ok (.iload_n 2, 1) := by decide +kernel
theorem dX8_isForward_16 : decode cX8_isForward 16 = .ok (.iaload, 1) := by decide +kernel
theorem dX8_isForward_17 : decode cX8_isForward 17 = .ok (.ifCond .le 7, 3) := by decide +kernel
theorem dX8_isForward_20 : decode cX8_isForward 20 = .ok (.iconst 1, 1) := by decide +kernel
theorem dX8_isForward_21 : decode cX8_isForward 21 = .ok (.goto 4, 3) := by decide +kernel
theorem dX8_isForward_24 : decode cX8_isForward 24 = .ok (.iconst 0, 1) := by decide +kernel
theorem dX8_isForward_25 : decode cX8_isForward 25 = .ok (.ireturn, 1) := by decide +kernel
theorem dX8_turns_0 : decode cX8_turns 0 = .ok (.aload_n 0, 1) := by decide +kernel
theorem dX8_turns_1 : decode cX8_turns 1 = .ok (.iload_n 1, 1) := by decide +kernel
theorem dX8_turns_2 : decode cX8_turns 2 = .ok (.invokevirtual 214, 3) := by decide +kernel
theorem dX8_turns_5 : decode cX8_turns 5 = .ok (.iload_n 2, 1) := by decide +kernel
theorem dX8_turns_6 : decode cX8_turns 6 = .ok (.tableswitch 65 0 2 #[26, 39, 52], 26) := by decide +kernel
theorem dX8_turns_32 : decode cX8_turns 32 = .ok (.aload_n 0, 1) := by decide +kernel
theorem dX8_turns_33 : decode cX8_turns 33 = .ok (.getfield 58, 3) := by decide +kernel
theorem dX8_turns_36 : decode cX8_turns 36 = .ok (.aload_n 0, 1) := by decide +kernel
theorem dX8_turns_37 : decode cX8_turns 37 = .ok (.getfield 34, 3) := by decide +kernel
theorem dX8_turns_40 : decode cX8_turns 40 = .ok (.iload_n 1, 1) := by decide +kernel
theorem dX8_turns_41 : decode cX8_turns 41 = .ok (.invokevirtual 231, 3) := by decide +kernel
theorem dX8_turns_44 : decode cX8_turns 44 = .ok (.ireturn, 1) := by decide +kernel
theorem dX8_turns_45 : decode cX8_turns 45 = .ok (.aload_n 0, 1) := by decide +kernel
theorem dX8_turns_46 : decode cX8_turns 46 = .ok (.getfield 58, 3) := by decide +kernel
theorem dX8_turns_49 : decode cX8_turns 49 = .ok (.aload_n 0, 1) := by decide +kernel
theorem dX8_turns_50 : decode cX8_turns 50 = .ok (.getfield 34, 3) := by decide +kernel
theorem dX8_turns_53 : decode cX8_turns 53 = .ok (.iload_n 1, 1) := by decide +kernel
theorem dX8_turns_54 : decode cX8_turns 54 = .ok (.invokevirtual 235, 3) := by decide +kernel
theorem dX8_turns_57 : decode cX8_turns 57 = .ok (.ireturn, 1) := by decide +kernel
theorem dX8_turns_58 : decode cX8_turns 58 = .ok (.aload_n 0, 1) := by decide +kernel
theorem dX8_turns_59 : decode cX8_turns 59 = .ok (.getfield 58, 3) := by decide +kernel
theorem dX8_turns_62 : decode cX8_turns 62 = .ok (.aload_n 0, 1) := by decide +kernel
theorem dX8_turns_63 : decode cX8_turns 63 = .ok (.getfield 34, 3) := by decide +kernel
theorem dX8_turns_66 : decode cX8_turns 66 = .ok (.iload_n 1, 1) := by decide +kernel
theorem dX8_turns_67 : decode cX8_turns 67 = .ok (.invokevirtual 238, 3) := by decide +kernel
theorem dX8_turns_70 : decode cX8_turns 70 = .ok (.ireturn, 1) := by decide +kernel
theorem dX8_turns_71 : decode cX8_turns 71 = .ok (.new 144, 3) := by decide +kernel
theorem dX8_turns_74 : decode cX8_turns 74 = .ok (.dup, 1) := by decide +kernel
theorem dX8_turns_75 : decode cX8_turns 75 = .ok (.ldc 241, 2) := by decide +kernel
theorem dX8_turns_77 : decode cX8_turns 77 = .ok (.invokespecial 148, 3) := by decide +kernel
theorem dX8_turns_80 : decode cX8_turns 80 = .ok (.athrow, 1) := by decide +kernel
theorem dX8_firstImpossible_0 : decode cX8_firstImpossible 0 = .ok (.aload_n 0, 1) := by decide +kernel
theorem dX8_firstImpossible_1 : decode cX8_firstImpossible 1 = .ok (.getfield 58, 3) := by decide +kernel
theorem dX8_firstImpossible_4 : decode cX8_firstImpossible 4 = .ok (.aload_n 0, 1) := by decide +kernel
theorem dX8_firstImpossible_5 : decode cX8_firstImpossible 5 = .ok (.getfield 34, 3) := by decide +kernel
theorem dX8_firstImpossible_8 : decode cX8_firstImpossible 8 = .ok (.invokevirtual 208, 3) := by decide +kernel
theorem dX8_firstImpossible_11 : decode cX8_firstImpossible 11 = .ok (.iconst 0, 1) := by decide +kernel
theorem dX8_firstImpossible_12 : decode cX8_firstImpossible 12 = .ok (.istore_n 1, 1) := by decide +kernel
theorem dX8_firstImpossible_13 : decode cX8_firstImpossible 13 = .ok (.iload_n 1, 1) := by decide +kernel
theorem dX8_firstImpossible_14 : decode cX8_firstImpossible 14 = .ok (.aload_n 0, 1) := by decide +kernel
theorem dX8_firstImpossible_15 : decode cX8_firstImpossible 15 = .ok (.getfield 58, 3) := by decide +kernel
theorem dX8_firstImpossible_18 : decode cX8_firstImpossible 18 = .ok (.getfield 211, 3) := by decide +kernel
theorem dX8_firstImpossible_21 : decode cX8_firstImpossible 21 = .ok (.if_icmp .ge 38, 3) := by decide +kernel
theorem dX8_firstImpossible_24 : decode cX8_firstImpossible 24 = .ok (.aload_n 0, 1) := by decide +kernel
theorem dX8_firstImpossible_25 : decode cX8_firstImpossible 25 = .ok (.getfield 58, 3) := by decide +kernel
theorem dX8_firstImpossible_28 : decode cX8_firstImpossible 28 = .ok (.aload_n 0, 1) := by decide +kernel
theorem dX8_firstImpossible_29 : decode cX8_firstImpossible 29 = .ok (.getfield 34, 3) := by decide +kernel
theorem dX8_firstImpossible_32 : decode cX8_firstImpossible 32 = .ok (.iload_n 1, 1) := by decide +kernel
theorem dX8_firstImpossible_33 : decode cX8_firstImpossible 33 = .ok (.invokevirtual 235, 3) := by decide +kernel
theorem dX8_firstImpossible_36 : decode cX8_firstImpossible 36 = .ok (.aload_n 0, 1) := by decide +kernel
theorem dX8_firstImpossible_37 : decode cX8_firstImpossible 37 = .ok (.getfield 58, 3) := by decide +kernel
theorem dX8_firstImpossible_40 : decode cX8_firstImpossible 40 = .ok (.aload_n 0, 1) := by decide +kernel
theorem dX8_firstImpossible_41 : decode cX8_firstImpossible 41 = .ok (.getfield 34, 3) := by decide +kernel
theorem dX8_firstImpossible_44 : decode cX8_firstImpossible 44 = .ok (.iload_n 1, 1) := by decide +kernel
theorem dX8_firstImpossible_45 : decode cX8_firstImpossible 45 = .ok (.invokevirtual 238, 3) := by decide +kernel
theorem dX8_firstImpossible_48 : decode cX8_firstImpossible 48 = .ok (.if_icmp .le 5, 3) := by decide +kernel
theorem dX8_firstImpossible_51 : decode cX8_firstImpossible 51 = .ok (.iload_n 1, 1) := by decide +kernel
theorem dX8_firstImpossible_52 : decode cX8_firstImpossible 52 = .ok (.ireturn, 1) := by decide +kernel
theorem dX8_firstImpossible_53 : decode cX8_firstImpossible 53 = .ok (.iinc 1 1, 3) := by decide +kernel
theorem dX8_firstImpossible_56 : decode cX8_firstImpossible 56 = .ok (.goto (-43), 3) := by decide +kernel
theorem dX8_firstImpossible_59 : decode cX8_firstImpossible 59 = .ok (.new 163, 3) := by decide +kernel
theorem dX8_firstImpossible_62 : decode cX8_firstImpossible 62 = .ok (.dup, 1) := by decide +kernel
theorem dX8_firstImpossible_63 : decode cX8_firstImpossible 63 = .ok (.ldc 243, 2) := by decide +kernel
theorem dX8_firstImpossible_65 : decode cX8_firstImpossible 65 = .ok (.invokespecial 167, 3) := by decide +kernel
theorem dX8_firstImpossible_68 : decode cX8_firstImpossible 68 = .ok (.athrow, 1) := by decide +kernel
theorem dX8_isSolvable_0 : decode cX8_isSolvable 0 = .ok (.aload_n 0, 1) := by decide +kernel
theorem dX8_isSolvable_1 : decode cX8_isSolvable 1 = .ok (.getfield 65, 3) := by decide +kernel
theorem dX8_isSolvable_4 : decode cX8_isSolvable 4 = .ok (.aload_n 0, 1) := by decide +kernel
theorem dX8_isSolvable_5 : decode cX8_isSolvable 5 = .ok (.getfield 34, 3) := by decide +kernel
theorem dX8_isSolvable_8 : decode cX8_isSolvable 8 = .ok (.iconst 1, 1) := by decide +kernel
theorem dX8_isSolvable_9 : decode cX8_isSolvable 9 = .ok (.invokevirtual 245, 3) := by decide +kernel
theorem dX8_isSolvable_12 : decode cX8_isSolvable 12 = .ok (.ireturn, 1) := by decide +kernel
theorem dX8_leastCost_0 : decode cX8_leastCost 0 = .ok (.aload_n 0, 1) := by decide +kernel
theorem dX8_leastCost_1 : decode cX8_leastCost 1 = .ok (.getfield 65, 3) := by decide +kernel
theorem dX8_leastCost_4 : decode cX8_leastCost 4 = .ok (.aload_n 0, 1) := by decide +kernel
theorem dX8_leastCost_5 : decode cX8_leastCost 5 = .ok (.getfield 34, 3) := by decide +kernel
theorem dX8_leastCost_8 : decode cX8_leastCost 8 = .ok (.iconst 0, 1) := by decide +kernel
theorem dX8_leastCost_9 : decode cX8_leastCost 9 = .ok (.invokevirtual 245, 3) := by decide +kernel
theorem dX8_leastCost_12 : decode cX8_leastCost 12 = .ok (.invokestatic 249, 3) := by decide +kernel
theorem dX8_leastCost_15 : decode cX8_leastCost 15 = .ok (.aload_n 0, 1) := by decide +kernel
theorem dX8_leastCost_16 : decode cX8_leastCost 16 = .ok (.getfield 65, 3) := by decide +kernel
theorem dX8_leastCost_19 : decode cX8_leastCost 19 = .ok (.getfield 253, 3) := by decide +kernel
theorem dX8_leastCost_22 : decode cX8_leastCost 22 = .ok (.ireturn, 1) := by decide +kernel
theorem dX8_costIf_0 : decode cX8_costIf 0 = .ok (.aload_n 0, 1) := by decide +kernel
theorem dX8_costIf_1 : decode cX8_costIf 1 = .ok (.iload_n 1, 1) := by decide +kernel
theorem dX8_costIf_2 : decode cX8_costIf 2 = .ok (.invokevirtual 119, 3) := by decide +kernel
theorem dX8_costIf_5 : decode cX8_costIf 5 = .ok (.iload_n 2, 1) := by decide +kernel
theorem dX8_costIf_6 : decode cX8_costIf 6 = .ok (.iconst 0, 1) := by decide +kernel
theorem dX8_costIf_7 : decode cX8_costIf 7 = .ok (.aload_n 0, 1) := by decide +kernel
theorem dX8_costIf_8 : decode cX8_costIf 8 = .ok (.getfield 34, 3) := by decide +kernel
theorem dX8_costIf_11 : decode cX8_costIf 11 = .ok (.getfield 109, 3) := by decide +kernel
theorem dX8_costIf_14 : decode cX8_costIf 14 = .ok (.iconst 1, 1) := by decide +kernel
theorem dX8_costIf_15 : decode cX8_costIf 15 = .ok (.isub, 1) := by decide +kernel
theorem dX8_costIf_16 : decode cX8_costIf 16 = .ok (.invokestatic 80, 3) := by decide +kernel
theorem dX8_costIf_19 : decode cX8_costIf 19 = .ok (.aload_n 0, 1) := by decide +kernel
theorem dX8_costIf_20 : decode cX8_costIf 20 = .ok (.getfield 38, 3) := by decide +kernel
theorem dX8_costIf_23 : decode cX8_costIf 23 = .ok (.aload_n 0, 1) := by decide +kernel
theorem dX8_costIf_24 : decode cX8_costIf 24 = .ok (.getfield 34, 3) := by decide +kernel
theorem dX8_costIf_27 : decode cX8_costIf 27 = .ok (.invokevirtual 89, 3) := by decide +kernel
theorem dX8_costIf_30 : decode cX8_costIf 30 = .ok (.aload_n 0, 1) := by decide +kernel
theorem dX8_costIf_31 : decode cX8_costIf 31 = .ok (.getfield 38, 3) := by decide +kernel
theorem dX8_costIf_34 : decode cX8_costIf 34 = .ok (.getfield 122, 3) := by decide +kernel
theorem dX8_costIf_37 : decode cX8_costIf 37 = .ok (.iload_n 1, 1) := by decide +kernel
theorem dX8_costIf_38 : decode cX8_costIf 38 = .ok (.iload_n 2, 1) := by decide +kernel
theorem dX8_costIf_39 : decode cX8_costIf 39 = .ok (.iastore, 1) := by decide +kernel
theorem dX8_costIf_40 : decode cX8_costIf 40 = .ok (.aload_n 0, 1) := by decide +kernel
theorem dX8_costIf_41 : decode cX8_costIf 41 = .ok (.getfield 38, 3) := by decide +kernel
theorem dX8_costIf_44 : decode cX8_costIf 44 = .ok (.invokevirtual 168, 3) := by decide +kernel
theorem dX8_costIf_47 : decode cX8_costIf 47 = .ok (.ireturn, 1) := by decide +kernel
theorem dX8_canRaise_0 : decode cX8_canRaise 0 = .ok (.aload_n 0, 1) := by decide +kernel
theorem dX8_canRaise_1 : decode cX8_canRaise 1 = .ok (.iload_n 1, 1) := by decide +kernel
theorem dX8_canRaise_2 : decode cX8_canRaise 2 = .ok (.invokevirtual 126, 3) := by decide +kernel
theorem dX8_canRaise_5 : decode cX8_canRaise 5 = .ok (.aload_n 0, 1) := by decide +kernel
theorem dX8_canRaise_6 : decode cX8_canRaise 6 = .ok (.getfield 65, 3) := by decide +kernel
theorem dX8_canRaise_9 : decode cX8_canRaise 9 = .ok (.aload_n 0, 1) := by decide +kernel
theorem dX8_canRaise_10 : decode cX8_canRaise 10 = .ok (.getfield 34, 3) := by decide +kernel
theorem dX8_canRaise_13 : decode cX8_canRaise 13 = .ok (.iconst 1, 1) := by decide +kernel
theorem dX8_canRaise_14 : decode cX8_canRaise 14 = .ok (.invokevirtual 245, 3) := by decide +kernel
theorem dX8_canRaise_17 : decode cX8_canRaise 17 = .ok (.ifCond .ne 5, 3) := by decide +kernel
theorem dX8_canRaise_20 : decode cX8_canRaise 20 = .ok (.iconst (-1), 1) := by decide +kernel
theorem dX8_canRaise_21 : decode cX8_canRaise 21 = .ok (.ireturn, 1) := by decide +kernel
theorem dX8_canRaise_22 : decode cX8_canRaise 22 = .ok (.aload_n 0, 1) := by decide +kernel
theorem dX8_canRaise_23 : decode cX8_canRaise 23 = .ok (.getfield 38, 3) := by decide +kernel
theorem dX8_canRaise_26 : decode cX8_canRaise 26 = .ok (.aload_n 0, 1) := by decide +kernel
theorem dX8_canRaise_27 : decode cX8_canRaise 27 = .ok (.getfield 34, 3) := by decide +kernel
theorem dX8_canRaise_30 : decode cX8_canRaise 30 = .ok (.invokevirtual 89, 3) := by decide +kernel
theorem dX8_canRaise_33 : decode cX8_canRaise 33 = .ok (.aload_n 0, 1) := by decide +kernel
theorem dX8_canRaise_34 : decode cX8_canRaise 34 = .ok (.getfield 34, 3) := by decide +kernel
theorem dX8_canRaise_37 : decode cX8_canRaise 37 = .ok (.getfield 138, 3) := by decide +kernel
theorem dX8_canRaise_40 : decode cX8_canRaise 40 = .ok (.iload_n 1, 1) := by decide +kernel
theorem dX8_canRaise_41 : decode cX8_canRaise 41 = .ok (.iaload, 1) := by decide +kernel
theorem dX8_canRaise_42 : decode cX8_canRaise 42 = .ok (.aload_n 0, 1) := by decide +kernel
theorem dX8_canRaise_43 : decode cX8_canRaise 43 = .ok (.getfield 34, 3) := by decide +kernel
theorem dX8_canRaise_46 : decode cX8_canRaise 46 = .ok (.getfield 135, 3) := by decide +kernel
theorem dX8_canRaise_49 : decode cX8_canRaise 49 = .ok (.iload_n 1, 1) := by decide +kernel
theorem dX8_canRaise_50 : decode cX8_canRaise 50 = .ok (.iaload, 1) := by decide +kernel
theorem dX8_canRaise_51 : decode cX8_canRaise 51 = .ok (.isub, 1) := by decide +kernel
theorem dX8_canRaise_52 : decode cX8_canRaise 52 = .ok (.istore_n 2, 1) := by decide +kernel
theorem dX8_canRaise_53 : decode cX8_canRaise 53 = .ok (.iload_n 2, 1) := by decide +kernel
theorem dX8_canRaise_54 : decode cX8_canRaise 54 = .ok (.ifCond .le 46, 3) := by decide +kernel
theorem dX8_canRaise_57 : decode cX8_canRaise 57 = .ok (.aload_n 0, 1) := by decide +kernel
theorem dX8_canRaise_58 : decode cX8_canRaise 58 = .ok (.getfield 38, 3) := by decide +kernel
theorem dX8_canRaise_61 : decode cX8_canRaise 61 = .ok (.getfield 135, 3) := by decide +kernel
theorem dX8_canRaise_64 : decode cX8_canRaise 64 = .ok (.iload_n 1, 1) := by decide +kernel
theorem dX8_canRaise_65 : decode cX8_canRaise 65 = .ok (.aload_n 0, 1) := by decide +kernel
theorem dX8_canRaise_66 : decode cX8_canRaise 66 = .ok (.getfield 34, 3) := by decide +kernel
theorem dX8_canRaise_69 : decode cX8_canRaise 69 = .ok (.getfield 135, 3) := by decide +kernel
theorem dX8_canRaise_72 : decode cX8_canRaise 72 = .ok (.iload_n 1, 1) := by decide +kernel
theorem dX8_canRaise_73 : decode cX8_canRaise 73 = .ok (.iaload, 1) := by decide +kernel
theorem dX8_canRaise_74 : decode cX8_canRaise 74 = .ok (.iload_n 2, 1) := by decide +kernel
theorem dX8_canRaise_75 : decode cX8_canRaise 75 = .ok (.iadd, 1) := by decide +kernel
theorem dX8_canRaise_76 : decode cX8_canRaise 76 = .ok (.iastore, 1) := by decide +kernel
theorem dX8_canRaise_77 : decode cX8_canRaise 77 = .ok (.aload_n 0, 1) := by decide +kernel
theorem dX8_canRaise_78 : decode cX8_canRaise 78 = .ok (.getfield 65, 3) := by decide +kernel
theorem dX8_canRaise_81 : decode cX8_canRaise 81 = .ok (.aload_n 0, 1) := by decide +kernel
theorem dX8_canRaise_82 : decode cX8_canRaise 82 = .ok (.getfield 38, 3) := by decide +kernel
theorem dX8_canRaise_85 : decode cX8_canRaise 85 = .ok (.iconst 1, 1) := by decide +kernel
theorem dX8_canRaise_86 : decode cX8_canRaise 86 = .ok (.invokevirtual 245, 3) := by decide +kernel
theorem dX8_canRaise_89 : decode cX8_canRaise 89 = .ok (.ifCond .eq 5, 3) := by decide +kernel
theorem dX8_canRaise_92 : decode cX8_canRaise 92 = .ok (.iload_n 2, 1) := by decide +kernel
theorem dX8_canRaise_93 : decode cX8_canRaise 93 = .ok (.ireturn, 1) := by decide +kernel
theorem dX8_canRaise_94 : decode cX8_canRaise 94 = .ok (.iinc 2 (-1), 3) := by decide +kernel
theorem dX8_canRaise_97 : decode cX8_canRaise 97 = .ok (.goto (-44), 3) := by decide +kernel
theorem dX8_canRaise_100 : decode cX8_canRaise 100 = .ok (.iconst 0, 1) := by decide +kernel
theorem dX8_canRaise_101 : decode cX8_canRaise 101 = .ok (.ireturn, 1) := by decide +kernel
theorem dX8_isCritical_0 : decode cX8_isCritical 0 = .ok (.aload_n 0, 1) := by decide +kernel
theorem dX8_isCritical_1 : decode cX8_isCritical 1 = .ok (.iload_n 1, 1) := by decide +kernel
theorem dX8_isCritical_2 : decode cX8_isCritical 2 = .ok (.invokevirtual 126, 3) := by decide +kernel
theorem dX8_isCritical_5 : decode cX8_isCritical 5 = .ok (.aload_n 0, 1) := by decide +kernel
theorem dX8_isCritical_6 : decode cX8_isCritical 6 = .ok (.getfield 65, 3) := by decide +kernel
theorem dX8_isCritical_9 : decode cX8_isCritical 9 = .ok (.aload_n 0, 1) := by decide +kernel
theorem dX8_isCritical_10 : decode cX8_isCritical 10 = .ok (.getfield 34, 3) := by decide +kernel
theorem dX8_isCritical_13 : decode cX8_isCritical 13 = .ok (.iconst 1, 1) := by decide +kernel
theorem dX8_isCritical_14 : decode cX8_isCritical 14 = .ok (.invokevirtual 245, 3) := by decide +kernel
theorem dX8_isCritical_17 : decode cX8_isCritical 17 = .ok (.ifCond .eq 5, 3) := by decide +kernel
theorem dX8_isCritical_20 : decode cX8_isCritical 20 = .ok (.iconst 0, 1) := by decide +kernel
theorem dX8_isCritical_21 : decode cX8_isCritical 21 = .ok (.ireturn, 1) := by decide +kernel
theorem dX8_isCritical_22 : decode cX8_isCritical 22 = .ok (.aload_n 0, 1) := by decide +kernel
theorem dX8_isCritical_23 : decode cX8_isCritical 23 = .ok (.getfield 38, 3) := by decide +kernel
theorem dX8_isCritical_26 : decode cX8_isCritical 26 = .ok (.aload_n 0, 1) := by decide +kernel
theorem dX8_isCritical_27 : decode cX8_isCritical 27 = .ok (.getfield 34, 3) := by decide +kernel
theorem dX8_isCritical_30 : decode cX8_isCritical 30 = .ok (.invokevirtual 89, 3) := by decide +kernel
theorem dX8_isCritical_33 : decode cX8_isCritical 33 = .ok (.aload_n 0, 1) := by decide +kernel
theorem dX8_isCritical_34 : decode cX8_isCritical 34 = .ok (.getfield 38, 3) := by decide +kernel
theorem dX8_isCritical_37 : decode cX8_isCritical 37 = .ok (.iload_n 1, 1) := by decide +kernel
theorem dX8_isCritical_38 : decode cX8_isCritical 38 = .ok (.invokevirtual 256, 3) := by decide +kernel
theorem dX8_isCritical_41 : decode cX8_isCritical 41 = .ok (.aload_n 0, 1) := by decide +kernel
theorem dX8_isCritical_42 : decode cX8_isCritical 42 = .ok (.getfield 65, 3) := by decide +kernel
theorem dX8_isCritical_45 : decode cX8_isCritical 45 = .ok (.aload_n 0, 1) := by decide +kernel
theorem dX8_isCritical_46 : decode cX8_isCritical 46 = .ok (.getfield 38, 3) := by decide +kernel
theorem dX8_isCritical_49 : decode cX8_isCritical 49 = .ok (.iconst 1, 1) := by decide +kernel
theorem dX8_isCritical_50 : decode cX8_isCritical 50 = .ok (.invokevirtual 245, 3) := by decide +kernel
theorem dX8_isCritical_53 : decode cX8_isCritical 53 = .ok (.ireturn, 1) := by decide +kernel
theorem dX8_share_0 : decode cX8_share 0 = .ok (.aload_n 0, 1) := by decide +kernel
theorem dX8_share_1 : decode cX8_share 1 = .ok (.iload_n 1, 1) := by decide +kernel
theorem dX8_share_2 : decode cX8_share 2 = .ok (.invokevirtual 126, 3) := by decide +kernel
theorem dX8_share_5 : decode cX8_share 5 = .ok (.iload_n 2, 1) := by decide +kernel
theorem dX8_share_6 : decode cX8_share 6 = .ok (.iconst 0, 1) := by decide +kernel
theorem dX8_share_7 : decode cX8_share 7 = .ok (.sipush 999, 3) := by decide +kernel
theorem dX8_share_10 : decode cX8_share 10 = .ok (.invokestatic 80, 3) := by decide +kernel
theorem dX8_share_13 : decode cX8_share 13 = .ok (.aload_n 0, 1) := by decide +kernel
theorem dX8_share_14 : decode cX8_share 14 = .ok (.getfield 34, 3) := by decide +kernel
theorem dX8_share_17 : decode cX8_share 17 = .ok (.invokevirtual 171, 3) := by decide +kernel
theorem dX8_share_20 : decode cX8_share 20 = .ok (.istore_n 3, 1) := by decide +kernel
theorem dX8_share_21 : decode cX8_share 21 = .ok (.iload_n 3, 1) := by decide +kernel
theorem dX8_share_22 : decode cX8_share 22 = .ok (.ifCond .gt 5, 3) := by decide +kernel
theorem dX8_share_25 : decode cX8_share 25 = .ok (.iconst 0, 1) := by decide +kernel
theorem dX8_share_26 : decode cX8_share 26 = .ok (.ireturn, 1) := by decide +kernel
theorem dX8_share_27 : decode cX8_share 27 = .ok (.iload_n 2, 1) := by decide +kernel
theorem dX8_share_28 : decode cX8_share 28 = .ok (.istore 4, 2) := by decide +kernel
theorem dX8_share_30 : decode cX8_share 30 = .ok (.iconst 0, 1) := by decide +kernel
theorem dX8_share_31 : decode cX8_share 31 = .ok (.istore 5, 2) := by decide +kernel
theorem dX8_share_33 : decode cX8_share 33 = .ok (.iload_n 2, 1) := by decide +kernel
theorem dX8_share_34 : decode cX8_share 34 = .ok (.aload_n 0, 1) := by decide +kernel
theorem dX8_share_35 : decode cX8_share 35 = .ok (.getfield 34, 3) := by decide +kernel
theorem dX8_share_38 : decode cX8_share 38 = .ok (.getfield 141, 3) := by decide +kernel
theorem dX8_share_41 : decode cX8_share 41 = .ok (.iload_n 1, 1) := by decide +kernel
theorem dX8_share_42 : decode cX8_share 42 = .ok (.iaload, 1) := by decide +kernel
theorem dX8_share_43 : decode cX8_share 43 = .ok (.imul, 1) := by decide +kernel
theorem dX8_share_44 : decode cX8_share 44 = .ok (.iload_n 3, 1) := by decide +kernel
theorem dX8_share_45 : decode cX8_share 45 = .ok (.irem, 1) := by decide +kernel
theorem dX8_share_46 : decode cX8_share 46 = .ok (.istore 6, 2) := by decide +kernel
theorem dX8_share_48 : decode cX8_share 48 = .ok (.iconst 0, 1) := by decide +kernel
theorem dX8_share_49 : decode cX8_share 49 = .ok (.istore 7, 2) := by decide +kernel
theorem dX8_share_51 : decode cX8_share 51 = .ok (.iload 7, 2) := by decide +kernel
theorem dX8_share_53 : decode cX8_share 53 = .ok (.aload_n 0, 1) := by decide +kernel
theorem dX8_share_54 : decode cX8_share 54 = .ok (.getfield 34, 3) := by decide +kernel
theorem dX8_share_57 : decode cX8_share 57 = .ok (.getfield 100, 3) := by decide +kernel
theorem dX8_share_60 : decode cX8_share 60 = .ok (.if_icmp .ge 61, 3) := by decide +kernel
theorem dX8_share_63 : decode cX8_share 63 = .ok (.iload_n 2, 1) := by decide +kernel
theorem dX8_share_64 : decode cX8_share 64 = .ok (.aload_n 0, 1) := by decide +kernel
theorem dX8_share_65 : decode cX8_share 65 = .ok (.getfield 34, 3) := by decide +kernel
theorem dX8_share_68 : decode cX8_share 68 = .ok (.getfield 141, 3) := by decide +kernel
theorem dX8_share_71 : decode cX8_share 71 = .ok (.iload 7, 2) := by decide +kernel
theorem dX8_share_73 : decode cX8_share 73 = .ok (.iaload, 1) := by decide +kernel
theorem dX8_share_74 : decode cX8_share 74 = .ok (.imul, 1) := by decide +kernel
theorem dX8_share_75 : decode cX8_share 75 = .ok (.istore 8, 2) := by decide +kernel
theorem dX8_share_77 : decode cX8_share 77 = .ok (.iload 4, 2) := by decide +kernel
theorem dX8_share_79 : decode cX8_share 79 = .ok (.iload 8, 2) := by decide +kernel
theorem dX8_share_81 : decode cX8_share 81 = .ok (.iload_n 3, 1) := by decide +kernel
theorem dX8_share_82 : decode cX8_share 82 = .ok (.idiv, 1) := by decide +kernel
theorem dX8_share_83 : decode cX8_share 83 = .ok (.isub, 1) := by decide +kernel
theorem dX8_share_84 : decode cX8_share 84 = .ok (.istore 4, 2) := by decide +kernel
theorem dX8_share_86 : decode cX8_share 86 = .ok (.iload 8, 2) := by decide +kernel
theorem dX8_share_88 : decode cX8_share 88 = .ok (.iload_n 3, 1) := by decide +kernel
theorem dX8_share_89 : decode cX8_share 89 = .ok (.irem, 1) := by decide +kernel
theorem dX8_share_90 : decode cX8_share 90 = .ok (.istore 9, 2) := by decide +kernel
theorem dX8_share_92 : decode cX8_share 92 = .ok (.iload 9, 2) := by decide +kernel
theorem dX8_share_94 : decode cX8_share 94 = .ok (.iload 6, 2) := by decide +kernel
theorem dX8_share_96 : decode cX8_share 96 = .ok (.if_icmp .gt 16, 3) := by decide +kernel
theorem dX8_share_99 : decode cX8_share 99 = .ok (.iload 9, 2) := by decide +kernel
theorem dX8_share_101 : decode cX8_share 101 = .ok (.iload 6, 2) := by decide +kernel
theorem dX8_share_103 : decode cX8_share 103 = .ok (.if_icmp .ne 12, 3) := by decide +kernel
theorem dX8_share_106 : decode cX8_share 106 = .ok (.iload 7, 2) := by decide +kernel
theorem dX8_share_108 : decode cX8_share 108 = .ok (.iload_n 1, 1) := by decide +kernel
theorem dX8_share_109 : decode cX8_share 109 = .ok (.if_icmp .ge 6, 3) := by decide +kernel
theorem dX8_share_112 : decode cX8_share 112 = .ok (.iinc 5 1, 3) := by decide +kernel
theorem dX8_share_115 : decode cX8_share 115 = .ok (.iinc 7 1, 3) := by decide +kernel
theorem dX8_share_118 : decode cX8_share 118 = .ok (.goto (-67), 3) := by decide +kernel
theorem dX8_share_121 : decode cX8_share 121 = .ok (.iload_n 2, 1) := by decide +kernel
theorem dX8_share_122 : decode cX8_share 122 = .ok (.aload_n 0, 1) := by decide +kernel
theorem dX8_share_123 : decode cX8_share 123 = .ok (.getfield 34, 3) := by decide +kernel
theorem dX8_share_126 : decode cX8_share 126 = .ok (.getfield 141, 3) := by decide +kernel
theorem dX8_share_129 : decode cX8_share 129 = .ok (.iload_n 1, 1) := by decide +kernel
theorem dX8_share_130 : decode cX8_share 130 = .ok (.iaload, 1) := by decide +kernel
theorem dX8_share_131 : decode cX8_share 131 = .ok (.imul, 1) := by decide +kernel
theorem dX8_share_132 : decode cX8_share 132 = .ok (.iload_n 3, 1) := by decide +kernel
theorem dX8_share_133 : decode cX8_share 133 = .ok (.idiv, 1) := by decide +kernel
theorem dX8_share_134 : decode cX8_share 134 = .ok (.iload 5, 2) := by decide +kernel
theorem dX8_share_136 : decode cX8_share 136 = .ok (.iload 4, 2) := by decide +kernel
theorem dX8_share_138 : decode cX8_share 138 = .ok (.if_icmp .ge 7, 3) := by decide +kernel
theorem dX8_share_141 : decode cX8_share 141 = .ok (.iconst 1, 1) := by decide +kernel
theorem dX8_share_142 : decode cX8_share 142 = .ok (.goto 4, 3) := by decide +kernel
theorem dX8_share_145 : decode cX8_share 145 = .ok (.iconst 0, 1) := by decide +kernel
theorem dX8_share_146 : decode cX8_share 146 = .ok (.iadd, 1) := by decide +kernel
theorem dX8_share_147 : decode cX8_share 147 = .ok (.ireturn, 1) := by decide +kernel
theorem dX8_move_0 : decode cX8_move 0 = .ok (.aload_n 0, 1) := by decide +kernel
theorem dX8_move_1 : decode cX8_move 1 = .ok (.iload_n 1, 1) := by decide +kernel
theorem dX8_move_2 : decode cX8_move 2 = .ok (.invokevirtual 119, 3) := by decide +kernel
theorem dX8_move_5 : decode cX8_move 5 = .ok (.iload_n 2, 1) := by decide +kernel
theorem dX8_move_6 : decode cX8_move 6 = .ok (.iconst 0, 1) := by decide +kernel
theorem dX8_move_7 : decode cX8_move 7 = .ok (.aload_n 0, 1) := by decide +kernel
theorem dX8_move_8 : decode cX8_move 8 = .ok (.getfield 34, 3) := by decide +kernel
theorem dX8_move_11 : decode cX8_move 11 = .ok (.getfield 109, 3) := by decide +kernel
theorem dX8_move_14 : decode cX8_move 14 = .ok (.iconst 1, 1) := by decide +kernel
theorem dX8_move_15 : decode cX8_move 15 = .ok (.isub, 1) := by decide +kernel
theorem dX8_move_16 : decode cX8_move 16 = .ok (.invokestatic 80, 3) := by decide +kernel
theorem dX8_move_19 : decode cX8_move 19 = .ok (.aload_n 0, 1) := by decide +kernel
theorem dX8_move_20 : decode cX8_move 20 = .ok (.getfield 44, 3) := by decide +kernel
theorem dX8_move_23 : decode cX8_move 23 = .ok (.aload_n 0, 1) := by decide +kernel
theorem dX8_move_24 : decode cX8_move 24 = .ok (.getfield 34, 3) := by decide +kernel
theorem dX8_move_27 : decode cX8_move 27 = .ok (.invokevirtual 259, 3) := by decide +kernel
theorem dX8_move_30 : decode cX8_move 30 = .ok (.aload_n 0, 1) := by decide +kernel
theorem dX8_move_31 : decode cX8_move 31 = .ok (.getfield 34, 3) := by decide +kernel
theorem dX8_move_34 : decode cX8_move 34 = .ok (.getfield 122, 3) := by decide +kernel
theorem dX8_move_37 : decode cX8_move 37 = .ok (.iload_n 1, 1) := by decide +kernel
theorem dX8_move_38 : decode cX8_move 38 = .ok (.iload_n 2, 1) := by decide +kernel
theorem dX8_move_39 : decode cX8_move 39 = .ok (.iastore, 1) := by decide +kernel
theorem dX8_move_40 : decode cX8_move 40 = .ok (.aload_n 0, 1) := by decide +kernel
theorem dX8_move_41 : decode cX8_move 41 = .ok (.getfield 34, 3) := by decide +kernel
theorem dX8_move_44 : decode cX8_move 44 = .ok (.invokevirtual 159, 3) := by decide +kernel
theorem dX8_move_47 : decode cX8_move 47 = .ok (.ireturn, 1) := by decide +kernel
theorem dX8_shift_0 : decode cX8_shift 0 = .ok (.aload_n 0, 1) := by decide +kernel
theorem dX8_shift_1 : decode cX8_shift 1 = .ok (.getfield 44, 3) := by decide +kernel
theorem dX8_shift_4 : decode cX8_shift 4 = .ok (.aload_n 0, 1) := by decide +kernel
theorem dX8_shift_5 : decode cX8_shift 5 = .ok (.getfield 34, 3) := by decide +kernel
theorem dX8_shift_8 : decode cX8_shift 8 = .ok (.invokevirtual 259, 3) := by decide +kernel
theorem dX8_shift_11 : decode cX8_shift 11 = .ok (.iload_n 1, 1) := by decide +kernel
theorem dX8_shift_12 : decode cX8_shift 12 = .ok (.aload_n 0, 1) := by decide +kernel
theorem dX8_shift_13 : decode cX8_shift 13 = .ok (.getfield 34, 3) := by decide +kernel
theorem dX8_shift_16 : decode cX8_shift 16 = .ok (.getfield 109, 3) := by decide +kernel
theorem dX8_shift_19 : decode cX8_shift 19 = .ok (.invokestatic 203, 3) := by decide +kernel
theorem dX8_shift_22 : decode cX8_shift 22 = .ok (.istore_n 2, 1) := by decide +kernel
theorem dX8_shift_23 : decode cX8_shift 23 = .ok (.iconst 0, 1) := by decide +kernel
theorem dX8_shift_24 : decode cX8_shift 24 = .ok (.istore_n 3, 1) := by decide +kernel
theorem dX8_shift_25 : decode cX8_shift 25 = .ok (.iload_n 3, 1) := by decide +kernel
theorem dX8_shift_26 : decode cX8_shift 26 = .ok (.aload_n 0, 1) := by decide +kernel
theorem dX8_shift_27 : decode cX8_shift 27 = .ok (.getfield 34, 3) := by decide +kernel
theorem dX8_shift_30 : decode cX8_shift 30 = .ok (.getfield 112, 3) := by decide +kernel
theorem dX8_shift_33 : decode cX8_shift 33 = .ok (.if_icmp .ge 39, 3) := by decide +kernel
theorem dX8_shift_36 : decode cX8_shift 36 = .ok (.aload_n 0, 1) := by decide +kernel
theorem dX8_shift_37 : decode cX8_shift 37 = .ok (.getfield 34, 3) := by decide +kernel
theorem dX8_shift_40 : decode cX8_shift 40 = .ok (.getfield 122, 3) := by decide +kernel
theorem dX8_shift_43 : decode cX8_shift 43 = .ok (.iload_n 3, 1) := by decide +kernel
theorem dX8_shift_44 : decode cX8_shift 44 = .ok (.aload_n 0, 1) := by decide +kernel
theorem dX8_shift_45 : decode cX8_shift 45 = .ok (.getfield 34, 3) := by decide +kernel
theorem dX8_shift_48 : decode cX8_shift 48 = .ok (.getfield 122, 3) := by decide +kernel
theorem dX8_shift_51 : decode cX8_shift 51 = .ok (.iload_n 3, 1) := by decide +kernel
theorem dX8_shift_52 : decode cX8_shift 52 = .ok (.iaload, 1) := by decide +kernel
theorem dX8_shift_53 : decode cX8_shift 53 = .ok (.iload_n 2, 1) := by decide +kernel
theorem dX8_shift_54 : decode cX8_shift 54 = .ok (.iadd, 1) := by decide +kernel
theorem dX8_shift_55 : decode cX8_shift 55 = .ok (.aload_n 0, 1) := by decide +kernel
theorem dX8_shift_56 : decode cX8_shift 56 = .ok (.getfield 34, 3) := by decide +kernel
theorem dX8_shift_59 : decode cX8_shift 59 = .ok (.getfield 109, 3) := by decide +kernel
theorem dX8_shift_62 : decode cX8_shift 62 = .ok (.invokestatic 203, 3) := by decide +kernel
theorem dX8_shift_65 : decode cX8_shift 65 = .ok (.iastore, 1) := by decide +kernel
theorem dX8_shift_66 : decode cX8_shift 66 = .ok (.iinc 3 1, 3) := by decide +kernel
theorem dX8_shift_69 : decode cX8_shift 69 = .ok (.goto (-44), 3) := by decide +kernel
theorem dX8_shift_72 : decode cX8_shift 72 = .ok (.aload_n 0, 1) := by decide +kernel
theorem dX8_shift_73 : decode cX8_shift 73 = .ok (.getfield 34, 3) := by decide +kernel
theorem dX8_shift_76 : decode cX8_shift 76 = .ok (.getfield 112, 3) := by decide +kernel
theorem dX8_shift_79 : decode cX8_shift 79 = .ok (.ifCond .le 15, 3) := by decide +kernel
theorem dX8_shift_82 : decode cX8_shift 82 = .ok (.aload_n 0, 1) := by decide +kernel
theorem dX8_shift_83 : decode cX8_shift 83 = .ok (.getfield 34, 3) := by decide +kernel
theorem dX8_shift_86 : decode cX8_shift 86 = .ok (.getfield 122, 3) := by decide +kernel
theorem dX8_shift_89 : decode cX8_shift 89 = .ok (.iconst 0, 1) := by decide +kernel
theorem dX8_shift_90 : decode cX8_shift 90 = .ok (.iaload, 1) := by decide +kernel
theorem dX8_shift_91 : decode cX8_shift 91 = .ok (.goto 4, 3) := by decide +kernel
theorem dX8_shift_94 : decode cX8_shift 94 = .ok (.iconst (-1), 1) := by decide +kernel
theorem dX8_shift_95 : decode cX8_shift 95 = .ok (.ireturn, 1) := by decide +kernel
theorem dX8_setSpan_0 : decode cX8_setSpan 0 = .ok (.aload_n 0, 1) := by decide +kernel
theorem dX8_setSpan_1 : decode cX8_setSpan 1 = .ok (.iload_n 1, 1) := by decide +kernel
theorem dX8_setSpan_2 : decode cX8_setSpan 2 = .ok (.invokevirtual 126, 3) := by decide +kernel
theorem dX8_setSpan_5 : decode cX8_setSpan 5 = .ok (.aload_n 0, 1) := by decide +kernel
theorem dX8_setSpan_6 : decode cX8_setSpan 6 = .ok (.iload_n 2, 1) := by decide +kernel
theorem dX8_setSpan_7 : decode cX8_setSpan 7 = .ok (.iload_n 3, 1) := by decide +kernel
theorem dX8_setSpan_8 : decode cX8_setSpan 8 = .ok (.invokevirtual 262, 3) := by decide +kernel
theorem dX8_setSpan_11 : decode cX8_setSpan 11 = .ok (.aload_n 0, 1) := by decide +kernel
theorem dX8_setSpan_12 : decode cX8_setSpan 12 = .ok (.getfield 44, 3) := by decide +kernel
theorem dX8_setSpan_15 : decode cX8_setSpan 15 = .ok (.aload_n 0, 1) := by decide +kernel
theorem dX8_setSpan_16 : decode cX8_setSpan 16 = .ok (.getfield 34, 3) := by decide +kernel
theorem dX8_setSpan_19 : decode cX8_setSpan 19 = .ok (.invokevirtual 259, 3) := by decide +kernel
theorem dX8_setSpan_22 : decode cX8_setSpan 22 = .ok (.aload_n 0, 1) := by decide +kernel
theorem dX8_setSpan_23 : decode cX8_setSpan 23 = .ok (.getfield 34, 3) := by decide +kernel
theorem dX8_setSpan_26 : decode cX8_setSpan 26 = .ok (.getfield 135, 3) := by decide +kernel
theorem dX8_setSpan_29 : decode cX8_setSpan 29 = .ok (.iload_n 1, 1) := by decide +kernel
theorem dX8_setSpan_30 : decode cX8_setSpan 30 = .ok (.iload_n 2, 1) := by decide +kernel
theorem dX8_setSpan_31 : decode cX8_setSpan 31 = .ok (.iastore, 1) := by decide +kernel
theorem dX8_setSpan_32 : decode cX8_setSpan 32 = .ok (.aload_n 0, 1) := by decide +kernel
theorem dX8_setSpan_33 : decode cX8_setSpan 33 = .ok (.getfield 34, 3) := by decide +kernel
theorem dX8_setSpan_36 : decode cX8_setSpan 36 = .ok (.getfield 138, 3) := by decide +kernel
theorem dX8_setSpan_39 : decode cX8_setSpan 39 = .ok (.iload_n 1, 1) := by decide +kernel
theorem dX8_setSpan_40 : decode cX8_setSpan 40 = .ok (.iload_n 3, 1) := by decide +kernel
theorem dX8_setSpan_41 : decode cX8_setSpan 41 = .ok (.iastore, 1) := by decide +kernel
theorem dX8_setSpan_42 : decode cX8_setSpan 42 = .ok (.iload_n 2, 1) := by decide +kernel
theorem dX8_setSpan_43 : decode cX8_setSpan 43 = .ok (.aload_n 0, 1) := by decide +kernel
theorem dX8_setSpan_44 : decode cX8_setSpan 44 = .ok (.getfield 34, 3) := by decide +kernel
theorem dX8_setSpan_47 : decode cX8_setSpan 47 = .ok (.iload_n 1, 1) := by decide +kernel
theorem dX8_setSpan_48 : decode cX8_setSpan 48 = .ok (.invokevirtual 151, 3) := by decide +kernel
theorem dX8_setSpan_51 : decode cX8_setSpan 51 = .ok (.iadd, 1) := by decide +kernel
theorem dX8_setSpan_52 : decode cX8_setSpan 52 = .ok (.ireturn, 1) := by decide +kernel
theorem dX8_setWeight_0 : decode cX8_setWeight 0 = .ok (.aload_n 0, 1) := by decide +kernel
theorem dX8_setWeight_1 : decode cX8_setWeight 1 = .ok (.iload_n 1, 1) := by decide +kernel
theorem dX8_setWeight_2 : decode cX8_setWeight 2 = .ok (.invokevirtual 126, 3) := by decide +kernel
theorem dX8_setWeight_5 : decode cX8_setWeight 5 = .ok (.iload_n 2, 1) := by decide +kernel
theorem dX8_setWeight_6 : decode cX8_setWeight 6 = .ok (.iconst 0, 1) := by decide +kernel
theorem dX8_setWeight_7 : decode cX8_setWeight 7 = .ok (.bipush 20, 2) := by decide +kernel
theorem dX8_setWeight_9 : decode cX8_setWeight 9 = .ok (.invokestatic 80, 3) := by decide +kernel
theorem dX8_setWeight_12 : decode cX8_setWeight 12 = .ok (.aload_n 0, 1) := by decide +kernel
theorem dX8_setWeight_13 : decode cX8_setWeight 13 = .ok (.getfield 44, 3) := by decide +kernel
theorem dX8_setWeight_16 : decode cX8_setWeight 16 = .ok (.aload_n 0, 1) := by decide +kernel
theorem dX8_setWeight_17 : decode cX8_setWeight 17 = .ok (.getfield 34, 3) := by decide +kernel
theorem dX8_setWeight_20 : decode cX8_setWeight 20 = .ok (.invokevirtual 259, 3) := by decide +kernel
theorem dX8_setWeight_23 : decode cX8_setWeight 23 = .ok (.aload_n 0, 1) := by decide +kernel
theorem dX8_setWeight_24 : decode cX8_setWeight 24 = .ok (.getfield 34, 3) := by decide +kernel
theorem dX8_setWeight_27 : decode cX8_setWeight 27 = .ok (.getfield 141, 3) := by decide +kernel
theorem dX8_setWeight_30 : decode cX8_setWeight 30 = .ok (.iload_n 1, 1) := by decide +kernel
theorem dX8_setWeight_31 : decode cX8_setWeight 31 = .ok (.iaload, 1) := by decide +kernel
theorem dX8_setWeight_32 : decode cX8_setWeight 32 = .ok (.istore_n 3, 1) := by decide +kernel
theorem dX8_setWeight_33 : decode cX8_setWeight 33 = .ok (.aload_n 0, 1) := by decide +kernel
theorem dX8_setWeight_34 : decode cX8_setWeight 34 = .ok (.getfield 34, 3) := by decide +kernel
theorem dX8_setWeight_37 : decode cX8_setWeight 37 = .ok (.getfield 141, 3) := by decide +kernel
theorem dX8_setWeight_40 : decode cX8_setWeight 40 = .ok (.iload_n 1, 1) := by decide +kernel
theorem dX8_setWeight_41 : decode cX8_setWeight 41 = .ok (.iload_n 2, 1) := by decide +kernel
theorem dX8_setWeight_42 : decode cX8_setWeight 42 = .ok (.iastore, 1) := by decide +kernel
theorem dX8_setWeight_43 : decode cX8_setWeight 43 = .ok (.iload_n 3, 1) := by decide +kernel
theorem dX8_setWeight_44 : decode cX8_setWeight 44 = .ok (.ireturn, 1) := by decide +kernel
theorem dX8_addSpan_0 : decode cX8_addSpan 0 = .ok (.aload_n 0, 1) := by decide +kernel
theorem dX8_addSpan_1 : decode cX8_addSpan 1 = .ok (.iload_n 1, 1) := by decide +kernel
theorem dX8_addSpan_2 : decode cX8_addSpan 2 = .ok (.invokevirtual 119, 3) := by decide +kernel
theorem dX8_addSpan_5 : decode cX8_addSpan 5 = .ok (.aload_n 0, 1) := by decide +kernel
theorem dX8_addSpan_6 : decode cX8_addSpan 6 = .ok (.iload_n 2, 1) := by decide +kernel
theorem dX8_addSpan_7 : decode cX8_addSpan 7 = .ok (.invokevirtual 119, 3) := by decide +kernel
theorem dX8_addSpan_10 : decode cX8_addSpan 10 = .ok (.aload_n 0, 1) := by decide +kernel
theorem dX8_addSpan_11 : decode cX8_addSpan 11 = .ok (.iload_n 3, 1) := by decide +kernel
theorem dX8_addSpan_12 : decode cX8_addSpan 12 = .ok (.iload 4, 2) := by decide +kernel
theorem dX8_addSpan_14 : decode cX8_addSpan 14 = .ok (.invokevirtual 262, 3) := by decide +kernel
theorem dX8_addSpan_17 : decode cX8_addSpan 17 = .ok (.iload 5, 2) := by decide +kernel
theorem dX8_addSpan_19 : decode cX8_addSpan 19 = .ok (.iconst 0, 1) := by decide +kernel
theorem dX8_addSpan_20 : decode cX8_addSpan 20 = .ok (.bipush 20, 2) := by decide +kernel
theorem dX8_addSpan_22 : decode cX8_addSpan 22 = .ok (.invokestatic 80, 3) := by decide +kernel
theorem dX8_addSpan_25 : decode cX8_addSpan 25 = .ok (.iload_n 1, 1) := by decide +kernel
theorem dX8_addSpan_26 : decode cX8_addSpan 26 = .ok (.iload_n 2, 1) := by decide +kernel
theorem dX8_addSpan_27 : decode cX8_addSpan 27 = .ok (.if_icmp .ne 14, 3) := by decide +kernel
theorem dX8_addSpan_30 : decode cX8_addSpan 30 = .ok (.new 144, 3) := by decide +kernel
theorem dX8_addSpan_33 : decode cX8_addSpan 33 = .ok (.dup, 1) := by decide +kernel
theorem dX8_addSpan_34 : decode cX8_addSpan 34 = .ok (.ldc_w 265, 3) := by decide +kernel
theorem dX8_addSpan_37 : decode cX8_addSpan 37 = .ok (.invokespecial 148, 3) := by decide +kernel
theorem dX8_addSpan_40 : decode cX8_addSpan 40 = .ok (.athrow, 1) := by decide +kernel
theorem dX8_addSpan_41 : decode cX8_addSpan 41 = .ok (.aload_n 0, 1) := by decide +kernel
theorem dX8_addSpan_42 : decode cX8_addSpan 42 = .ok (.getfield 34, 3) := by decide +kernel
theorem dX8_addSpan_45 : decode cX8_addSpan 45 = .ok (.getfield 100, 3) := by decide +kernel
theorem dX8_addSpan_48 : decode cX8_addSpan 48 = .ok (.bipush 14, 2) := by decide +kernel
theorem dX8_addSpan_50 : decode cX8_addSpan 50 = .ok (.if_icmp .lt 14, 3) := by decide +kernel
theorem dX8_addSpan_53 : decode cX8_addSpan 53 = .ok (.new 267, 3) := by decide +kernel
theorem dX8_addSpan_56 : decode cX8_addSpan 56 = .ok (.dup, 1) := by decide +kernel
theorem dX8_addSpan_57 : decode cX8_addSpan 57 = .ok (.ldc_w 269, 3) := by decide +kernel
theorem dX8_addSpan_60 : decode cX8_addSpan 60 = .ok (.invokespecial 271, 3) := by decide +kernel
theorem dX8_addSpan_63 : decode cX8_addSpan 63 = .ok (.athrow, 1) := by decide +kernel
theorem dX8_addSpan_64 : decode cX8_addSpan 64 = .ok (.aload_n 0, 1) := by decide +kernel
theorem dX8_addSpan_65 : decode cX8_addSpan 65 = .ok (.getfield 44, 3) := by decide +kernel
theorem dX8_addSpan_68 : decode cX8_addSpan 68 = .ok (.aload_n 0, 1) := by decide +kernel
theorem dX8_addSpan_69 : decode cX8_addSpan 69 = .ok (.getfield 34, 3) := by decide +kernel
theorem dX8_addSpan_72 : decode cX8_addSpan 72 = .ok (.invokevirtual 259, 3) := by decide +kernel
theorem dX8_addSpan_75 : decode cX8_addSpan 75 = .ok (.aload_n 0, 1) := by decide +kernel
theorem dX8_addSpan_76 : decode cX8_addSpan 76 = .ok (.getfield 34, 3) := by decide +kernel
theorem dX8_addSpan_79 : decode cX8_addSpan 79 = .ok (.iload_n 1, 1) := by decide +kernel
theorem dX8_addSpan_80 : decode cX8_addSpan 80 = .ok (.iload_n 2, 1) := by decide +kernel
theorem dX8_addSpan_81 : decode cX8_addSpan 81 = .ok (.iload_n 3, 1) := by decide +kernel
theorem dX8_addSpan_82 : decode cX8_addSpan 82 = .ok (.iload 4, 2) := by decide +kernel
theorem dX8_addSpan_84 : decode cX8_addSpan 84 = .ok (.iload 5, 2) := by decide +kernel
theorem dX8_addSpan_86 : decode cX8_addSpan 86 = .ok (.invokevirtual 272, 3) := by decide +kernel
theorem dX8_addSpan_89 : decode cX8_addSpan 89 = .ok (.aload_n 0, 1) := by decide +kernel
theorem dX8_addSpan_90 : decode cX8_addSpan 90 = .ok (.getfield 34, 3) := by decide +kernel
theorem dX8_addSpan_93 : decode cX8_addSpan 93 = .ok (.getfield 100, 3) := by decide +kernel
theorem dX8_addSpan_96 : decode cX8_addSpan 96 = .ok (.iconst 1, 1) := by decide +kernel
theorem dX8_addSpan_97 : decode cX8_addSpan 97 = .ok (.isub, 1) := by decide +kernel
theorem dX8_addSpan_98 : decode cX8_addSpan 98 = .ok (.ireturn, 1) := by decide +kernel
theorem dX8_removeSpan_0 : decode cX8_removeSpan 0 = .ok (.aload_n 0, 1) := by decide +kernel
theorem dX8_removeSpan_1 : decode cX8_removeSpan 1 = .ok (.iload_n 1, 1) := by decide +kernel
theorem dX8_removeSpan_2 : decode cX8_removeSpan 2 = .ok (.invokevirtual 126, 3) := by decide +kernel
theorem dX8_removeSpan_5 : decode cX8_removeSpan 5 = .ok (.aload_n 0, 1) := by decide +kernel
theorem dX8_removeSpan_6 : decode cX8_removeSpan 6 = .ok (.getfield 44, 3) := by decide +kernel
theorem dX8_removeSpan_9 : decode cX8_removeSpan 9 = .ok (.aload_n 0, 1) := by decide +kernel
theorem dX8_removeSpan_10 : decode cX8_removeSpan 10 = .ok (.getfield 34, 3) := by decide +kernel
theorem dX8_removeSpan_13 : decode cX8_removeSpan 13 = .ok (.invokevirtual 259, 3) := by decide +kernel
theorem dX8_removeSpan_16 : decode cX8_removeSpan 16 = .ok (.aload_n 0, 1) := by decide +kernel
theorem dX8_removeSpan_17 : decode cX8_removeSpan 17 = .ok (.getfield 34, 3) := by decide +kernel
theorem dX8_removeSpan_20 : decode cX8_removeSpan 20 = .ok (.iload_n 1, 1) := by decide +kernel
theorem dX8_removeSpan_21 : decode cX8_removeSpan 21 = .ok (.invokevirtual 256, 3) := by decide +kernel
theorem dX8_removeSpan_24 : decode cX8_removeSpan 24 = .ok (.aload_n 0, 1) := by decide +kernel
theorem dX8_removeSpan_25 : decode cX8_removeSpan 25 = .ok (.getfield 34, 3) := by decide +kernel
theorem dX8_removeSpan_28 : decode cX8_removeSpan 28 = .ok (.getfield 100, 3) := by decide +kernel
theorem dX8_removeSpan_31 : decode cX8_removeSpan 31 = .ok (.ireturn, 1) := by decide +kernel
theorem dX8_setPeriod_0 : decode cX8_setPeriod 0 = .ok (.iload_n 1, 1) := by decide +kernel
theorem dX8_setPeriod_1 : decode cX8_setPeriod 1 = .ok (.iconst 2, 1) := by decide +kernel
theorem dX8_setPeriod_2 : decode cX8_setPeriod 2 = .ok (.bipush 24, 2) := by decide +kernel
theorem dX8_setPeriod_4 : decode cX8_setPeriod 4 = .ok (.invokestatic 80, 3) := by decide +kernel
theorem dX8_setPeriod_7 : decode cX8_setPeriod 7 = .ok (.iconst 0, 1) := by decide +kernel
theorem dX8_setPeriod_8 : decode cX8_setPeriod 8 = .ok (.istore_n 2, 1) := by decide +kernel
theorem dX8_setPeriod_9 : decode cX8_setPeriod 9 = .ok (.iload_n 2, 1) := by decide +kernel
theorem dX8_setPeriod_10 : decode cX8_setPeriod 10 = .ok (.aload_n 0, 1) := by decide +kernel
theorem dX8_setPeriod_11 : decode cX8_setPeriod 11 = .ok (.getfield 34, 3) := by decide +kernel
theorem dX8_setPeriod_14 : decode cX8_setPeriod 14 = .ok (.getfield 100, 3) := by decide +kernel
theorem dX8_setPeriod_17 : decode cX8_setPeriod 17 = .ok (.if_icmp .ge 45, 3) := by decide +kernel
theorem dX8_setPeriod_20 : decode cX8_setPeriod 20 = .ok (.aload_n 0, 1) := by decide +kernel
theorem dX8_setPeriod_21 : decode cX8_setPeriod 21 = .ok (.getfield 34, 3) := by decide +kernel
theorem dX8_setPeriod_24 : decode cX8_setPeriod 24 = .ok (.getfield 138, 3) := by decide +kernel
theorem dX8_setPeriod_27 : decode cX8_setPeriod 27 = .ok (.iload_n 2, 1) := by decide +kernel
theorem dX8_setPeriod_28 : decode cX8_setPeriod 28 = .ok (.iaload, 1) := by decide +kernel
theorem dX8_setPeriod_29 : decode cX8_setPeriod 29 = .ok (.aload_n 0, 1) := by decide +kernel
theorem dX8_setPeriod_30 : decode cX8_setPeriod 30 = .ok (.getfield 34, 3) := by decide +kernel
theorem dX8_setPeriod_33 : decode cX8_setPeriod 33 = .ok (.getfield 135, 3) := by decide +kernel
theorem dX8_setPeriod_36 : decode cX8_setPeriod 36 = .ok (.iload_n 2, 1) := by decide +kernel
theorem dX8_setPeriod_37 : decode cX8_setPeriod 37 = .ok (.iaload, 1) := by decide +kernel
theorem dX8_setPeriod_38 : decode cX8_setPeriod 38 = .ok (.iload_n 1, 1) := by decide +kernel
theorem dX8_setPeriod_39 : decode cX8_setPeriod 39 = .ok (.iadd, 1) := by decide +kernel
theorem dX8_setPeriod_40 : decode cX8_setPeriod 40 = .ok (.iconst 1, 1) := by decide +kernel
theorem dX8_setPeriod_41 : decode cX8_setPeriod 41 = .ok (.isub, 1) := by decide +kernel
theorem dX8_setPeriod_42 : decode cX8_setPeriod 42 = .ok (.if_icmp .le 14, 3) := by decide +kernel
theorem dX8_setPeriod_45 : decode cX8_setPeriod 45 = .ok (.new 267, 3) := by decide +kernel
theorem dX8_setPeriod_48 : decode cX8_setPeriod 48 = .ok (.dup, 1) := by decide +kernel
theorem dX8_setPeriod_49 : decode cX8_setPeriod 49 = .ok (.ldc_w 276, 3) := by decide +kernel
theorem dX8_setPeriod_52 : decode cX8_setPeriod 52 = .ok (.invokespecial 271, 3) := by decide +kernel
theorem dX8_setPeriod_55 : decode cX8_setPeriod 55 = .ok (.athrow, 1) := by decide +kernel
theorem dX8_setPeriod_56 : decode cX8_setPeriod 56 = .ok (.iinc 2 1, 3) := by decide +kernel
theorem dX8_setPeriod_59 : decode cX8_setPeriod 59 = .ok (.goto (-50), 3) := by decide +kernel
theorem dX8_setPeriod_62 : decode cX8_setPeriod 62 = .ok (.aload_n 0, 1) := by decide +kernel
theorem dX8_setPeriod_63 : decode cX8_setPeriod 63 = .ok (.getfield 44, 3) := by decide +kernel
theorem dX8_setPeriod_66 : decode cX8_setPeriod 66 = .ok (.aload_n 0, 1) := by decide +kernel
theorem dX8_setPeriod_67 : decode cX8_setPeriod 67 = .ok (.getfield 34, 3) := by decide +kernel
theorem dX8_setPeriod_70 : decode cX8_setPeriod 70 = .ok (.invokevirtual 259, 3) := by decide +kernel
theorem dX8_setPeriod_73 : decode cX8_setPeriod 73 = .ok (.aload_n 0, 1) := by decide +kernel
theorem dX8_setPeriod_74 : decode cX8_setPeriod 74 = .ok (.getfield 34, 3) := by decide +kernel
theorem dX8_setPeriod_77 : decode cX8_setPeriod 77 = .ok (.getfield 109, 3) := by decide +kernel
theorem dX8_setPeriod_80 : decode cX8_setPeriod 80 = .ok (.istore_n 2, 1) := by decide +kernel
theorem dX8_setPeriod_81 : decode cX8_setPeriod 81 = .ok (.aload_n 0, 1) := by decide +kernel
theorem dX8_setPeriod_82 : decode cX8_setPeriod 82 = .ok (.getfield 34, 3) := by decide +kernel
theorem dX8_setPeriod_85 : decode cX8_setPeriod 85 = .ok (.iload_n 1, 1) := by decide +kernel
theorem dX8_setPeriod_86 : decode cX8_setPeriod 86 = .ok (.putfield 109, 3) := by decide +kernel
theorem dX8_setPeriod_89 : decode cX8_setPeriod 89 = .ok (.iconst 0, 1) := by decide +kernel
theorem dX8_setPeriod_90 : decode cX8_setPeriod 90 = .ok (.istore_n 3, 1) := by decide +kernel
theorem dX8_setPeriod_91 : decode cX8_setPeriod 91 = .ok (.iload_n 3, 1) := by decide +kernel
theorem dX8_setPeriod_92 : decode cX8_setPeriod 92 = .ok (.aload_n 0, 1) := by decide +kernel
theorem dX8_setPeriod_93 : decode cX8_setPeriod 93 = .ok (.getfield 34, 3) := by decide +kernel
theorem dX8_setPeriod_96 : decode cX8_setPeriod 96 = .ok (.getfield 112, 3) := by decide +kernel
theorem dX8_setPeriod_99 : decode cX8_setPeriod 99 = .ok (.if_icmp .ge 31, 3) := by decide +kernel
theorem dX8_setPeriod_102 : decode cX8_setPeriod 102 = .ok (.aload_n 0, 1) := by decide +kernel
theorem dX8_setPeriod_103 : decode cX8_setPeriod 103 = .ok (.getfield 34, 3) := by decide +kernel
theorem dX8_setPeriod_106 : decode cX8_setPeriod 106 = .ok (.getfield 122, 3) := by decide +kernel
theorem dX8_setPeriod_109 : decode cX8_setPeriod 109 = .ok (.iload_n 3, 1) := by decide +kernel
theorem dX8_setPeriod_110 : decode cX8_setPeriod 110 = .ok (.aload_n 0, 1) := by decide +kernel
theorem dX8_setPeriod_111 : decode cX8_setPeriod 111 = .ok (.getfield 34, 3) := by decide +kernel
theorem dX8_setPeriod_114 : decode cX8_setPeriod 114 = .ok (.getfield 122, 3) := by decide +kernel
theorem dX8_setPeriod_117 : decode cX8_setPeriod 117 = .ok (.iload_n 3, 1) := by decide +kernel
theorem dX8_setPeriod_118 : decode cX8_setPeriod 118 = .ok (.iaload, 1) := by decide +kernel
theorem dX8_setPeriod_119 : decode cX8_setPeriod 119 = .ok (.iload_n 1, 1) := by decide +kernel
theorem dX8_setPeriod_120 : decode cX8_setPeriod 120 = .ok (.invokestatic 203, 3) := by decide +kernel
theorem dX8_setPeriod_123 : decode cX8_setPeriod 123 = .ok (.iastore, 1) := by decide +kernel
theorem dX8_setPeriod_124 : decode cX8_setPeriod 124 = .ok (.iinc 3 1, 3) := by decide +kernel
theorem dX8_setPeriod_127 : decode cX8_setPeriod 127 = .ok (.goto (-36), 3) := by decide +kernel
theorem dX8_setPeriod_130 : decode cX8_setPeriod 130 = .ok (.iload_n 2, 1) := by decide +kernel
theorem dX8_setPeriod_131 : decode cX8_setPeriod 131 = .ok (.ireturn, 1) := by decide +kernel
theorem dX8_solve_0 : decode cX8_solve 0 = .ok (.aload_n 0, 1) := by decide +kernel
theorem dX8_solve_1 : decode cX8_solve 1 = .ok (.getfield 65, 3) := by decide +kernel
theorem dX8_solve_4 : decode cX8_solve 4 = .ok (.aload_n 0, 1) := by decide +kernel
theorem dX8_solve_5 : decode cX8_solve 5 = .ok (.getfield 34, 3) := by decide +kernel
theorem dX8_solve_8 : decode cX8_solve 8 = .ok (.iconst 1, 1) := by decide +kernel
theorem dX8_solve_9 : decode cX8_solve 9 = .ok (.invokevirtual 245, 3) := by decide +kernel
theorem dX8_solve_12 : decode cX8_solve 12 = .ok (.invokestatic 249, 3) := by decide +kernel
theorem dX8_solve_15 : decode cX8_solve 15 = .ok (.aload_n 0, 1) := by decide +kernel
theorem dX8_solve_16 : decode cX8_solve 16 = .ok (.invokevirtual 278, 3) := by decide +kernel
theorem dX8_solve_19 : decode cX8_solve 19 = .ok (.ireturn, 1) := by decide +kernel
theorem dX8_cheapen_0 : decode cX8_cheapen 0 = .ok (.aload_n 0, 1) := by decide +kernel
theorem dX8_cheapen_1 : decode cX8_cheapen 1 = .ok (.getfield 65, 3) := by decide +kernel
theorem dX8_cheapen_4 : decode cX8_cheapen 4 = .ok (.aload_n 0, 1) := by decide +kernel
theorem dX8_cheapen_5 : decode cX8_cheapen 5 = .ok (.getfield 34, 3) := by decide +kernel
theorem dX8_cheapen_8 : decode cX8_cheapen 8 = .ok (.iconst 0, 1) := by decide +kernel
theorem dX8_cheapen_9 : decode cX8_cheapen 9 = .ok (.invokevirtual 245, 3) := by decide +kernel
theorem dX8_cheapen_12 : decode cX8_cheapen 12 = .ok (.invokestatic 249, 3) := by decide +kernel
theorem dX8_cheapen_15 : decode cX8_cheapen 15 = .ok (.aload_n 0, 1) := by decide +kernel
theorem dX8_cheapen_16 : decode cX8_cheapen 16 = .ok (.invokevirtual 278, 3) := by decide +kernel
theorem dX8_cheapen_19 : decode cX8_cheapen 19 = .ok (.ireturn, 1) := by decide +kernel
theorem dX8_takeBest_0 : decode cX8_takeBest 0 = .ok (.aload_n 0, 1) := by decide +kernel
theorem dX8_takeBest_1 : decode cX8_takeBest 1 = .ok (.getfield 44, 3) := by decide +kernel
theorem dX8_takeBest_4 : decode cX8_takeBest 4 = .ok (.aload_n 0, 1) := by decide +kernel
theorem dX8_takeBest_5 : decode cX8_takeBest 5 = .ok (.getfield 34, 3) := by decide +kernel
theorem dX8_takeBest_8 : decode cX8_takeBest 8 = .ok (.invokevirtual 259, 3) := by decide +kernel
theorem dX8_takeBest_11 : decode cX8_takeBest 11 = .ok (.aload_n 0, 1) := by decide +kernel
theorem dX8_takeBest_12 : decode cX8_takeBest 12 = .ok (.getfield 65, 3) := by decide +kernel
theorem dX8_takeBest_15 : decode cX8_takeBest 15 = .ok (.getfield 281, 3) := by decide +kernel
theorem dX8_takeBest_18 : decode cX8_takeBest 18 = .ok (.iconst 0, 1) := by decide +kernel
theorem dX8_takeBest_19 : decode cX8_takeBest 19 = .ok (.aload_n 0, 1) := by decide +kernel
theorem dX8_takeBest_20 : decode cX8_takeBest 20 = .ok (.getfield 34, 3) := by decide +kernel
theorem dX8_takeBest_23 : decode cX8_takeBest 23 = .ok (.getfield 122, 3) := by decide +kernel
theorem dX8_takeBest_26 : decode cX8_takeBest 26 = .ok (.iconst 0, 1) := by decide +kernel
theorem dX8_takeBest_27 : decode cX8_takeBest 27 = .ok (.aload_n 0, 1) := by decide +kernel
theorem dX8_takeBest_28 : decode cX8_takeBest 28 = .ok (.getfield 34, 3) := by decide +kernel
theorem dX8_takeBest_31 : decode cX8_takeBest 31 = .ok (.getfield 112, 3) := by decide +kernel
theorem dX8_takeBest_34 : decode cX8_takeBest 34 = .ok (.invokestatic 284, 3) := by decide +kernel
theorem dX8_takeBest_37 : decode cX8_takeBest 37 = .ok (.aload_n 0, 1) := by decide +kernel
theorem dX8_takeBest_38 : decode cX8_takeBest 38 = .ok (.getfield 65, 3) := by decide +kernel
theorem dX8_takeBest_41 : decode cX8_takeBest 41 = .ok (.getfield 253, 3) := by decide +kernel
theorem dX8_takeBest_44 : decode cX8_takeBest 44 = .ok (.ireturn, 1) := by decide +kernel
theorem dX8_improve_0 : decode cX8_improve 0 = .ok (.aload_n 0, 1) := by decide +kernel
theorem dX8_improve_1 : decode cX8_improve 1 = .ok (.getfield 44, 3) := by decide +kernel
theorem dX8_improve_4 : decode cX8_improve 4 = .ok (.aload_n 0, 1) := by decide +kernel
theorem dX8_improve_5 : decode cX8_improve 5 = .ok (.getfield 34, 3) := by decide +kernel
theorem dX8_improve_8 : decode cX8_improve 8 = .ok (.invokevirtual 259, 3) := by decide +kernel
theorem dX8_improve_11 : decode cX8_improve 11 = .ok (.iconst 0, 1) := by decide +kernel
theorem dX8_improve_12 : decode cX8_improve 12 = .ok (.istore_n 1, 1) := by decide +kernel
theorem dX8_improve_13 : decode cX8_improve 13 = .ok (.iload_n 1, 1) := by decide +kernel
theorem dX8_improve_14 : decode cX8_improve 14 = .ok (.ldc_w 290, 3) := by decide +kernel
theorem dX8_improve_17 : decode cX8_improve 17 = .ok (.if_icmp .ge 19, 3) := by decide +kernel
theorem dX8_improve_20 : decode cX8_improve 20 = .ok (.aload_n 0, 1) := by decide +kernel
theorem dX8_improve_21 : decode cX8_improve 21 = .ok (.getfield 34, 3) := by decide +kernel
theorem dX8_improve_24 : decode cX8_improve 24 = .ok (.invokevirtual 291, 3) := by decide +kernel
theorem dX8_improve_27 : decode cX8_improve 27 = .ok (.ifCond .eq 9, 3) := by decide +kernel
theorem dX8_improve_30 : decode cX8_improve 30 = .ok (.iinc 1 1, 3) := by decide +kernel
theorem dX8_improve_33 : decode cX8_improve 33 = .ok (.goto (-20), 3) := by decide +kernel
theorem dX8_improve_36 : decode cX8_improve 36 = .ok (.iload_n 1, 1) := by decide +kernel
theorem dX8_improve_37 : decode cX8_improve 37 = .ok (.ireturn, 1) := by decide +kernel
theorem dX8_undo_0 : decode cX8_undo 0 = .ok (.aload_n 0, 1) := by decide +kernel
theorem dX8_undo_1 : decode cX8_undo 1 = .ok (.getfield 44, 3) := by decide +kernel
theorem dX8_undo_4 : decode cX8_undo 4 = .ok (.aload_n 0, 1) := by decide +kernel
theorem dX8_undo_5 : decode cX8_undo 5 = .ok (.getfield 34, 3) := by decide +kernel
theorem dX8_undo_8 : decode cX8_undo 8 = .ok (.invokevirtual 294, 3) := by decide +kernel
theorem dX8_undo_11 : decode cX8_undo 11 = .ok (.ireturn, 1) := by decide +kernel
theorem dX8_write_0 : decode cX8_write 0 = .ok (.aload_n 0, 1) := by decide +kernel
theorem dX8_write_1 : decode cX8_write 1 = .ok (.getfield 72, 3) := by decide +kernel
theorem dX8_write_4 : decode cX8_write 4 = .ok (.invokevirtual 298, 3) := by decide +kernel
theorem dX8_write_7 : decode cX8_write 7 = .ok (.iconst 0, 1) := by decide +kernel
theorem dX8_write_8 : decode cX8_write 8 = .ok (.istore_n 1, 1) := by decide +kernel
theorem dX8_write_9 : decode cX8_write 9 = .ok (.iload_n 1, 1) := by decide +kernel
theorem dX8_write_10 : decode cX8_write 10 = .ok (.aload_n 0, 1) := by decide +kernel
theorem dX8_write_11 : decode cX8_write 11 = .ok (.getfield 34, 3) := by decide +kernel
theorem dX8_write_14 : decode cX8_write 14 = .ok (.getfield 112, 3) := by decide +kernel
theorem dX8_write_17 : decode cX8_write 17 = .ok (.if_icmp .ge 59, 3) := by decide +kernel
theorem dX8_write_20 : decode cX8_write 20 = .ok (.iload_n 1, 1) := by decide +kernel
theorem dX8_write_21 : decode cX8_write 21 = .ok (.ifCond .le 12, 3) := by decide +kernel
theorem dX8_write_24 : decode cX8_write 24 = .ok (.aload_n 0, 1) := by decide +kernel
theorem dX8_write_25 : decode cX8_write 25 = .ok (.getfield 72, 3) := by decide +kernel
theorem dX8_write_28 : decode cX8_write 28 = .ok (.bipush 32, 2) := by decide +kernel
theorem dX8_write_30 : decode cX8_write 30 = .ok (.invokevirtual 299, 3) := by decide +kernel
theorem dX8_write_33 : decode cX8_write 33 = .ok (.aload_n 0, 1) := by decide +kernel
theorem dX8_write_34 : decode cX8_write 34 = .ok (.getfield 27, 3) := by decide +kernel
theorem dX8_write_37 : decode cX8_write 37 = .ok (.aload_n 0, 1) := by decide +kernel
theorem dX8_write_38 : decode cX8_write 38 = .ok (.getfield 72, 3) := by decide +kernel
theorem dX8_write_41 : decode cX8_write 41 = .ok (.iload_n 1, 1) := by decide +kernel
theorem dX8_write_42 : decode cX8_write 42 = .ok (.invokevirtual 303, 3) := by decide +kernel
theorem dX8_write_45 : decode cX8_write 45 = .ok (.aload_n 0, 1) := by decide +kernel
theorem dX8_write_46 : decode cX8_write 46 = .ok (.getfield 72, 3) := by decide +kernel
theorem dX8_write_49 : decode cX8_write 49 = .ok (.bipush 61, 2) := by decide +kernel
theorem dX8_write_51 : decode cX8_write 51 = .ok (.invokevirtual 299, 3) := by decide +kernel
theorem dX8_write_54 : decode cX8_write 54 = .ok (.aload_n 0, 1) := by decide +kernel
theorem dX8_write_55 : decode cX8_write 55 = .ok (.getfield 72, 3) := by decide +kernel
theorem dX8_write_58 : decode cX8_write 58 = .ok (.aload_n 0, 1) := by decide +kernel
theorem dX8_write_59 : decode cX8_write 59 = .ok (.getfield 34, 3) := by decide +kernel
theorem dX8_write_62 : decode cX8_write 62 = .ok (.getfield 122, 3) := by decide +kernel
theorem dX8_write_65 : decode cX8_write 65 = .ok (.iload_n 1, 1) := by decide +kernel
theorem dX8_write_66 : decode cX8_write 66 = .ok (.iaload, 1) := by decide +kernel
theorem dX8_write_67 : decode cX8_write 67 = .ok (.invokevirtual 307, 3) := by decide +kernel
theorem dX8_write_70 : decode cX8_write 70 = .ok (.iinc 1 1, 3) := by decide +kernel
theorem dX8_write_73 : decode cX8_write 73 = .ok (.goto (-64), 3) := by decide +kernel
theorem dX8_write_76 : decode cX8_write 76 = .ok (.iconst 0, 1) := by decide +kernel
theorem dX8_write_77 : decode cX8_write 77 = .ok (.istore_n 1, 1) := by decide +kernel
theorem dX8_write_78 : decode cX8_write 78 = .ok (.iload_n 1, 1) := by decide +kernel
theorem dX8_write_79 : decode cX8_write 79 = .ok (.aload_n 0, 1) := by decide +kernel
theorem dX8_write_80 : decode cX8_write 80 = .ok (.getfield 34, 3) := by decide +kernel
theorem dX8_write_83 : decode cX8_write 83 = .ok (.getfield 100, 3) := by decide +kernel
theorem dX8_write_86 : decode cX8_write 86 = .ok (.if_icmp .ge 46, 3) := by decide +kernel
theorem dX8_write_89 : decode cX8_write 89 = .ok (.aload_n 0, 1) := by decide +kernel
theorem dX8_write_90 : decode cX8_write 90 = .ok (.getfield 34, 3) := by decide +kernel
theorem dX8_write_93 : decode cX8_write 93 = .ok (.iload_n 1, 1) := by decide +kernel
theorem dX8_write_94 : decode cX8_write 94 = .ok (.invokevirtual 155, 3) := by decide +kernel
theorem dX8_write_97 : decode cX8_write 97 = .ok (.ifCond .ne 29, 3) := by decide +kernel
theorem dX8_write_100 : decode cX8_write 100 = .ok (.aload_n 0, 1) := by decide +kernel
theorem dX8_write_101 : decode cX8_write 101 = .ok (.getfield 72, 3) := by decide +kernel
theorem dX8_write_104 : decode cX8_write 104 = .ok (.bipush 32, 2) := by decide +kernel
theorem dX8_write_106 : decode cX8_write 106 = .ok (.invokevirtual 299, 3) := by decide +kernel
theorem dX8_write_109 : decode cX8_write 109 = .ok (.aload_n 0, 1) := by decide +kernel
theorem dX8_write_110 : decode cX8_write 110 = .ok (.getfield 72, 3) := by decide +kernel
theorem dX8_write_113 : decode cX8_write 113 = .ok (.bipush 33, 2) := by decide +kernel
theorem dX8_write_115 : decode cX8_write 115 = .ok (.invokevirtual 299, 3) := by decide +kernel
theorem dX8_write_118 : decode cX8_write 118 = .ok (.aload_n 0, 1) := by decide +kernel
theorem dX8_write_119 : decode cX8_write 119 = .ok (.getfield 72, 3) := by decide +kernel
theorem dX8_write_122 : decode cX8_write 122 = .ok (.iload_n 1, 1) := by decide +kernel
theorem dX8_write_123 : decode cX8_write 123 = .ok (.invokevirtual 307, 3) := by decide +kernel
theorem dX8_write_126 : decode cX8_write 126 = .ok (.iinc 1 1, 3) := by decide +kernel
theorem dX8_write_129 : decode cX8_write 129 = .ok (.goto (-51), 3) := by decide +kernel
theorem dX8_write_132 : decode cX8_write 132 = .ok (.aload_n 0, 1) := by decide +kernel
theorem dX8_write_133 : decode cX8_write 133 = .ok (.getfield 72, 3) := by decide +kernel
theorem dX8_write_136 : decode cX8_write 136 = .ok (.getfield 310, 3) := by decide +kernel
theorem dX8_write_139 : decode cX8_write 139 = .ok (.ireturn, 1) := by decide +kernel
theorem dX8_writeCycle_0 : decode cX8_writeCycle 0 = .ok (.aload_n 0, 1) := by decide +kernel
theorem dX8_writeCycle_1 : decode cX8_writeCycle 1 = .ok (.iload_n 1, 1) := by decide +kernel
theorem dX8_writeCycle_2 : decode cX8_writeCycle 2 = .ok (.invokevirtual 214, 3) := by decide +kernel
theorem dX8_writeCycle_5 : decode cX8_writeCycle 5 = .ok (.aload_n 0, 1) := by decide +kernel
theorem dX8_writeCycle_6 : decode cX8_writeCycle 6 = .ok (.getfield 72, 3) := by decide +kernel
theorem dX8_writeCycle_9 : decode cX8_writeCycle 9 = .ok (.invokevirtual 298, 3) := by decide +kernel
theorem dX8_writeCycle_12 : decode cX8_writeCycle 12 = .ok (.iconst 0, 1) := by decide +kernel
theorem dX8_writeCycle_13 : decode cX8_writeCycle 13 = .ok (.istore_n 2, 1) := by decide +kernel
theorem dX8_writeCycle_14 : decode cX8_writeCycle 14 = .ok (.iload_n 2, 1) := by decide +kernel
theorem dX8_writeCycle_15 : decode cX8_writeCycle 15 = .ok (.aload_n 0, 1) := by decide +kernel
theorem dX8_writeCycle_16 : decode cX8_writeCycle 16 = .ok (.getfield 58, 3) := by decide +kernel
theorem dX8_writeCycle_19 : decode cX8_writeCycle 19 = .ok (.getfield 217, 3) := by decide +kernel
theorem dX8_writeCycle_22 : decode cX8_writeCycle 22 = .ok (.iload_n 1, 1) := by decide +kernel
theorem dX8_writeCycle_23 : decode cX8_writeCycle 23 = .ok (.iaload, 1) := by decide +kernel
theorem dX8_writeCycle_24 : decode cX8_writeCycle 24 = .ok (.if_icmp .ge 55, 3) := by decide +kernel
theorem dX8_writeCycle_27 : decode cX8_writeCycle 27 = .ok (.aload_n 0, 1) := by decide +kernel
theorem dX8_writeCycle_28 : decode cX8_writeCycle 28 = .ok (.getfield 72, 3) := by decide +kernel
theorem dX8_writeCycle_31 : decode cX8_writeCycle 31 = .ok (.aload_n 0, 1) := by decide +kernel
theorem dX8_writeCycle_32 : decode cX8_writeCycle 32 = .ok (.getfield 58, 3) := by decide +kernel
theorem dX8_writeCycle_35 : decode cX8_writeCycle 35 = .ok (.getfield 228, 3) := by decide +kernel
theorem dX8_writeCycle_38 : decode cX8_writeCycle 38 = .ok (.iload_n 1, 1) := by decide +kernel
theorem dX8_writeCycle_39 : decode cX8_writeCycle 39 = .ok (.aaload, 1) := by decide +kernel
theorem dX8_writeCycle_40 : decode cX8_writeCycle 40 = .ok (.iload_n 2, 1) := by decide +kernel
theorem dX8_writeCycle_41 : decode cX8_writeCycle 41 = .ok (.iaload, 1) := by decide +kernel
theorem dX8_writeCycle_42 : decode cX8_writeCycle 42 = .ok (.ifCond .le 8, 3) := by decide +kernel
theorem dX8_writeCycle_45 : decode cX8_writeCycle 45 = .ok (.bipush 43, 2) := by decide +kernel
theorem dX8_writeCycle_47 : decode cX8_writeCycle 47 = .ok (.goto 5, 3) := by decide +kernel
theorem dX8_writeCycle_50 : decode cX8_writeCycle 50 = .ok (.bipush 45, 2) := by decide +kernel
theorem dX8_writeCycle_52 : decode cX8_writeCycle 52 = .ok (.invokevirtual 299, 3) := by decide +kernel
theorem dX8_writeCycle_55 : decode cX8_writeCycle 55 = .ok (.aload_n 0, 1) := by decide +kernel
theorem dX8_writeCycle_56 : decode cX8_writeCycle 56 = .ok (.getfield 72, 3) := by decide +kernel
theorem dX8_writeCycle_59 : decode cX8_writeCycle 59 = .ok (.aload_n 0, 1) := by decide +kernel
theorem dX8_writeCycle_60 : decode cX8_writeCycle 60 = .ok (.getfield 58, 3) := by decide +kernel
theorem dX8_writeCycle_63 : decode cX8_writeCycle 63 = .ok (.getfield 224, 3) := by decide +kernel
theorem dX8_writeCycle_66 : decode cX8_writeCycle 66 = .ok (.iload_n 1, 1) := by decide +kernel
theorem dX8_writeCycle_67 : decode cX8_writeCycle 67 = .ok (.aaload, 1) := by decide +kernel
theorem dX8_writeCycle_68 : decode cX8_writeCycle 68 = .ok (.iload_n 2, 1) := by decide +kernel
theorem dX8_writeCycle_69 : decode cX8_writeCycle 69 = .ok (.iaload, 1) := by decide +kernel
theorem dX8_writeCycle_70 : decode cX8_writeCycle 70 = .ok (.invokevirtual 307, 3) := by decide +kernel
theorem dX8_writeCycle_73 : decode cX8_writeCycle 73 = .ok (.iinc 2 1, 3) := by decide +kernel
theorem dX8_writeCycle_76 : decode cX8_writeCycle 76 = .ok (.goto (-62), 3) := by decide +kernel
theorem dX8_writeCycle_79 : decode cX8_writeCycle 79 = .ok (.aload_n 0, 1) := by decide +kernel
theorem dX8_writeCycle_80 : decode cX8_writeCycle 80 = .ok (.getfield 72, 3) := by decide +kernel
theorem dX8_writeCycle_83 : decode cX8_writeCycle 83 = .ok (.bipush 61, 2) := by decide +kernel
theorem dX8_writeCycle_85 : decode cX8_writeCycle 85 = .ok (.invokevirtual 299, 3) := by decide +kernel
theorem dX8_writeCycle_88 : decode cX8_writeCycle 88 = .ok (.aload_n 0, 1) := by decide +kernel
theorem dX8_writeCycle_89 : decode cX8_writeCycle 89 = .ok (.getfield 72, 3) := by decide +kernel
theorem dX8_writeCycle_92 : decode cX8_writeCycle 92 = .ok (.aload_n 0, 1) := by decide +kernel
theorem dX8_writeCycle_93 : decode cX8_writeCycle 93 = .ok (.getfield 58, 3) := by decide +kernel
theorem dX8_writeCycle_96 : decode cX8_writeCycle 96 = .ok (.aload_n 0, 1) := by decide +kernel
theorem dX8_writeCycle_97 : decode cX8_writeCycle 97 = .ok (.getfield 34, 3) := by decide +kernel
theorem dX8_writeCycle_100 : decode cX8_writeCycle 100 = .ok (.iload_n 1, 1) := by decide +kernel
theorem dX8_writeCycle_101 : decode cX8_writeCycle 101 = .ok (.invokevirtual 231, 3) := by decide +kernel
theorem dX8_writeCycle_104 : decode cX8_writeCycle 104 = .ok (.invokevirtual 307, 3) := by decide +kernel
theorem dX8_writeCycle_107 : decode cX8_writeCycle 107 = .ok (.aload_n 0, 1) := by decide +kernel
theorem dX8_writeCycle_108 : decode cX8_writeCycle 108 = .ok (.getfield 72, 3) := by decide +kernel
theorem dX8_writeCycle_111 : decode cX8_writeCycle 111 = .ok (.getfield 310, 3) := by decide +kernel
theorem dX8_writeCycle_114 : decode cX8_writeCycle 114 = .ok (.ireturn, 1) := by decide +kernel
theorem dX8_written_0 : decode cX8_written 0 = .ok (.iload_n 1, 1) := by decide +kernel
theorem dX8_written_1 : decode cX8_written 1 = .ok (.ifCond .lt 14, 3) := by decide +kernel
theorem dX8_written_4 : decode cX8_written 4 = .ok (.iload_n 1, 1) := by decide +kernel
theorem dX8_written_5 : decode cX8_written 5 = .ok (.aload_n 0, 1) := by decide +kernel
theorem dX8_written_6 : decode cX8_written 6 = .ok (.getfield 72, 3) := by decide +kernel
theorem dX8_written_9 : decode cX8_written 9 = .ok (.getfield 310, 3) := by decide +kernel
theorem dX8_written_12 : decode cX8_written 12 = .ok (.if_icmp .lt 14, 3) := by decide +kernel
theorem dX8_written_15 : decode cX8_written 15 = .ok (.new 313, 3) := by decide +kernel
theorem dX8_written_18 : decode cX8_written 18 = .ok (.dup, 1) := by decide +kernel
theorem dX8_written_19 : decode cX8_written 19 = .ok (.ldc_w 315, 3) := by decide +kernel
theorem dX8_written_22 : decode cX8_written 22 = .ok (.invokespecial 317, 3) := by decide +kernel
theorem dX8_written_25 : decode cX8_written 25 = .ok (.athrow, 1) := by decide +kernel
theorem dX8_written_26 : decode cX8_written 26 = .ok (.aload_n 0, 1) := by decide +kernel
theorem dX8_written_27 : decode cX8_written 27 = .ok (.getfield 72, 3) := by decide +kernel
theorem dX8_written_30 : decode cX8_written 30 = .ok (.getfield 318, 3) := by decide +kernel
theorem dX8_written_33 : decode cX8_written 33 = .ok (.iload_n 1, 1) := by decide +kernel
theorem dX8_written_34 : decode cX8_written 34 = .ok (.caload, 1) := by decide +kernel
theorem dX8_written_35 : decode cX8_written 35 = .ok (.ireturn, 1) := by decide +kernel
theorem dX8_requireEvent_0 : decode cX8_requireEvent 0 = .ok (.iload_n 1, 1) := by decide +kernel
theorem dX8_requireEvent_1 : decode cX8_requireEvent 1 = .ok (.ifCond .lt 14, 3) := by decide +kernel
theorem dX8_requireEvent_4 : decode cX8_requireEvent 4 = .ok (.iload_n 1, 1) := by decide +kernel
theorem dX8_requireEvent_5 : decode cX8_requireEvent 5 = .ok (.aload_n 0, 1) := by decide +kernel
theorem dX8_requireEvent_6 : decode cX8_requireEvent 6 = .ok (.getfield 34, 3) := by decide +kernel
theorem dX8_requireEvent_9 : decode cX8_requireEvent 9 = .ok (.getfield 112, 3) := by decide +kernel
theorem dX8_requireEvent_12 : decode cX8_requireEvent 12 = .ok (.if_icmp .lt 14, 3) := by decide +kernel
theorem dX8_requireEvent_15 : decode cX8_requireEvent 15 = .ok (.new 313, 3) := by decide +kernel
theorem dX8_requireEvent_18 : decode cX8_requireEvent 18 = .ok (.dup, 1) := by decide +kernel
theorem dX8_requireEvent_19 : decode cX8_requireEvent 19 = .ok (.ldc_w 321, 3) := by decide +kernel
theorem dX8_requireEvent_22 : decode cX8_requireEvent 22 = .ok (.invokespecial 317, 3) := by decide +kernel
theorem dX8_requireEvent_25 : decode cX8_requireEvent 25 = .ok (.athrow, 1) := by decide +kernel
theorem dX8_requireEvent_26 : decode cX8_requireEvent 26 = .ok (.return_, 1) := by decide +kernel
theorem dX8_requireSpan_0 : decode cX8_requireSpan 0 = .ok (.iload_n 1, 1) := by decide +kernel
theorem dX8_requireSpan_1 : decode cX8_requireSpan 1 = .ok (.ifCond .lt 14, 3) := by decide +kernel
theorem dX8_requireSpan_4 : decode cX8_requireSpan 4 = .ok (.iload_n 1, 1) := by decide +kernel
theorem dX8_requireSpan_5 : decode cX8_requireSpan 5 = .ok (.aload_n 0, 1) := by decide +kernel
theorem dX8_requireSpan_6 : decode cX8_requireSpan 6 = .ok (.getfield 34, 3) := by decide +kernel
theorem dX8_requireSpan_9 : decode cX8_requireSpan 9 = .ok (.getfield 100, 3) := by decide +kernel
theorem dX8_requireSpan_12 : decode cX8_requireSpan 12 = .ok (.if_icmp .lt 14, 3) := by decide +kernel
theorem dX8_requireSpan_15 : decode cX8_requireSpan 15 = .ok (.new 313, 3) := by decide +kernel
theorem dX8_requireSpan_18 : decode cX8_requireSpan 18 = .ok (.dup, 1) := by decide +kernel
theorem dX8_requireSpan_19 : decode cX8_requireSpan 19 = .ok (.ldc_w 323, 3) := by decide +kernel
theorem dX8_requireSpan_22 : decode cX8_requireSpan 22 = .ok (.invokespecial 317, 3) := by decide +kernel
theorem dX8_requireSpan_25 : decode cX8_requireSpan 25 = .ok (.athrow, 1) := by decide +kernel
theorem dX8_requireSpan_26 : decode cX8_requireSpan 26 = .ok (.return_, 1) := by decide +kernel
theorem dX8_requireCycle_0 : decode cX8_requireCycle 0 = .ok (.aload_n 0, 1) := by decide +kernel
theorem dX8_requireCycle_1 : decode cX8_requireCycle 1 = .ok (.getfield 58, 3) := by decide +kernel
theorem dX8_requireCycle_4 : decode cX8_requireCycle 4 = .ok (.aload_n 0, 1) := by decide +kernel
theorem dX8_requireCycle_5 : decode cX8_requireCycle 5 = .ok (.getfield 34, 3) := by decide +kernel
theorem dX8_requireCycle_8 : decode cX8_requireCycle 8 = .ok (.invokevirtual 208, 3) := by decide +kernel
theorem dX8_requireCycle_11 : decode cX8_requireCycle 11 = .ok (.iload_n 1, 1) := by decide +kernel
theorem dX8_requireCycle_12 : decode cX8_requireCycle 12 = .ok (.ifCond .lt 14, 3) := by decide +kernel
theorem dX8_requireCycle_15 : decode cX8_requireCycle 15 = .ok (.iload_n 1, 1) := by decide +kernel
theorem dX8_requireCycle_16 : decode cX8_requireCycle 16 = .ok (.aload_n 0, 1) := by decide +kernel
theorem dX8_requireCycle_17 : decode cX8_requireCycle 17 = .ok (.getfield 58, 3) := by decide +kernel
theorem dX8_requireCycle_20 : decode cX8_requireCycle 20 = .ok (.getfield 211, 3) := by decide +kernel
theorem dX8_requireCycle_23 : decode cX8_requireCycle 23 = .ok (.if_icmp .lt 14, 3) := by decide +kernel
theorem dX8_requireCycle_26 : decode cX8_requireCycle 26 = .ok (.new 313, 3) := by decide +kernel
theorem dX8_requireCycle_29 : decode cX8_requireCycle 29 = .ok (.dup, 1) := by decide +kernel
theorem dX8_requireCycle_30 : decode cX8_requireCycle 30 = .ok (.ldc_w 325, 3) := by decide +kernel
theorem dX8_requireCycle_33 : decode cX8_requireCycle 33 = .ok (.invokespecial 317, 3) := by decide +kernel
theorem dX8_requireCycle_36 : decode cX8_requireCycle 36 = .ok (.athrow, 1) := by decide +kernel
theorem dX8_requireCycle_37 : decode cX8_requireCycle 37 = .ok (.return_, 1) := by decide +kernel
theorem dX8_requireStep_0 : decode cX8_requireStep 0 = .ok (.aload_n 0, 1) := by decide +kernel
theorem dX8_requireStep_1 : decode cX8_requireStep 1 = .ok (.iload_n 1, 1) := by decide +kernel
theorem dX8_requireStep_2 : decode cX8_requireStep 2 = .ok (.invokevirtual 214, 3) := by decide +kernel
theorem dX8_requireStep_5 : decode cX8_requireStep 5 = .ok (.iload_n 2, 1) := by decide +kernel
theorem dX8_requireStep_6 : decode cX8_requireStep 6 = .ok (.ifCond .lt 16, 3) := by decide +kernel
theorem dX8_requireStep_9 : decode cX8_requireStep 9 = .ok (.iload_n 2, 1) := by decide +kernel
theorem dX8_requireStep_10 : decode cX8_requireStep 10 = .ok (.aload_n 0, 1) := by decide +kernel
theorem dX8_requireStep_11 : decode cX8_requireStep 11 = .ok (.getfield 58, 3) := by decide +kernel
theorem dX8_requireStep_14 : decode cX8_requireStep 14 = .ok (.getfield 217, 3) := by decide +kernel
theorem dX8_requireStep_17 : decode cX8_requireStep 17 = .ok (.iload_n 1, 1) := by decide +kernel
theorem dX8_requireStep_18 : decode cX8_requireStep 18 = .ok (.iaload, 1) := by decide +kernel
theorem dX8_requireStep_19 : decode cX8_requireStep 19 = .ok (.if_icmp .lt 14, 3) := by decide +kernel
theorem dX8_requireStep_22 : decode cX8_requireStep 22 = .ok (.new 313, 3) := by decide +kernel
theorem dX8_requireStep_25 : decode cX8_requireStep 25 = .ok (.dup, 1) := by decide +kernel
theorem dX8_requireStep_26 : decode cX8_requireStep 26 = .ok (.ldc_w 327, 3) := by decide +kernel
theorem dX8_requireStep_29 : decode cX8_requireStep 29 = .ok (.invokespecial 317, 3) := by decide +kernel
theorem dX8_requireStep_32 : decode cX8_requireStep 32 = .ok (.athrow, 1) := by decide +kernel
theorem dX8_requireStep_33 : decode cX8_requireStep 33 = .ok (.return_, 1) := by decide +kernel
theorem dX8_requireRange_0 : decode cX8_requireRange 0 = .ok (.iload_n 0, 1) := by decide +kernel
theorem dX8_requireRange_1 : decode cX8_requireRange 1 = .ok (.iload_n 1, 1) := by decide +kernel
theorem dX8_requireRange_2 : decode cX8_requireRange 2 = .ok (.if_icmp .lt 8, 3) := by decide +kernel
theorem dX8_requireRange_5 : decode cX8_requireRange 5 = .ok (.iload_n 0, 1) := by decide +kernel
theorem dX8_requireRange_6 : decode cX8_requireRange 6 = .ok (.iload_n 2, 1) := by decide +kernel
theorem dX8_requireRange_7 : decode cX8_requireRange 7 = .ok (.if_icmp .le 14, 3) := by decide +kernel
theorem dX8_requireRange_10 : decode cX8_requireRange 10 = .ok (.new 144, 3) := by decide +kernel
theorem dX8_requireRange_13 : decode cX8_requireRange 13 = .ok (.dup, 1) := by decide +kernel
theorem dX8_requireRange_14 : decode cX8_requireRange 14 = .ok (.ldc_w 329, 3) := by decide +kernel
theorem dX8_requireRange_17 : decode cX8_requireRange 17 = .ok (.invokespecial 148, 3) := by decide +kernel
theorem dX8_requireRange_20 : decode cX8_requireRange 20 = .ok (.athrow, 1) := by decide +kernel
theorem dX8_requireRange_21 : decode cX8_requireRange 21 = .ok (.return_, 1) := by decide +kernel
theorem dX8_requireDurations_0 : decode cX8_requireDurations 0 = .ok (.iload_n 1, 1) := by decide +kernel
theorem dX8_requireDurations_1 : decode cX8_requireDurations 1 = .ok (.iconst 0, 1) := by decide +kernel
theorem dX8_requireDurations_2 : decode cX8_requireDurations 2 = .ok (.bipush 48, 2) := by decide +kernel
theorem dX8_requireDurations_4 : decode cX8_requireDurations 4 = .ok (.invokestatic 80, 3) := by decide +kernel
theorem dX8_requireDurations_7 : decode cX8_requireDurations 7 = .ok (.iload_n 2, 1) := by decide +kernel
theorem dX8_requireDurations_8 : decode cX8_requireDurations 8 = .ok (.iload_n 1, 1) := by decide +kernel
theorem dX8_requireDurations_9 : decode cX8_requireDurations 9 = .ok (.iload_n 1, 1) := by decide +kernel
theorem dX8_requireDurations_10 : decode cX8_requireDurations 10 = .ok (.aload_n 0, 1) := by decide +kernel
theorem dX8_requireDurations_11 : decode cX8_requireDurations 11 = .ok (.getfield 34, 3) := by decide +kernel
theorem dX8_requireDurations_14 : decode cX8_requireDurations 14 = .ok (.getfield 109, 3) := by decide +kernel
theorem dX8_requireDurations_17 : decode cX8_requireDurations 17 = .ok (.iadd, 1) := by decide +kernel
theorem dX8_requireDurations_18 : decode cX8_requireDurations 18 = .ok (.iconst 1, 1) := by decide +kernel
theorem dX8_requireDurations_19 : decode cX8_requireDurations 19 = .ok (.isub, 1) := by decide +kernel
theorem dX8_requireDurations_20 : decode cX8_requireDurations 20 = .ok (.invokestatic 80, 3) := by decide +kernel
theorem dX8_requireDurations_23 : decode cX8_requireDurations 23 = .ok (.return_, 1) := by decide +kernel
theorem dX8_requireGood_0 : decode cX8_requireGood 0 = .ok (.iload_n 0, 1) := by decide +kernel
theorem dX8_requireGood_1 : decode cX8_requireGood 1 = .ok (.ifCond .ne 14, 3) := by decide +kernel
theorem dX8_requireGood_4 : decode cX8_requireGood 4 = .ok (.new 163, 3) := by decide +kernel
theorem dX8_requireGood_7 : decode cX8_requireGood 7 = .ok (.dup, 1) := by decide +kernel
theorem dX8_requireGood_8 : decode cX8_requireGood 8 = .ok (.ldc_w 331, 3) := by decide +kernel
theorem dX8_requireGood_11 : decode cX8_requireGood 11 = .ok (.invokespecial 167, 3) := by decide +kernel
theorem dX8_requireGood_14 : decode cX8_requireGood 14 = .ok (.athrow, 1) := by decide +kernel
theorem dX8_requireGood_15 : decode cX8_requireGood 15 = .ok (.return_, 1) := by decide +kernel
theorem dX8_modulo_0 : decode cX8_modulo 0 = .ok (.iload_n 1, 1) := by decide +kernel
theorem dX8_modulo_1 : decode cX8_modulo 1 = .ok (.iconst 1, 1) := by decide +kernel
theorem dX8_modulo_2 : decode cX8_modulo 2 = .ok (.if_icmp .ge 5, 3) := by decide +kernel
theorem dX8_modulo_5 : decode cX8_modulo 5 = .ok (.iconst 0, 1) := by decide +kernel
theorem dX8_modulo_6 : decode cX8_modulo 6 = .ok (.ireturn, 1) := by decide +kernel
theorem dX8_modulo_7 : decode cX8_modulo 7 = .ok (.iload_n 0, 1) := by decide +kernel
theorem dX8_modulo_8 : decode cX8_modulo 8 = .ok (.iload_n 1, 1) := by decide +kernel
theorem dX8_modulo_9 : decode cX8_modulo 9 = .ok (.irem, 1) := by decide +kernel
theorem dX8_modulo_10 : decode cX8_modulo 10 = .ok (.istore_n 2, 1) := by decide +kernel
theorem dX8_modulo_11 : decode cX8_modulo 11 = .ok (.iload_n 2, 1) := by decide +kernel
theorem dX8_modulo_12 : decode cX8_modulo 12 = .ok (.ifCond .ge 9, 3) := by decide +kernel
theorem dX8_modulo_15 : decode cX8_modulo 15 = .ok (.iload_n 2, 1) := by decide +kernel
theorem dX8_modulo_16 : decode cX8_modulo 16 = .ok (.iload_n 1, 1) := by decide +kernel
theorem dX8_modulo_17 : decode cX8_modulo 17 = .ok (.iadd, 1) := by decide +kernel
theorem dX8_modulo_18 : decode cX8_modulo 18 = .ok (.goto 4, 3) := by decide +kernel
theorem dX8_modulo_21 : decode cX8_modulo 21 = .ok (.iload_n 2, 1) := by decide +kernel
theorem dX8_modulo_22 : decode cX8_modulo 22 = .ok (.ireturn, 1) := by decide +kernel
