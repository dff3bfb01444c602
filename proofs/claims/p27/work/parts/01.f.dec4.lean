theorem dX10_init_0 : decode cX10_init 0 = .ok (.aload_n 0, 1) := by decide +kernel
theorem dX10_init_1 : decode cX10_init 1 = .ok (.invokespecial 1, 3) := by decide +kernel
theorem dX10_init_4 : decode cX10_init 4 = .ok (.aload_n 0, 1) := by decide +kernel
theorem dX10_init_5 : decode cX10_init 5 = .ok (.new 7, 3) := by decide +kernel
theorem dX10_init_8 : decode cX10_init 8 = .ok (.dup, 1) := by decide +kernel
theorem dX10_init_9 : decode cX10_init 9 = .ok (.invokespecial 9, 3) := by decide +kernel
theorem dX10_init_12 : decode cX10_init 12 = .ok (.putfield 10, 3) := by decide +kernel
theorem dX10_init_15 : decode cX10_init 15 = .ok (.aload_n 0, 1) := by decide +kernel
theorem dX10_init_16 : decode cX10_init 16 = .ok (.new 7, 3) := by decide +kernel
theorem dX10_init_19 : decode cX10_init 19 = .ok (.dup, 1) := by decide +kernel
theorem dX10_init_20 : decode cX10_init 20 = .ok (.invokespecial 9, 3) := by decide +kernel
theorem dX10_init_23 : decode cX10_init 23 = .ok (.putfield 16, 3) := by decide +kernel
theorem dX10_init_26 : decode cX10_init 26 = .ok (.aload_n 0, 1) := by decide +kernel
theorem dX10_init_27 : decode cX10_init 27 = .ok (.new 19, 3) := by decide +kernel
theorem dX10_init_30 : decode cX10_init 30 = .ok (.dup, 1) := by decide +kernel
theorem dX10_init_31 : decode cX10_init 31 = .ok (.invokespecial 21, 3) := by decide +kernel
theorem dX10_init_34 : decode cX10_init 34 = .ok (.putfield 22, 3) := by decide +kernel
theorem dX10_init_37 : decode cX10_init 37 = .ok (.aload_n 0, 1) := by decide +kernel
theorem dX10_init_38 : decode cX10_init 38 = .ok (.new 26, 3) := by decide +kernel
theorem dX10_init_41 : decode cX10_init 41 = .ok (.dup, 1) := by decide +kernel
theorem dX10_init_42 : decode cX10_init 42 = .ok (.invokespecial 28, 3) := by decide +kernel
theorem dX10_init_45 : decode cX10_init 45 = .ok (.putfield 29, 3) := by decide +kernel
theorem dX10_init_48 : decode cX10_init 48 = .ok (.aload_n 0, 1) := by decide +kernel
theorem dX10_init_49 : decode cX10_init 49 = .ok (.new 33, 3) := by decide +kernel
theorem dX10_init_52 : decode cX10_init 52 = .ok (.dup, 1) := by decide +kernel
theorem dX10_init_53 : decode cX10_init 53 = .ok (.aload_n 0, 1) := by decide +kernel
theorem dX10_init_54 : decode cX10_init 54 = .ok (.getfield 29, 3) := by decide +kernel
theorem dX10_init_57 : decode cX10_init 57 = .ok (.aload_n 0, 1) := by decide +kernel
theorem dX10_init_58 : decode cX10_init 58 = .ok (.getfield 16, 3) := by decide +kernel
theorem dX10_init_61 : decode cX10_init 61 = .ok (.getfield 35, 3) := by decide +kernel
theorem dX10_init_64 : decode cX10_init 64 = .ok (.invokespecial 39, 3) := by decide +kernel
theorem dX10_init_67 : decode cX10_init 67 = .ok (.putfield 42, 3) := by decide +kernel
theorem dX10_init_70 : decode cX10_init 70 = .ok (.aload_n 0, 1) := by decide +kernel
theorem dX10_init_71 : decode cX10_init 71 = .ok (.new 46, 3) := by decide +kernel
theorem dX10_init_74 : decode cX10_init 74 = .ok (.dup, 1) := by decide +kernel
theorem dX10_init_75 : decode cX10_init 75 = .ok (.invokespecial 48, 3) := by decide +kernel
theorem dX10_init_78 : decode cX10_init 78 = .ok (.putfield 49, 3) := by decide +kernel
theorem dX10_init_81 : decode cX10_init 81 = .ok (.aload_n 0, 1) := by decide +kernel
theorem dX10_init_82 : decode cX10_init 82 = .ok (.new 53, 3) := by decide +kernel
theorem dX10_init_85 : decode cX10_init 85 = .ok (.dup, 1) := by decide +kernel
theorem dX10_init_86 : decode cX10_init 86 = .ok (.aload_n 0, 1) := by decide +kernel
theorem dX10_init_87 : decode cX10_init 87 = .ok (.getfield 10, 3) := by decide +kernel
theorem dX10_init_90 : decode cX10_init 90 = .ok (.invokespecial 55, 3) := by decide +kernel
theorem dX10_init_93 : decode cX10_init 93 = .ok (.putfield 58, 3) := by decide +kernel
theorem dX10_init_96 : decode cX10_init 96 = .ok (.aload_n 0, 1) := by decide +kernel
theorem dX10_init_97 : decode cX10_init 97 = .ok (.new 53, 3) := by decide +kernel
theorem dX10_init_100 : decode cX10_init 100 = .ok (.dup, 1) := by decide +kernel
theorem dX10_init_101 : decode cX10_init 101 = .ok (.aload_n 0, 1) := by decide +kernel
theorem dX10_init_102 : decode cX10_init 102 = .ok (.getfield 10, 3) := by decide +kernel
theorem dX10_init_105 : decode cX10_init 105 = .ok (.invokespecial 55, 3) := by decide +kernel
theorem dX10_init_108 : decode cX10_init 108 = .ok (.putfield 62, 3) := by decide +kernel
theorem dX10_init_111 : decode cX10_init 111 = .ok (.aload_n 0, 1) := by decide +kernel
theorem dX10_init_112 : decode cX10_init 112 = .ok (.new 65, 3) := by decide +kernel
theorem dX10_init_115 : decode cX10_init 115 = .ok (.dup, 1) := by decide +kernel
theorem dX10_init_116 : decode cX10_init 116 = .ok (.invokespecial 67, 3) := by decide +kernel
theorem dX10_init_119 : decode cX10_init 119 = .ok (.putfield 68, 3) := by decide +kernel
theorem dX10_init_122 : decode cX10_init 122 = .ok (.aload_n 0, 1) := by decide +kernel
theorem dX10_init_123 : decode cX10_init 123 = .ok (.iconst (-1), 1) := by decide +kernel
theorem dX10_init_124 : decode cX10_init 124 = .ok (.putfield 72, 3) := by decide +kernel
theorem dX10_init_127 : decode cX10_init 127 = .ok (.return_, 1) := by decide +kernel
theorem dX10_feed_0 : decode cX10_feed 0 = .ok (.aload_n 0, 1) := by decide +kernel
theorem dX10_feed_1 : decode cX10_feed 1 = .ok (.getfield 22, 3) := by decide +kernel
theorem dX10_feed_4 : decode cX10_feed 4 = .ok (.invokevirtual 76, 3) := by decide +kernel
theorem dX10_feed_7 : decode cX10_feed 7 = .ok (.bipush 20, 2) := by decide +kernel
theorem dX10_feed_9 : decode cX10_feed 9 = .ok (.iadd, 1) := by decide +kernel
theorem dX10_feed_10 : decode cX10_feed 10 = .ok (.sipush 2000, 3) := by decide +kernel
theorem dX10_feed_13 : decode cX10_feed 13 = .ok (.if_icmp .le 13, 3) := by decide +kernel
theorem dX10_feed_16 : decode cX10_feed 16 = .ok (.new 80, 3) := by decide +kernel
theorem dX10_feed_19 : decode cX10_feed 19 = .ok (.dup, 1) := by decide +kernel
theorem dX10_feed_20 : decode cX10_feed 20 = .ok (.ldc 82, 2) := by decide +kernel
theorem dX10_feed_22 : decode cX10_feed 22 = .ok (.invokespecial 84, 3) := by decide +kernel
theorem dX10_feed_25 : decode cX10_feed 25 = .ok (.athrow, 1) := by decide +kernel
theorem dX10_feed_26 : decode cX10_feed 26 = .ok (.aload_n 0, 1) := by decide +kernel
theorem dX10_feed_27 : decode cX10_feed 27 = .ok (.getfield 22, 3) := by decide +kernel
theorem dX10_feed_30 : decode cX10_feed 30 = .ok (.iload_n 1, 1) := by decide +kernel
theorem dX10_feed_31 : decode cX10_feed 31 = .ok (.invokevirtual 87, 3) := by decide +kernel
theorem dX10_feed_34 : decode cX10_feed 34 = .ok (.aload_n 0, 1) := by decide +kernel
theorem dX10_feed_35 : decode cX10_feed 35 = .ok (.getfield 22, 3) := by decide +kernel
theorem dX10_feed_38 : decode cX10_feed 38 = .ok (.iload_n 2, 1) := by decide +kernel
theorem dX10_feed_39 : decode cX10_feed 39 = .ok (.invokevirtual 87, 3) := by decide +kernel
theorem dX10_feed_42 : decode cX10_feed 42 = .ok (.aload_n 0, 1) := by decide +kernel
theorem dX10_feed_43 : decode cX10_feed 43 = .ok (.getfield 22, 3) := by decide +kernel
theorem dX10_feed_46 : decode cX10_feed 46 = .ok (.iload_n 3, 1) := by decide +kernel
theorem dX10_feed_47 : decode cX10_feed 47 = .ok (.invokevirtual 87, 3) := by decide +kernel
theorem dX10_feed_50 : decode cX10_feed 50 = .ok (.aload_n 0, 1) := by decide +kernel
theorem dX10_feed_51 : decode cX10_feed 51 = .ok (.getfield 22, 3) := by decide +kernel
theorem dX10_feed_54 : decode cX10_feed 54 = .ok (.iload 4, 2) := by decide +kernel
theorem dX10_feed_56 : decode cX10_feed 56 = .ok (.invokevirtual 87, 3) := by decide +kernel
theorem dX10_feed_59 : decode cX10_feed 59 = .ok (.aload_n 0, 1) := by decide +kernel
theorem dX10_feed_60 : decode cX10_feed 60 = .ok (.getfield 22, 3) := by decide +kernel
theorem dX10_feed_63 : decode cX10_feed 63 = .ok (.iload 5, 2) := by decide +kernel
theorem dX10_feed_65 : decode cX10_feed 65 = .ok (.invokevirtual 87, 3) := by decide +kernel
theorem dX10_feed_68 : decode cX10_feed 68 = .ok (.aload_n 0, 1) := by decide +kernel
theorem dX10_feed_69 : decode cX10_feed 69 = .ok (.getfield 22, 3) := by decide +kernel
theorem dX10_feed_72 : decode cX10_feed 72 = .ok (.invokevirtual 76, 3) := by decide +kernel
theorem dX10_feed_75 : decode cX10_feed 75 = .ok (.ireturn, 1) := by decide +kernel
theorem dX10_trim_0 : decode cX10_trim 0 = .ok (.iload_n 1, 1) := by decide +kernel
theorem dX10_trim_1 : decode cX10_trim 1 = .ok (.ifCond .lt 14, 3) := by decide +kernel
theorem dX10_trim_4 : decode cX10_trim 4 = .ok (.iload_n 1, 1) := by decide +kernel
theorem dX10_trim_5 : decode cX10_trim 5 = .ok (.aload_n 0, 1) := by decide +kernel
theorem dX10_trim_6 : decode cX10_trim 6 = .ok (.getfield 22, 3) := by decide +kernel
theorem dX10_trim_9 : decode cX10_trim 9 = .ok (.invokevirtual 76, 3) := by decide +kernel
theorem dX10_trim_12 : decode cX10_trim 12 = .ok (.if_icmp .le 13, 3) := by decide +kernel
theorem dX10_trim_15 : decode cX10_trim 15 = .ok (.new 91, 3) := by decide +kernel
theorem dX10_trim_18 : decode cX10_trim 18 = .ok (.dup, 1) := by decide +kernel
theorem dX10_trim_19 : decode cX10_trim 19 = .ok (.ldc 93, 2) := by decide +kernel
theorem dX10_trim_21 : decode cX10_trim 21 = .ok (.invokespecial 95, 3) := by decide +kernel
theorem dX10_trim_24 : decode cX10_trim 24 = .ok (.athrow, 1) := by decide +kernel
theorem dX10_trim_25 : decode cX10_trim 25 = .ok (.aload_n 0, 1) := by decide +kernel
theorem dX10_trim_26 : decode cX10_trim 26 = .ok (.getfield 22, 3) := by decide +kernel
theorem dX10_trim_29 : decode cX10_trim 29 = .ok (.iload_n 1, 1) := by decide +kernel
theorem dX10_trim_30 : decode cX10_trim 30 = .ok (.invokevirtual 96, 3) := by decide +kernel
theorem dX10_trim_33 : decode cX10_trim 33 = .ok (.iload_n 1, 1) := by decide +kernel
theorem dX10_trim_34 : decode cX10_trim 34 = .ok (.ireturn, 1) := by decide +kernel
theorem dX10_teach_0 : decode cX10_teach 0 = .ok (.aload_n 0, 1) := by decide +kernel
theorem dX10_teach_1 : decode cX10_teach 1 = .ok (.getfield 29, 3) := by decide +kernel
theorem dX10_teach_4 : decode cX10_teach 4 = .ok (.aload_n 0, 1) := by decide +kernel
theorem dX10_teach_5 : decode cX10_teach 5 = .ok (.getfield 22, 3) := by decide +kernel
theorem dX10_teach_8 : decode cX10_teach 8 = .ok (.invokevirtual 99, 3) := by decide +kernel
theorem dX10_teach_11 : decode cX10_teach 11 = .ok (.aload_n 0, 1) := by decide +kernel
theorem dX10_teach_12 : decode cX10_teach 12 = .ok (.getfield 22, 3) := by decide +kernel
theorem dX10_teach_15 : decode cX10_teach 15 = .ok (.iconst 0, 1) := by decide +kernel
theorem dX10_teach_16 : decode cX10_teach 16 = .ok (.invokevirtual 96, 3) := by decide +kernel
theorem dX10_teach_19 : decode cX10_teach 19 = .ok (.aload_n 0, 1) := by decide +kernel
theorem dX10_teach_20 : decode cX10_teach 20 = .ok (.getfield 42, 3) := by decide +kernel
theorem dX10_teach_23 : decode cX10_teach 23 = .ok (.aload_n 0, 1) := by decide +kernel
theorem dX10_teach_24 : decode cX10_teach 24 = .ok (.getfield 16, 3) := by decide +kernel
theorem dX10_teach_27 : decode cX10_teach 27 = .ok (.getfield 35, 3) := by decide +kernel
theorem dX10_teach_30 : decode cX10_teach 30 = .ok (.invokevirtual 103, 3) := by decide +kernel
theorem dX10_teach_33 : decode cX10_teach 33 = .ok (.istore_n 1, 1) := by decide +kernel
theorem dX10_teach_34 : decode cX10_teach 34 = .ok (.iload_n 1, 1) := by decide +kernel
theorem dX10_teach_35 : decode cX10_teach 35 = .ok (.ifCond .ge 7, 3) := by decide +kernel
theorem dX10_teach_38 : decode cX10_teach 38 = .ok (.iconst 0, 1) := by decide +kernel
theorem dX10_teach_39 : decode cX10_teach 39 = .ok (.goto 4, 3) := by decide +kernel
theorem dX10_teach_42 : decode cX10_teach 42 = .ok (.iconst 1, 1) := by decide +kernel
theorem dX10_teach_43 : decode cX10_teach 43 = .ok (.istore_n 2, 1) := by decide +kernel
theorem dX10_teach_44 : decode cX10_teach 44 = .ok (.iload_n 2, 1) := by decide +kernel
theorem dX10_teach_45 : decode cX10_teach 45 = .ok (.ifCond .ne 34, 3) := by decide +kernel
theorem dX10_teach_48 : decode cX10_teach 48 = .ok (.aload_n 0, 1) := by decide +kernel
theorem dX10_teach_49 : decode cX10_teach 49 = .ok (.getfield 49, 3) := by decide +kernel
theorem dX10_teach_52 : decode cX10_teach 52 = .ok (.aload_n 0, 1) := by decide +kernel
theorem dX10_teach_53 : decode cX10_teach 53 = .ok (.getfield 29, 3) := by decide +kernel
theorem dX10_teach_56 : decode cX10_teach 56 = .ok (.aload_n 0, 1) := by decide +kernel
theorem dX10_teach_57 : decode cX10_teach 57 = .ok (.getfield 42, 3) := by decide +kernel
theorem dX10_teach_60 : decode cX10_teach 60 = .ok (.getfield 107, 3) := by decide +kernel
theorem dX10_teach_63 : decode cX10_teach 63 = .ok (.aload_n 0, 1) := by decide +kernel
theorem dX10_teach_64 : decode cX10_teach 64 = .ok (.getfield 16, 3) := by decide +kernel
theorem dX10_teach_67 : decode cX10_teach 67 = .ok (.invokevirtual 111, 3) := by decide +kernel
theorem dX10_teach_70 : decode cX10_teach 70 = .ok (.istore_n 1, 1) := by decide +kernel
theorem dX10_teach_71 : decode cX10_teach 71 = .ok (.aload_n 0, 1) := by decide +kernel
theorem dX10_teach_72 : decode cX10_teach 72 = .ok (.getfield 49, 3) := by decide +kernel
theorem dX10_teach_75 : decode cX10_teach 75 = .ok (.getfield 114, 3) := by decide +kernel
theorem dX10_teach_78 : decode cX10_teach 78 = .ok (.istore_n 2, 1) := by decide +kernel
theorem dX10_teach_79 : decode cX10_teach 79 = .ok (.aload_n 0, 1) := by decide +kernel
theorem dX10_teach_80 : decode cX10_teach 80 = .ok (.aload_n 0, 1) := by decide +kernel
theorem dX10_teach_81 : decode cX10_teach 81 = .ok (.getfield 29, 3) := by decide +kernel
theorem dX10_teach_84 : decode cX10_teach 84 = .ok (.iload_n 1, 1) := by decide +kernel
theorem dX10_teach_85 : decode cX10_teach 85 = .ok (.invokevirtual 117, 3) := by decide +kernel
theorem dX10_teach_88 : decode cX10_teach 88 = .ok (.putfield 72, 3) := by decide +kernel
theorem dX10_teach_91 : decode cX10_teach 91 = .ok (.iload_n 2, 1) := by decide +kernel
theorem dX10_teach_92 : decode cX10_teach 92 = .ok (.ifCond .ne 32, 3) := by decide +kernel
theorem dX10_teach_95 : decode cX10_teach 95 = .ok (.aload_n 0, 1) := by decide +kernel
theorem dX10_teach_96 : decode cX10_teach 96 = .ok (.getfield 10, 3) := by decide +kernel
theorem dX10_teach_99 : decode cX10_teach 99 = .ok (.astore_n 3, 1) := by decide +kernel
theorem dX10_teach_100 : decode cX10_teach 100 = .ok (.aload_n 0, 1) := by decide +kernel
theorem dX10_teach_101 : decode cX10_teach 101 = .ok (.aload_n 0, 1) := by decide +kernel
theorem dX10_teach_102 : decode cX10_teach 102 = .ok (.getfield 16, 3) := by decide +kernel
theorem dX10_teach_105 : decode cX10_teach 105 = .ok (.putfield 10, 3) := by decide +kernel
theorem dX10_teach_108 : decode cX10_teach 108 = .ok (.aload_n 0, 1) := by decide +kernel
theorem dX10_teach_109 : decode cX10_teach 109 = .ok (.aload_n 3, 1) := by decide +kernel
theorem dX10_teach_110 : decode cX10_teach 110 = .ok (.putfield 16, 3) := by decide +kernel
theorem dX10_teach_113 : decode cX10_teach 113 = .ok (.aload_n 0, 1) := by decide +kernel
theorem dX10_teach_114 : decode cX10_teach 114 = .ok (.getfield 58, 3) := by decide +kernel
theorem dX10_teach_117 : decode cX10_teach 117 = .ok (.aload_n 0, 1) := by decide +kernel
theorem dX10_teach_118 : decode cX10_teach 118 = .ok (.getfield 10, 3) := by decide +kernel
theorem dX10_teach_121 : decode cX10_teach 121 = .ok (.invokevirtual 121, 3) := by decide +kernel
theorem dX10_teach_124 : decode cX10_teach 124 = .ok (.iload_n 2, 1) := by decide +kernel
theorem dX10_teach_125 : decode cX10_teach 125 = .ok (.ireturn, 1) := by decide +kernel
theorem dX10_count_0 : decode cX10_count 0 = .ok (.iload_n 1, 1) := by decide +kernel
theorem dX10_count_1 : decode cX10_count 1 = .ok (.ifCond .lt 9, 3) := by decide +kernel
theorem dX10_count_4 : decode cX10_count 4 = .ok (.iload_n 1, 1) := by decide +kernel
theorem dX10_count_5 : decode cX10_count 5 = .ok (.bipush 12, 2) := by decide +kernel
theorem dX10_count_7 : decode cX10_count 7 = .ok (.if_icmp .le 13, 3) := by decide +kernel
theorem dX10_count_10 : decode cX10_count 10 = .ok (.new 124, 3) := by decide +kernel
theorem dX10_count_13 : decode cX10_count 13 = .ok (.dup, 1) := by decide +kernel
theorem dX10_count_14 : decode cX10_count 14 = .ok (.ldc 126, 2) := by decide +kernel
theorem dX10_count_16 : decode cX10_count 16 = .ok (.invokespecial 128, 3) := by decide +kernel
theorem dX10_count_19 : decode cX10_count 19 = .ok (.athrow, 1) := by decide +kernel
theorem dX10_count_20 : decode cX10_count 20 = .ok (.iload_n 1, 1) := by decide +kernel
theorem dX10_count_21 : decode cX10_count 21 = .ok (.bipush 12, 2) := by decide +kernel
theorem dX10_count_23 : decode cX10_count 23 = .ok (.if_icmp .ne 13, 3) := by decide +kernel
theorem dX10_count_26 : decode cX10_count 26 = .ok (.aload_n 0, 1) := by decide +kernel
theorem dX10_count_27 : decode cX10_count 27 = .ok (.getfield 22, 3) := by decide +kernel
theorem dX10_count_30 : decode cX10_count 30 = .ok (.invokevirtual 76, 3) := by decide +kernel
theorem dX10_count_33 : decode cX10_count 33 = .ok (.goto 11, 3) := by decide +kernel
theorem dX10_count_36 : decode cX10_count 36 = .ok (.aload_n 0, 1) := by decide +kernel
theorem dX10_count_37 : decode cX10_count 37 = .ok (.getfield 58, 3) := by decide +kernel
theorem dX10_count_40 : decode cX10_count 40 = .ok (.iload_n 1, 1) := by decide +kernel
theorem dX10_count_41 : decode cX10_count 41 = .ok (.invokevirtual 129, 3) := by decide +kernel
theorem dX10_count_44 : decode cX10_count 44 = .ok (.ireturn, 1) := by decide +kernel
theorem dX10_colour_0 : decode cX10_colour 0 = .ok (.aload_n 0, 1) := by decide +kernel
theorem dX10_colour_1 : decode cX10_colour 1 = .ok (.getfield 10, 3) := by decide +kernel
theorem dX10_colour_4 : decode cX10_colour 4 = .ok (.iload_n 1, 1) := by decide +kernel
theorem dX10_colour_5 : decode cX10_colour 5 = .ok (.invokevirtual 132, 3) := by decide +kernel
theorem dX10_colour_8 : decode cX10_colour 8 = .ok (.ifCond .eq 12, 3) := by decide +kernel
theorem dX10_colour_11 : decode cX10_colour 11 = .ok (.iload_n 2, 1) := by decide +kernel
theorem dX10_colour_12 : decode cX10_colour 12 = .ok (.ifCond .lt 8, 3) := by decide +kernel
theorem dX10_colour_15 : decode cX10_colour 15 = .ok (.iload_n 2, 1) := by decide +kernel
theorem dX10_colour_16 : decode cX10_colour 16 = .ok (.iconst 2, 1) := by decide +kernel
theorem dX10_colour_17 : decode cX10_colour 17 = .ok (.if_icmp .le 13, 3) := by decide +kernel
theorem dX10_colour_20 : decode cX10_colour 20 = .ok (.new 124, 3) := by decide +kernel
theorem dX10_colour_23 : decode cX10_colour 23 = .ok (.dup, 1) := by decide +kernel
theorem dX10_colour_24 : decode cX10_colour 24 = .ok (.ldc 136, 2) := by decide +kernel
theorem dX10_colour_26 : decode cX10_colour 26 = .ok (.invokespecial 128, 3) := by decide +kernel
theorem dX10_colour_29 : decode cX10_colour 29 = .ok (.athrow, 1) := by decide +kernel
theorem dX10_colour_30 : decode cX10_colour 30 = .ok (.aload_n 0, 1) := by decide +kernel
theorem dX10_colour_31 : decode cX10_colour 31 = .ok (.getfield 58, 3) := by decide +kernel
theorem dX10_colour_34 : decode cX10_colour 34 = .ok (.iload_n 1, 1) := by decide +kernel
theorem dX10_colour_35 : decode cX10_colour 35 = .ok (.iload_n 2, 1) := by decide +kernel
theorem dX10_colour_36 : decode cX10_colour 36 = .ok (.invokevirtual 138, 3) := by decide +kernel
theorem dX10_colour_39 : decode cX10_colour 39 = .ok (.ireturn, 1) := by decide +kernel
theorem dX10_cord_0 : decode cX10_cord 0 = .ok (.aload_n 0, 1) := by decide +kernel
theorem dX10_cord_1 : decode cX10_cord 1 = .ok (.getfield 10, 3) := by decide +kernel
theorem dX10_cord_4 : decode cX10_cord 4 = .ok (.iload_n 1, 1) := by decide +kernel
theorem dX10_cord_5 : decode cX10_cord 5 = .ok (.invokevirtual 142, 3) := by decide +kernel
theorem dX10_cord_8 : decode cX10_cord 8 = .ok (.ifCond .eq 13, 3) := by decide +kernel
theorem dX10_cord_11 : decode cX10_cord 11 = .ok (.iload_n 2, 1) := by decide +kernel
theorem dX10_cord_12 : decode cX10_cord 12 = .ok (.ifCond .lt 9, 3) := by decide +kernel
theorem dX10_cord_15 : decode cX10_cord 15 = .ok (.iload_n 2, 1) := by decide +kernel
theorem dX10_cord_16 : decode cX10_cord 16 = .ok (.bipush 8, 2) := by decide +kernel
theorem dX10_cord_18 : decode cX10_cord 18 = .ok (.if_icmp .le 13, 3) := by decide +kernel
theorem dX10_cord_21 : decode cX10_cord 21 = .ok (.new 124, 3) := by decide +kernel
theorem dX10_cord_24 : decode cX10_cord 24 = .ok (.dup, 1) := by decide +kernel
theorem dX10_cord_25 : decode cX10_cord 25 = .ok (.ldc 145, 2) := by decide +kernel
theorem dX10_cord_27 : decode cX10_cord 27 = .ok (.invokespecial 128, 3) := by decide +kernel
theorem dX10_cord_30 : decode cX10_cord 30 = .ok (.athrow, 1) := by decide +kernel
theorem dX10_cord_31 : decode cX10_cord 31 = .ok (.aload_n 0, 1) := by decide +kernel
theorem dX10_cord_32 : decode cX10_cord 32 = .ok (.getfield 58, 3) := by decide +kernel
theorem dX10_cord_35 : decode cX10_cord 35 = .ok (.iload_n 1, 1) := by decide +kernel
theorem dX10_cord_36 : decode cX10_cord 36 = .ok (.iload_n 2, 1) := by decide +kernel
theorem dX10_cord_37 : decode cX10_cord 37 = .ok (.invokevirtual 147, 3) := by decide +kernel
theorem dX10_cord_40 : decode cX10_cord 40 = .ok (.ireturn, 1) := by decide +kernel
theorem dX10_digit_0 : decode cX10_digit 0 = .ok (.aload_n 0, 1) := by decide +kernel
theorem dX10_digit_1 : decode cX10_digit 1 = .ok (.getfield 10, 3) := by decide +kernel
theorem dX10_digit_4 : decode cX10_digit 4 = .ok (.iload_n 1, 1) := by decide +kernel
theorem dX10_digit_5 : decode cX10_digit 5 = .ok (.invokevirtual 142, 3) := by decide +kernel
theorem dX10_digit_8 : decode cX10_digit 8 = .ok (.ifCond .eq 12, 3) := by decide +kernel
theorem dX10_digit_11 : decode cX10_digit 11 = .ok (.iload_n 2, 1) := by decide +kernel
theorem dX10_digit_12 : decode cX10_digit 12 = .ok (.ifCond .lt 8, 3) := by decide +kernel
theorem dX10_digit_15 : decode cX10_digit 15 = .ok (.iload_n 2, 1) := by decide +kernel
theorem dX10_digit_16 : decode cX10_digit 16 = .ok (.iconst 3, 1) := by decide +kernel
theorem dX10_digit_17 : decode cX10_digit 17 = .ok (.if_icmp .le 13, 3) := by decide +kernel
theorem dX10_digit_20 : decode cX10_digit 20 = .ok (.new 124, 3) := by decide +kernel
theorem dX10_digit_23 : decode cX10_digit 23 = .ok (.dup, 1) := by decide +kernel
theorem dX10_digit_24 : decode cX10_digit 24 = .ok (.ldc 150, 2) := by decide +kernel
theorem dX10_digit_26 : decode cX10_digit 26 = .ok (.invokespecial 128, 3) := by decide +kernel
theorem dX10_digit_29 : decode cX10_digit 29 = .ok (.athrow, 1) := by decide +kernel
theorem dX10_digit_30 : decode cX10_digit 30 = .ok (.aload_n 0, 1) := by decide +kernel
theorem dX10_digit_31 : decode cX10_digit 31 = .ok (.getfield 58, 3) := by decide +kernel
theorem dX10_digit_34 : decode cX10_digit 34 = .ok (.getfield 152, 3) := by decide +kernel
theorem dX10_digit_37 : decode cX10_digit 37 = .ok (.iload_n 1, 1) := by decide +kernel
theorem dX10_digit_38 : decode cX10_digit 38 = .ok (.iaload, 1) := by decide +kernel
theorem dX10_digit_39 : decode cX10_digit 39 = .ok (.iload_n 2, 1) := by decide +kernel
theorem dX10_digit_40 : decode cX10_digit 40 = .ok (.invokestatic 155, 3) := by decide +kernel
theorem dX10_digit_43 : decode cX10_digit 43 = .ok (.ireturn, 1) := by decide +kernel
theorem dX10_top_0 : decode cX10_top 0 = .ok (.aload_n 0, 1) := by decide +kernel
theorem dX10_top_1 : decode cX10_top 1 = .ok (.getfield 10, 3) := by decide +kernel
theorem dX10_top_4 : decode cX10_top 4 = .ok (.iload_n 1, 1) := by decide +kernel
theorem dX10_top_5 : decode cX10_top 5 = .ok (.invokevirtual 160, 3) := by decide +kernel
theorem dX10_top_8 : decode cX10_top 8 = .ok (.ifCond .eq 12, 3) := by decide +kernel
theorem dX10_top_11 : decode cX10_top 11 = .ok (.iload_n 2, 1) := by decide +kernel
theorem dX10_top_12 : decode cX10_top 12 = .ok (.ifCond .lt 8, 3) := by decide +kernel
theorem dX10_top_15 : decode cX10_top 15 = .ok (.iload_n 2, 1) := by decide +kernel
theorem dX10_top_16 : decode cX10_top 16 = .ok (.iconst 3, 1) := by decide +kernel
theorem dX10_top_17 : decode cX10_top 17 = .ok (.if_icmp .le 13, 3) := by decide +kernel
theorem dX10_top_20 : decode cX10_top 20 = .ok (.new 124, 3) := by decide +kernel
theorem dX10_top_23 : decode cX10_top 23 = .ok (.dup, 1) := by decide +kernel
theorem dX10_top_24 : decode cX10_top 24 = .ok (.ldc 163, 2) := by decide +kernel
theorem dX10_top_26 : decode cX10_top 26 = .ok (.invokespecial 128, 3) := by decide +kernel
theorem dX10_top_29 : decode cX10_top 29 = .ok (.athrow, 1) := by decide +kernel
theorem dX10_top_30 : decode cX10_top 30 = .ok (.aload_n 0, 1) := by decide +kernel
theorem dX10_top_31 : decode cX10_top 31 = .ok (.getfield 58, 3) := by decide +kernel
theorem dX10_top_34 : decode cX10_top 34 = .ok (.iload_n 1, 1) := by decide +kernel
theorem dX10_top_35 : decode cX10_top 35 = .ok (.iload_n 2, 1) := by decide +kernel
theorem dX10_top_36 : decode cX10_top 36 = .ok (.invokevirtual 165, 3) := by decide +kernel
theorem dX10_top_39 : decode cX10_top 39 = .ok (.ireturn, 1) := by decide +kernel
theorem dX10_keeper_0 : decode cX10_keeper 0 = .ok (.aload_n 0, 1) := by decide +kernel
theorem dX10_keeper_1 : decode cX10_keeper 1 = .ok (.getfield 10, 3) := by decide +kernel
theorem dX10_keeper_4 : decode cX10_keeper 4 = .ok (.iload_n 1, 1) := by decide +kernel
theorem dX10_keeper_5 : decode cX10_keeper 5 = .ok (.invokevirtual 168, 3) := by decide +kernel
theorem dX10_keeper_8 : decode cX10_keeper 8 = .ok (.ifCond .eq 12, 3) := by decide +kernel
theorem dX10_keeper_11 : decode cX10_keeper 11 = .ok (.iload_n 2, 1) := by decide +kernel
theorem dX10_keeper_12 : decode cX10_keeper 12 = .ok (.ifCond .lt 8, 3) := by decide +kernel
theorem dX10_keeper_15 : decode cX10_keeper 15 = .ok (.iload_n 2, 1) := by decide +kernel
theorem dX10_keeper_16 : decode cX10_keeper 16 = .ok (.iconst 3, 1) := by decide +kernel
theorem dX10_keeper_17 : decode cX10_keeper 17 = .ok (.if_icmp .le 13, 3) := by decide +kernel
theorem dX10_keeper_20 : decode cX10_keeper 20 = .ok (.new 124, 3) := by decide +kernel
theorem dX10_keeper_23 : decode cX10_keeper 23 = .ok (.dup, 1) := by decide +kernel
theorem dX10_keeper_24 : decode cX10_keeper 24 = .ok (.ldc 171, 2) := by decide +kernel
theorem dX10_keeper_26 : decode cX10_keeper 26 = .ok (.invokespecial 128, 3) := by decide +kernel
theorem dX10_keeper_29 : decode cX10_keeper 29 = .ok (.athrow, 1) := by decide +kernel
theorem dX10_keeper_30 : decode cX10_keeper 30 = .ok (.aload_n 0, 1) := by decide +kernel
theorem dX10_keeper_31 : decode cX10_keeper 31 = .ok (.getfield 58, 3) := by decide +kernel
theorem dX10_keeper_34 : decode cX10_keeper 34 = .ok (.iload_n 1, 1) := by decide +kernel
theorem dX10_keeper_35 : decode cX10_keeper 35 = .ok (.iload_n 2, 1) := by decide +kernel
theorem dX10_keeper_36 : decode cX10_keeper 36 = .ok (.invokevirtual 173, 3) := by decide +kernel
theorem dX10_keeper_39 : decode cX10_keeper 39 = .ok (.ireturn, 1) := by decide +kernel
theorem dX10_apart_0 : decode cX10_apart 0 = .ok (.aload_n 0, 1) := by decide +kernel
theorem dX10_apart_1 : decode cX10_apart 1 = .ok (.getfield 10, 3) := by decide +kernel
theorem dX10_apart_4 : decode cX10_apart 4 = .ok (.iload_n 1, 1) := by decide +kernel
theorem dX10_apart_5 : decode cX10_apart 5 = .ok (.invokevirtual 142, 3) := by decide +kernel
theorem dX10_apart_8 : decode cX10_apart 8 = .ok (.ifCond .eq 14, 3) := by decide +kernel
theorem dX10_apart_11 : decode cX10_apart 11 = .ok (.aload_n 0, 1) := by decide +kernel
theorem dX10_apart_12 : decode cX10_apart 12 = .ok (.getfield 10, 3) := by decide +kernel
theorem dX10_apart_15 : decode cX10_apart 15 = .ok (.iload_n 2, 1) := by decide +kernel
theorem dX10_apart_16 : decode cX10_apart 16 = .ok (.invokevirtual 142, 3) := by decide +kernel
theorem dX10_apart_19 : decode cX10_apart 19 = .ok (.ifCond .ne 13, 3) := by decide +kernel
theorem dX10_apart_22 : decode cX10_apart 22 = .ok (.new 124, 3) := by decide +kernel
theorem dX10_apart_25 : decode cX10_apart 25 = .ok (.dup, 1) := by decide +kernel
theorem dX10_apart_26 : decode cX10_apart 26 = .ok (.ldc 176, 2) := by decide +kernel
theorem dX10_apart_28 : decode cX10_apart 28 = .ok (.invokespecial 128, 3) := by decide +kernel
theorem dX10_apart_31 : decode cX10_apart 31 = .ok (.athrow, 1) := by decide +kernel
theorem dX10_apart_32 : decode cX10_apart 32 = .ok (.aload_n 0, 1) := by decide +kernel
theorem dX10_apart_33 : decode cX10_apart 33 = .ok (.getfield 58, 3) := by decide +kernel
theorem dX10_apart_36 : decode cX10_apart 36 = .ok (.iload_n 1, 1) := by decide +kernel
theorem dX10_apart_37 : decode cX10_apart 37 = .ok (.iload_n 2, 1) := by decide +kernel
theorem dX10_apart_38 : decode cX10_apart 38 = .ok (.invokevirtual 178, 3) := by decide +kernel
theorem dX10_apart_41 : decode cX10_apart 41 = .ok (.ireturn, 1) := by decide +kernel
theorem dX10_order_0 : decode cX10_order 0 = .ok (.aload_n 0, 1) := by decide +kernel
theorem dX10_order_1 : decode cX10_order 1 = .ok (.getfield 10, 3) := by decide +kernel
theorem dX10_order_4 : decode cX10_order 4 = .ok (.iload_n 1, 1) := by decide +kernel
theorem dX10_order_5 : decode cX10_order 5 = .ok (.invokevirtual 142, 3) := by decide +kernel
theorem dX10_order_8 : decode cX10_order 8 = .ok (.ifCond .ne 13, 3) := by decide +kernel
theorem dX10_order_11 : decode cX10_order 11 = .ok (.new 124, 3) := by decide +kernel
theorem dX10_order_14 : decode cX10_order 14 = .ok (.dup, 1) := by decide +kernel
theorem dX10_order_15 : decode cX10_order 15 = .ok (.ldc 181, 2) := by decide +kernel
theorem dX10_order_17 : decode cX10_order 17 = .ok (.invokespecial 128, 3) := by decide +kernel
theorem dX10_order_20 : decode cX10_order 20 = .ok (.athrow, 1) := by decide +kernel
theorem dX10_order_21 : decode cX10_order 21 = .ok (.aload_n 0, 1) := by decide +kernel
theorem dX10_order_22 : decode cX10_order 22 = .ok (.getfield 58, 3) := by decide +kernel
theorem dX10_order_25 : decode cX10_order 25 = .ok (.iload_n 1, 1) := by decide +kernel
theorem dX10_order_26 : decode cX10_order 26 = .ok (.invokevirtual 183, 3) := by decide +kernel
theorem dX10_order_29 : decode cX10_order 29 = .ok (.ireturn, 1) := by decide +kernel
theorem dX10_find_0 : decode cX10_find 0 = .ok (.aload_n 0, 1) := by decide +kernel
theorem dX10_find_1 : decode cX10_find 1 = .ok (.getfield 58, 3) := by decide +kernel
theorem dX10_find_4 : decode cX10_find 4 = .ok (.iload_n 1, 1) := by decide +kernel
theorem dX10_find_5 : decode cX10_find 5 = .ok (.invokevirtual 186, 3) := by decide +kernel
theorem dX10_find_8 : decode cX10_find 8 = .ok (.ireturn, 1) := by decide +kernel
theorem dX10_set_0 : decode cX10_set 0 = .ok (.aload_n 0, 1) := by decide +kernel
theorem dX10_set_1 : decode cX10_set 1 = .ok (.getfield 10, 3) := by decide +kernel
theorem dX10_set_4 : decode cX10_set 4 = .ok (.iload_n 1, 1) := by decide +kernel
theorem dX10_set_5 : decode cX10_set 5 = .ok (.invokevirtual 142, 3) := by decide +kernel
theorem dX10_set_8 : decode cX10_set 8 = .ok (.ifCond .ne 13, 3) := by decide +kernel
theorem dX10_set_11 : decode cX10_set 11 = .ok (.new 124, 3) := by decide +kernel
theorem dX10_set_14 : decode cX10_set 14 = .ok (.dup, 1) := by decide +kernel
theorem dX10_set_15 : decode cX10_set 15 = .ok (.ldc 176, 2) := by decide +kernel
theorem dX10_set_17 : decode cX10_set 17 = .ok (.invokespecial 128, 3) := by decide +kernel
theorem dX10_set_20 : decode cX10_set 20 = .ok (.athrow, 1) := by decide +kernel
theorem dX10_set_21 : decode cX10_set 21 = .ok (.iload_n 2, 1) := by decide +kernel
theorem dX10_set_22 : decode cX10_set 22 = .ok (.ifCond .lt 10, 3) := by decide +kernel
theorem dX10_set_25 : decode cX10_set 25 = .ok (.iload_n 2, 1) := by decide +kernel
theorem dX10_set_26 : decode cX10_set 26 = .ok (.sipush 9999, 3) := by decide +kernel
theorem dX10_set_29 : decode cX10_set 29 = .ok (.if_icmp .le 13, 3) := by decide +kernel
theorem dX10_set_32 : decode cX10_set 32 = .ok (.new 91, 3) := by decide +kernel
theorem dX10_set_35 : decode cX10_set 35 = .ok (.dup, 1) := by decide +kernel
theorem dX10_set_36 : decode cX10_set 36 = .ok (.ldc 192, 2) := by decide +kernel
theorem dX10_set_38 : decode cX10_set 38 = .ok (.invokespecial 95, 3) := by decide +kernel
theorem dX10_set_41 : decode cX10_set 41 = .ok (.athrow, 1) := by decide +kernel
theorem dX10_set_42 : decode cX10_set 42 = .ok (.aload_n 0, 1) := by decide +kernel
theorem dX10_set_43 : decode cX10_set 43 = .ok (.getfield 58, 3) := by decide +kernel
theorem dX10_set_46 : decode cX10_set 46 = .ok (.getfield 152, 3) := by decide +kernel
theorem dX10_set_49 : decode cX10_set 49 = .ok (.iload_n 1, 1) := by decide +kernel
theorem dX10_set_50 : decode cX10_set 50 = .ok (.iaload, 1) := by decide +kernel
theorem dX10_set_51 : decode cX10_set 51 = .ok (.istore_n 3, 1) := by decide +kernel
theorem dX10_set_52 : decode cX10_set 52 = .ok (.aload_n 0, 1) := by decide +kernel
theorem dX10_set_53 : decode cX10_set 53 = .ok (.getfield 58, 3) := by decide +kernel
theorem dX10_set_56 : decode cX10_set 56 = .ok (.iload_n 1, 1) := by decide +kernel
theorem dX10_set_57 : decode cX10_set 57 = .ok (.iload_n 2, 1) := by decide +kernel
theorem dX10_set_58 : decode cX10_set 58 = .ok (.invokevirtual 194, 3) := by decide +kernel
theorem dX10_set_61 : decode cX10_set 61 = .ok (.iload_n 3, 1) := by decide +kernel
theorem dX10_set_62 : decode cX10_set 62 = .ok (.ireturn, 1) := by decide +kernel
theorem dX10_rest_0 : decode cX10_rest 0 = .ok (.aload_n 0, 1) := by decide +kernel
theorem dX10_rest_1 : decode cX10_rest 1 = .ok (.getfield 10, 3) := by decide +kernel
theorem dX10_rest_4 : decode cX10_rest 4 = .ok (.iload_n 1, 1) := by decide +kernel
theorem dX10_rest_5 : decode cX10_rest 5 = .ok (.invokevirtual 168, 3) := by decide +kernel
theorem dX10_rest_8 : decode cX10_rest 8 = .ok (.ifCond .ne 13, 3) := by decide +kernel
theorem dX10_rest_11 : decode cX10_rest 11 = .ok (.new 124, 3) := by decide +kernel
theorem dX10_rest_14 : decode cX10_rest 14 = .ok (.dup, 1) := by decide +kernel
theorem dX10_rest_15 : decode cX10_rest 15 = .ok (.ldc 198, 2) := by decide +kernel
theorem dX10_rest_17 : decode cX10_rest 17 = .ok (.invokespecial 128, 3) := by decide +kernel
theorem dX10_rest_20 : decode cX10_rest 20 = .ok (.athrow, 1) := by decide +kernel
theorem dX10_rest_21 : decode cX10_rest 21 = .ok (.aload_n 0, 1) := by decide +kernel
theorem dX10_rest_22 : decode cX10_rest 22 = .ok (.getfield 58, 3) := by decide +kernel
theorem dX10_rest_25 : decode cX10_rest 25 = .ok (.getfield 200, 3) := by decide +kernel
theorem dX10_rest_28 : decode cX10_rest 28 = .ok (.iload_n 1, 1) := by decide +kernel
theorem dX10_rest_29 : decode cX10_rest 29 = .ok (.iaload, 1) := by decide +kernel
theorem dX10_rest_30 : decode cX10_rest 30 = .ok (.istore_n 2, 1) := by decide +kernel
theorem dX10_rest_31 : decode cX10_rest 31 = .ok (.aload_n 0, 1) := by decide +kernel
theorem dX10_rest_32 : decode cX10_rest 32 = .ok (.getfield 58, 3) := by decide +kernel
theorem dX10_rest_35 : decode cX10_rest 35 = .ok (.getfield 200, 3) := by decide +kernel
theorem dX10_rest_38 : decode cX10_rest 38 = .ok (.iload_n 1, 1) := by decide +kernel
theorem dX10_rest_39 : decode cX10_rest 39 = .ok (.iconst 0, 1) := by decide +kernel
theorem dX10_rest_40 : decode cX10_rest 40 = .ok (.iastore, 1) := by decide +kernel
theorem dX10_rest_41 : decode cX10_rest 41 = .ok (.iload_n 2, 1) := by decide +kernel
theorem dX10_rest_42 : decode cX10_rest 42 = .ok (.ireturn, 1) := by decide +kernel
theorem dX10_dye_0 : decode cX10_dye 0 = .ok (.aload_n 0, 1) := by decide +kernel
theorem dX10_dye_1 : decode cX10_dye 1 = .ok (.getfield 10, 3) := by decide +kernel
theorem dX10_dye_4 : decode cX10_dye 4 = .ok (.iload_n 1, 1) := by decide +kernel
theorem dX10_dye_5 : decode cX10_dye 5 = .ok (.invokevirtual 142, 3) := by decide +kernel
theorem dX10_dye_8 : decode cX10_dye 8 = .ok (.ifCond .eq 14, 3) := by decide +kernel
theorem dX10_dye_11 : decode cX10_dye 11 = .ok (.aload_n 0, 1) := by decide +kernel
theorem dX10_dye_12 : decode cX10_dye 12 = .ok (.getfield 10, 3) := by decide +kernel
theorem dX10_dye_15 : decode cX10_dye 15 = .ok (.iload_n 2, 1) := by decide +kernel
theorem dX10_dye_16 : decode cX10_dye 16 = .ok (.invokevirtual 132, 3) := by decide +kernel
theorem dX10_dye_19 : decode cX10_dye 19 = .ok (.ifCond .ne 13, 3) := by decide +kernel
theorem dX10_dye_22 : decode cX10_dye 22 = .ok (.new 124, 3) := by decide +kernel
theorem dX10_dye_25 : decode cX10_dye 25 = .ok (.dup, 1) := by decide +kernel
theorem dX10_dye_26 : decode cX10_dye 26 = .ok (.ldc 203, 2) := by decide +kernel
theorem dX10_dye_28 : decode cX10_dye 28 = .ok (.invokespecial 128, 3) := by decide +kernel
theorem dX10_dye_31 : decode cX10_dye 31 = .ok (.athrow, 1) := by decide +kernel
theorem dX10_dye_32 : decode cX10_dye 32 = .ok (.aload_n 0, 1) := by decide +kernel
theorem dX10_dye_33 : decode cX10_dye 33 = .ok (.getfield 58, 3) := by decide +kernel
theorem dX10_dye_36 : decode cX10_dye 36 = .ok (.getfield 205, 3) := by decide +kernel
theorem dX10_dye_39 : decode cX10_dye 39 = .ok (.iload_n 1, 1) := by decide +kernel
theorem dX10_dye_40 : decode cX10_dye 40 = .ok (.iaload, 1) := by decide +kernel
theorem dX10_dye_41 : decode cX10_dye 41 = .ok (.istore_n 3, 1) := by decide +kernel
theorem dX10_dye_42 : decode cX10_dye 42 = .ok (.aload_n 0, 1) := by decide +kernel
theorem dX10_dye_43 : decode cX10_dye 43 = .ok (.getfield 58, 3) := by decide +kernel
theorem dX10_dye_46 : decode cX10_dye 46 = .ok (.getfield 205, 3) := by decide +kernel
theorem dX10_dye_49 : decode cX10_dye 49 = .ok (.iload_n 1, 1) := by decide +kernel
theorem dX10_dye_50 : decode cX10_dye 50 = .ok (.iload_n 2, 1) := by decide +kernel
theorem dX10_dye_51 : decode cX10_dye 51 = .ok (.iastore, 1) := by decide +kernel
theorem dX10_dye_52 : decode cX10_dye 52 = .ok (.iload_n 3, 1) := by decide +kernel
theorem dX10_dye_53 : decode cX10_dye 53 = .ok (.ireturn, 1) := by decide +kernel
theorem dX10_hang_0 : decode cX10_hang 0 = .ok (.aload_n 0, 1) := by decide +kernel
theorem dX10_hang_1 : decode cX10_hang 1 = .ok (.getfield 10, 3) := by decide +kernel
theorem dX10_hang_4 : decode cX10_hang 4 = .ok (.iload_n 1, 1) := by decide +kernel
theorem dX10_hang_5 : decode cX10_hang 5 = .ok (.invokevirtual 142, 3) := by decide +kernel
theorem dX10_hang_8 : decode cX10_hang 8 = .ok (.ifCond .eq 19, 3) := by decide +kernel
theorem dX10_hang_11 : decode cX10_hang 11 = .ok (.iload_n 2, 1) := by decide +kernel
theorem dX10_hang_12 : decode cX10_hang 12 = .ok (.iconst (-1), 1) := by decide +kernel
theorem dX10_hang_13 : decode cX10_hang 13 = .ok (.if_icmp .eq 24, 3) := by decide +kernel
theorem dX10_hang_16 : decode cX10_hang 16 = .ok (.aload_n 0, 1) := by decide +kernel
theorem dX10_hang_17 : decode cX10_hang 17 = .ok (.getfield 10, 3) := by decide +kernel
theorem dX10_hang_20 : decode cX10_hang 20 = .ok (.iload_n 2, 1) := by decide +kernel
theorem dX10_hang_21 : decode cX10_hang 21 = .ok (.invokevirtual 142, 3) := by decide +kernel
theorem dX10_hang_24 : decode cX10_hang 24 = .ok (.ifCond .ne 13, 3) := by decide +kernel
theorem dX10_hang_27 : decode cX10_hang 27 = .ok (.new 124, 3) := by decide +kernel
theorem dX10_hang_30 : decode cX10_hang 30 = .ok (.dup, 1) := by decide +kernel
theorem dX10_hang_31 : decode cX10_hang 31 = .ok (.ldc 176, 2) := by decide +kernel
theorem dX10_hang_33 : decode cX10_hang 33 = .ok (.invokespecial 128, 3) := by decide +kernel
theorem dX10_hang_36 : decode cX10_hang 36 = .ok (.athrow, 1) := by decide +kernel
theorem dX10_hang_37 : decode cX10_hang 37 = .ok (.aload_n 0, 1) := by decide +kernel
theorem dX10_hang_38 : decode cX10_hang 38 = .ok (.getfield 58, 3) := by decide +kernel
theorem dX10_hang_41 : decode cX10_hang 41 = .ok (.iload_n 2, 1) := by decide +kernel
theorem dX10_hang_42 : decode cX10_hang 42 = .ok (.iload_n 1, 1) := by decide +kernel
theorem dX10_hang_43 : decode cX10_hang 43 = .ok (.invokevirtual 208, 3) := by decide +kernel
theorem dX10_hang_46 : decode cX10_hang 46 = .ok (.ifCond .eq 13, 3) := by decide +kernel
theorem dX10_hang_49 : decode cX10_hang 49 = .ok (.new 80, 3) := by decide +kernel
theorem dX10_hang_52 : decode cX10_hang 52 = .ok (.dup, 1) := by decide +kernel
theorem dX10_hang_53 : decode cX10_hang 53 = .ok (.ldc 212, 2) := by decide +kernel
theorem dX10_hang_55 : decode cX10_hang 55 = .ok (.invokespecial 84, 3) := by decide +kernel
theorem dX10_hang_58 : decode cX10_hang 58 = .ok (.athrow, 1) := by decide +kernel
theorem dX10_hang_59 : decode cX10_hang 59 = .ok (.aload_n 0, 1) := by decide +kernel
theorem dX10_hang_60 : decode cX10_hang 60 = .ok (.getfield 58, 3) := by decide +kernel
theorem dX10_hang_63 : decode cX10_hang 63 = .ok (.iload_n 2, 1) := by decide +kernel
theorem dX10_hang_64 : decode cX10_hang 64 = .ok (.invokevirtual 214, 3) := by decide +kernel
theorem dX10_hang_67 : decode cX10_hang 67 = .ok (.aload_n 0, 1) := by decide +kernel
theorem dX10_hang_68 : decode cX10_hang 68 = .ok (.getfield 58, 3) := by decide +kernel
theorem dX10_hang_71 : decode cX10_hang 71 = .ok (.iload_n 1, 1) := by decide +kernel
theorem dX10_hang_72 : decode cX10_hang 72 = .ok (.invokevirtual 217, 3) := by decide +kernel
theorem dX10_hang_75 : decode cX10_hang 75 = .ok (.iadd, 1) := by decide +kernel
theorem dX10_hang_76 : decode cX10_hang 76 = .ok (.iconst 4, 1) := by decide +kernel
theorem dX10_hang_77 : decode cX10_hang 77 = .ok (.if_icmp .le 13, 3) := by decide +kernel
theorem dX10_hang_80 : decode cX10_hang 80 = .ok (.new 80, 3) := by decide +kernel
theorem dX10_hang_83 : decode cX10_hang 83 = .ok (.dup, 1) := by decide +kernel
theorem dX10_hang_84 : decode cX10_hang 84 = .ok (.ldc 220, 2) := by decide +kernel
theorem dX10_hang_86 : decode cX10_hang 86 = .ok (.invokespecial 84, 3) := by decide +kernel
theorem dX10_hang_89 : decode cX10_hang 89 = .ok (.athrow, 1) := by decide +kernel
theorem dX10_hang_90 : decode cX10_hang 90 = .ok (.aload_n 0, 1) := by decide +kernel
theorem dX10_hang_91 : decode cX10_hang 91 = .ok (.getfield 58, 3) := by decide +kernel
theorem dX10_hang_94 : decode cX10_hang 94 = .ok (.iload_n 1, 1) := by decide +kernel
theorem dX10_hang_95 : decode cX10_hang 95 = .ok (.iload_n 2, 1) := by decide +kernel
theorem dX10_hang_96 : decode cX10_hang 96 = .ok (.invokevirtual 222, 3) := by decide +kernel
theorem dX10_hang_99 : decode cX10_hang 99 = .ok (.aload_n 0, 1) := by decide +kernel
theorem dX10_hang_100 : decode cX10_hang 100 = .ok (.getfield 58, 3) := by decide +kernel
theorem dX10_hang_103 : decode cX10_hang 103 = .ok (.iload_n 1, 1) := by decide +kernel
theorem dX10_hang_104 : decode cX10_hang 104 = .ok (.invokevirtual 214, 3) := by decide +kernel
theorem dX10_hang_107 : decode cX10_hang 107 = .ok (.ireturn, 1) := by decide +kernel
theorem dX10_pass_0 : decode cX10_pass 0 = .ok (.iload_n 1, 1) := by decide +kernel
theorem dX10_pass_1 : decode cX10_pass 1 = .ok (.iconst 1, 1) := by decide +kernel
theorem dX10_pass_2 : decode cX10_pass 2 = .ok (.if_icmp .lt 9, 3) := by decide +kernel
theorem dX10_pass_5 : decode cX10_pass 5 = .ok (.iload_n 1, 1) := by decide +kernel
theorem dX10_pass_6 : decode cX10_pass 6 = .ok (.bipush 120, 2) := by decide +kernel
theorem dX10_pass_8 : decode cX10_pass 8 = .ok (.if_icmp .le 13, 3) := by decide +kernel
theorem dX10_pass_11 : decode cX10_pass 11 = .ok (.new 91, 3) := by decide +kernel
theorem dX10_pass_14 : decode cX10_pass 14 = .ok (.dup, 1) := by decide +kernel
theorem dX10_pass_15 : decode cX10_pass 15 = .ok (.ldc 225, 2) := by decide +kernel
theorem dX10_pass_17 : decode cX10_pass 17 = .ok (.invokespecial 95, 3) := by decide +kernel
theorem dX10_pass_20 : decode cX10_pass 20 = .ok (.athrow, 1) := by decide +kernel
theorem dX10_pass_21 : decode cX10_pass 21 = .ok (.aload_n 0, 1) := by decide +kernel
theorem dX10_pass_22 : decode cX10_pass 22 = .ok (.getfield 58, 3) := by decide +kernel
theorem dX10_pass_25 : decode cX10_pass 25 = .ok (.getfield 227, 3) := by decide +kernel
theorem dX10_pass_28 : decode cX10_pass 28 = .ok (.istore_n 2, 1) := by decide +kernel
theorem dX10_pass_29 : decode cX10_pass 29 = .ok (.aload_n 0, 1) := by decide +kernel
theorem dX10_pass_30 : decode cX10_pass 30 = .ok (.getfield 68, 3) := by decide +kernel
theorem dX10_pass_33 : decode cX10_pass 33 = .ok (.aload_n 0, 1) := by decide +kernel
theorem dX10_pass_34 : decode cX10_pass 34 = .ok (.getfield 58, 3) := by decide +kernel
theorem dX10_pass_37 : decode cX10_pass 37 = .ok (.iload_n 1, 1) := by decide +kernel
theorem dX10_pass_38 : decode cX10_pass 38 = .ok (.invokevirtual 230, 3) := by decide +kernel
theorem dX10_pass_41 : decode cX10_pass 41 = .ok (.aload_n 0, 1) := by decide +kernel
theorem dX10_pass_42 : decode cX10_pass 42 = .ok (.getfield 58, 3) := by decide +kernel
theorem dX10_pass_45 : decode cX10_pass 45 = .ok (.getfield 227, 3) := by decide +kernel
theorem dX10_pass_48 : decode cX10_pass 48 = .ok (.iload_n 2, 1) := by decide +kernel
theorem dX10_pass_49 : decode cX10_pass 49 = .ok (.isub, 1) := by decide +kernel
theorem dX10_pass_50 : decode cX10_pass 50 = .ok (.ireturn, 1) := by decide +kernel
theorem dX10_until_0 : decode cX10_until 0 = .ok (.aload_n 0, 1) := by decide +kernel
theorem dX10_until_1 : decode cX10_until 1 = .ok (.getfield 10, 3) := by decide +kernel
theorem dX10_until_4 : decode cX10_until 4 = .ok (.iload_n 1, 1) := by decide +kernel
theorem dX10_until_5 : decode cX10_until 5 = .ok (.invokevirtual 160, 3) := by decide +kernel
theorem dX10_until_8 : decode cX10_until 8 = .ok (.ifCond .ne 13, 3) := by decide +kernel
theorem dX10_until_11 : decode cX10_until 11 = .ok (.new 124, 3) := by decide +kernel
theorem dX10_until_14 : decode cX10_until 14 = .ok (.dup, 1) := by decide +kernel
theorem dX10_until_15 : decode cX10_until 15 = .ok (.ldc 234, 2) := by decide +kernel
theorem dX10_until_17 : decode cX10_until 17 = .ok (.invokespecial 128, 3) := by decide +kernel
theorem dX10_until_20 : decode cX10_until 20 = .ok (.athrow, 1) := by decide +kernel
theorem dX10_until_21 : decode cX10_until 21 = .ok (.aload_n 0, 1) := by decide +kernel
theorem dX10_until_22 : decode cX10_until 22 = .ok (.getfield 62, 3) := by decide +kernel
theorem dX10_until_25 : decode cX10_until 25 = .ok (.aload_n 0, 1) := by decide +kernel
theorem dX10_until_26 : decode cX10_until 26 = .ok (.getfield 58, 3) := by decide +kernel
theorem dX10_until_29 : decode cX10_until 29 = .ok (.invokevirtual 236, 3) := by decide +kernel
theorem dX10_until_32 : decode cX10_until 32 = .ok (.iconst 0, 1) := by decide +kernel
theorem dX10_until_33 : decode cX10_until 33 = .ok (.istore_n 2, 1) := by decide +kernel
theorem dX10_until_34 : decode cX10_until 34 = .ok (.iload_n 2, 1) := by decide +kernel
theorem dX10_until_35 : decode cX10_until 35 = .ok (.sipush 150, 3) := by decide +kernel
theorem dX10_until_38 : decode cX10_until 38 = .ok (.if_icmp .ge 34, 3) := by decide +kernel
theorem dX10_until_41 : decode cX10_until 41 = .ok (.aload_n 0, 1) := by decide +kernel
theorem dX10_until_42 : decode cX10_until 42 = .ok (.getfield 62, 3) := by decide +kernel
theorem dX10_until_45 : decode cX10_until 45 = .ok (.iload_n 1, 1) := by decide +kernel
theorem dX10_until_46 : decode cX10_until 46 = .ok (.invokevirtual 240, 3) := by decide +kernel
theorem dX10_until_49 : decode cX10_until 49 = .ok (.ifCond .eq 5, 3) := by decide +kernel
theorem dX10_until_52 : decode cX10_until 52 = .ok (.iload_n 2, 1) := by decide +kernel
theorem dX10_until_53 : decode cX10_until 53 = .ok (.ireturn, 1) := by decide +kernel
theorem dX10_until_54 : decode cX10_until 54 = .ok (.aload_n 0, 1) := by decide +kernel
theorem dX10_until_55 : decode cX10_until 55 = .ok (.getfield 68, 3) := by decide +kernel
theorem dX10_until_58 : decode cX10_until 58 = .ok (.aload_n 0, 1) := by decide +kernel
theorem dX10_until_59 : decode cX10_until 59 = .ok (.getfield 62, 3) := by decide +kernel
theorem dX10_until_62 : decode cX10_until 62 = .ok (.iconst 1, 1) := by decide +kernel
theorem dX10_until_63 : decode cX10_until 63 = .ok (.invokevirtual 230, 3) := by decide +kernel
theorem dX10_until_66 : decode cX10_until 66 = .ok (.iinc 2 1, 3) := by decide +kernel
theorem dX10_until_69 : decode cX10_until 69 = .ok (.goto (-35), 3) := by decide +kernel
theorem dX10_until_72 : decode cX10_until 72 = .ok (.aload_n 0, 1) := by decide +kernel
theorem dX10_until_73 : decode cX10_until 73 = .ok (.getfield 62, 3) := by decide +kernel
theorem dX10_until_76 : decode cX10_until 76 = .ok (.iload_n 1, 1) := by decide +kernel
theorem dX10_until_77 : decode cX10_until 77 = .ok (.invokevirtual 240, 3) := by decide +kernel
theorem dX10_until_80 : decode cX10_until 80 = .ok (.ifCond .eq 9, 3) := by decide +kernel
theorem dX10_until_83 : decode cX10_until 83 = .ok (.sipush 150, 3) := by decide +kernel
theorem dX10_until_86 : decode cX10_until 86 = .ok (.goto 4, 3) := by decide +kernel
theorem dX10_until_89 : decode cX10_until 89 = .ok (.iconst (-1), 1) := by decide +kernel
theorem dX10_until_90 : decode cX10_until 90 = .ok (.ireturn, 1) := by decide +kernel
theorem dX10_foresee_0 : decode cX10_foresee 0 = .ok (.iload_n 1, 1) := by decide +kernel
theorem dX10_foresee_1 : decode cX10_foresee 1 = .ok (.iconst 1, 1) := by decide +kernel
theorem dX10_foresee_2 : decode cX10_foresee 2 = .ok (.if_icmp .lt 9, 3) := by decide +kernel
theorem dX10_foresee_5 : decode cX10_foresee 5 = .ok (.iload_n 1, 1) := by decide +kernel
theorem dX10_foresee_6 : decode cX10_foresee 6 = .ok (.bipush 120, 2) := by decide +kernel
theorem dX10_foresee_8 : decode cX10_foresee 8 = .ok (.if_icmp .le 13, 3) := by decide +kernel
theorem dX10_foresee_11 : decode cX10_foresee 11 = .ok (.new 91, 3) := by decide +kernel
theorem dX10_foresee_14 : decode cX10_foresee 14 = .ok (.dup, 1) := by decide +kernel
theorem dX10_foresee_15 : decode cX10_foresee 15 = .ok (.ldc 225, 2) := by decide +kernel
theorem dX10_foresee_17 : decode cX10_foresee 17 = .ok (.invokespecial 95, 3) := by decide +kernel
theorem dX10_foresee_20 : decode cX10_foresee 20 = .ok (.athrow, 1) := by decide +kernel
theorem dX10_foresee_21 : decode cX10_foresee 21 = .ok (.iload_n 2, 1) := by decide +kernel
theorem dX10_foresee_22 : decode cX10_foresee 22 = .ok (.bipush 6, 2) := by decide +kernel
theorem dX10_foresee_24 : decode cX10_foresee 24 = .ok (.if_icmp .lt 9, 3) := by decide +kernel
theorem dX10_foresee_27 : decode cX10_foresee 27 = .ok (.iload_n 2, 1) := by decide +kernel
theorem dX10_foresee_28 : decode cX10_foresee 28 = .ok (.bipush 11, 2) := by decide +kernel
theorem dX10_foresee_30 : decode cX10_foresee 30 = .ok (.if_icmp .le 13, 3) := by decide +kernel
theorem dX10_foresee_33 : decode cX10_foresee 33 = .ok (.new 124, 3) := by decide +kernel
theorem dX10_foresee_36 : decode cX10_foresee 36 = .ok (.dup, 1) := by decide +kernel
theorem dX10_foresee_37 : decode cX10_foresee 37 = .ok (.ldc 126, 2) := by decide +kernel
theorem dX10_foresee_39 : decode cX10_foresee 39 = .ok (.invokespecial 128, 3) := by decide +kernel
theorem dX10_foresee_42 : decode cX10_foresee 42 = .ok (.athrow, 1) := by decide +kernel
theorem dX10_foresee_43 : decode cX10_foresee 43 = .ok (.aload_n 0, 1) := by decide +kernel
theorem dX10_foresee_44 : decode cX10_foresee 44 = .ok (.getfield 62, 3) := by decide +kernel
theorem dX10_foresee_47 : decode cX10_foresee 47 = .ok (.aload_n 0, 1) := by decide +kernel
theorem dX10_foresee_48 : decode cX10_foresee 48 = .ok (.getfield 58, 3) := by decide +kernel
theorem dX10_foresee_51 : decode cX10_foresee 51 = .ok (.invokevirtual 236, 3) := by decide +kernel
theorem dX10_foresee_54 : decode cX10_foresee 54 = .ok (.aload_n 0, 1) := by decide +kernel
theorem dX10_foresee_55 : decode cX10_foresee 55 = .ok (.getfield 68, 3) := by decide +kernel
theorem dX10_foresee_58 : decode cX10_foresee 58 = .ok (.aload_n 0, 1) := by decide +kernel
theorem dX10_foresee_59 : decode cX10_foresee 59 = .ok (.getfield 62, 3) := by decide +kernel
theorem dX10_foresee_62 : decode cX10_foresee 62 = .ok (.iload_n 1, 1) := by decide +kernel
theorem dX10_foresee_63 : decode cX10_foresee 63 = .ok (.invokevirtual 230, 3) := by decide +kernel
theorem dX10_foresee_66 : decode cX10_foresee 66 = .ok (.aload_n 0, 1) := by decide +kernel
theorem dX10_foresee_67 : decode cX10_foresee 67 = .ok (.getfield 62, 3) := by decide +kernel
theorem dX10_foresee_70 : decode cX10_foresee 70 = .ok (.iload_n 2, 1) := by decide +kernel
theorem dX10_foresee_71 : decode cX10_foresee 71 = .ok (.invokevirtual 129, 3) := by decide +kernel
theorem dX10_foresee_74 : decode cX10_foresee 74 = .ok (.ireturn, 1) := by decide +kernel
theorem dX10_advise_0 : decode cX10_advise 0 = .ok (.iload_n 1, 1) := by decide +kernel
theorem dX10_advise_1 : decode cX10_advise 1 = .ok (.iconst 1, 1) := by decide +kernel
theorem dX10_advise_2 : decode cX10_advise 2 = .ok (.if_icmp .lt 9, 3) := by decide +kernel
theorem dX10_advise_5 : decode cX10_advise 5 = .ok (.iload_n 1, 1) := by decide +kernel
theorem dX10_advise_6 : decode cX10_advise 6 = .ok (.bipush 90, 2) := by decide +kernel
theorem dX10_advise_8 : decode cX10_advise 8 = .ok (.if_icmp .le 13, 3) := by decide +kernel
theorem dX10_advise_11 : decode cX10_advise 11 = .ok (.new 91, 3) := by decide +kernel
theorem dX10_advise_14 : decode cX10_advise 14 = .ok (.dup, 1) := by decide +kernel
theorem dX10_advise_15 : decode cX10_advise 15 = .ok (.ldc 225, 2) := by decide +kernel
theorem dX10_advise_17 : decode cX10_advise 17 = .ok (.invokespecial 95, 3) := by decide +kernel
theorem dX10_advise_20 : decode cX10_advise 20 = .ok (.athrow, 1) := by decide +kernel
theorem dX10_advise_21 : decode cX10_advise 21 = .ok (.iconst (-1), 1) := by decide +kernel
theorem dX10_advise_22 : decode cX10_advise 22 = .ok (.istore_n 2, 1) := by decide +kernel
theorem dX10_advise_23 : decode cX10_advise 23 = .ok (.aload_n 0, 1) := by decide +kernel
theorem dX10_advise_24 : decode cX10_advise 24 = .ok (.iload_n 1, 1) := by decide +kernel
theorem dX10_advise_25 : decode cX10_advise 25 = .ok (.iconst (-1), 1) := by decide +kernel
theorem dX10_advise_26 : decode cX10_advise 26 = .ok (.invokevirtual 243, 3) := by decide +kernel
theorem dX10_advise_29 : decode cX10_advise 29 = .ok (.istore_n 3, 1) := by decide +kernel
theorem dX10_advise_30 : decode cX10_advise 30 = .ok (.iconst 0, 1) := by decide +kernel
theorem dX10_advise_31 : decode cX10_advise 31 = .ok (.istore 4, 2) := by decide +kernel
theorem dX10_advise_33 : decode cX10_advise 33 = .ok (.iload 4, 2) := by decide +kernel
theorem dX10_advise_35 : decode cX10_advise 35 = .ok (.aload_n 0, 1) := by decide +kernel
theorem dX10_advise_36 : decode cX10_advise 36 = .ok (.getfield 10, 3) := by decide +kernel
theorem dX10_advise_39 : decode cX10_advise 39 = .ok (.getfield 246, 3) := by decide +kernel
theorem dX10_advise_42 : decode cX10_advise 42 = .ok (.if_icmp .ge 30, 3) := by decide +kernel
theorem dX10_advise_45 : decode cX10_advise 45 = .ok (.aload_n 0, 1) := by decide +kernel
theorem dX10_advise_46 : decode cX10_advise 46 = .ok (.iload_n 1, 1) := by decide +kernel
theorem dX10_advise_47 : decode cX10_advise 47 = .ok (.iload 4, 2) := by decide +kernel
theorem dX10_advise_49 : decode cX10_advise 49 = .ok (.invokevirtual 243, 3) := by decide +kernel
theorem dX10_advise_52 : decode cX10_advise 52 = .ok (.istore 5, 2) := by decide +kernel
theorem dX10_advise_54 : decode cX10_advise 54 = .ok (.iload 5, 2) := by decide +kernel
theorem dX10_advise_56 : decode cX10_advise 56 = .ok (.iload_n 3, 1) := by decide +kernel
theorem dX10_advise_57 : decode cX10_advise 57 = .ok (.if_icmp .ge 9, 3) := by decide +kernel
theorem dX10_advise_60 : decode cX10_advise 60 = .ok (.iload 5, 2) := by decide +kernel
theorem dX10_advise_62 : decode cX10_advise 62 = .ok (.istore_n 3, 1) := by decide +kernel
theorem dX10_advise_63 : decode cX10_advise 63 = .ok (.iload 4, 2) := by decide +kernel
theorem dX10_advise_65 : decode cX10_advise 65 = .ok (.istore_n 2, 1) := by decide +kernel
theorem dX10_advise_66 : decode cX10_advise 66 = .ok (.iinc 4 1, 3) := by decide +kernel
theorem dX10_advise_69 : decode cX10_advise 69 = .ok (.goto (-36), 3) := by decide +kernel
theorem dX10_advise_72 : decode cX10_advise 72 = .ok (.iload_n 2, 1) := by decide +kernel
theorem dX10_advise_73 : decode cX10_advise 73 = .ok (.ireturn, 1) := by decide +kernel
theorem dX10_digest_0 : decode cX10_digest 0 = .ok (.ldc2_w 255, 3) := by decide +kernel
theorem dX10_digest_3 : decode cX10_digest 3 = .ok (.lstore_n 1, 1) := by decide +kernel
theorem dX10_digest_4 : decode cX10_digest 4 = .ok (.iconst 0, 1) := by decide +kernel
theorem dX10_digest_5 : decode cX10_digest 5 = .ok (.istore_n 3, 1) := by decide +kernel
theorem dX10_digest_6 : decode cX10_digest 6 = .ok (.iload_n 3, 1) := by decide +kernel
theorem dX10_digest_7 : decode cX10_digest 7 = .ok (.bipush 12, 2) := by decide +kernel
theorem dX10_digest_9 : decode cX10_digest 9 = .ok (.if_icmp .ge 25, 3) := by decide +kernel
theorem dX10_digest_12 : decode cX10_digest 12 = .ok (.lload_n 1, 1) := by decide +kernel
theorem dX10_digest_13 : decode cX10_digest 13 = .ok (.ldc2_w 257, 3) := by decide +kernel
theorem dX10_digest_16 : decode cX10_digest 16 = .ok (.lmul, 1) := by decide +kernel
theorem dX10_digest_17 : decode cX10_digest 17 = .ok (.aload_n 0, 1) := by decide +kernel
theorem dX10_digest_18 : decode cX10_digest 18 = .ok (.getfield 58, 3) := by decide +kernel
theorem dX10_digest_21 : decode cX10_digest 21 = .ok (.iload_n 3, 1) := by decide +kernel
theorem dX10_digest_22 : decode cX10_digest 22 = .ok (.invokevirtual 129, 3) := by decide +kernel
theorem dX10_digest_25 : decode cX10_digest 25 = .ok (.i2l, 1) := by decide +kernel
theorem dX10_digest_26 : decode cX10_digest 26 = .ok (.ladd, 1) := by decide +kernel
theorem dX10_digest_27 : decode cX10_digest 27 = .ok (.lstore_n 1, 1) := by decide +kernel
theorem dX10_digest_28 : decode cX10_digest 28 = .ok (.iinc 3 1, 3) := by decide +kernel
theorem dX10_digest_31 : decode cX10_digest 31 = .ok (.goto (-25), 3) := by decide +kernel
theorem dX10_digest_34 : decode cX10_digest 34 = .ok (.lload_n 1, 1) := by decide +kernel
theorem dX10_digest_35 : decode cX10_digest 35 = .ok (.ldc2_w 257, 3) := by decide +kernel
theorem dX10_digest_38 : decode cX10_digest 38 = .ok (.lmul, 1) := by decide +kernel
theorem dX10_digest_39 : decode cX10_digest 39 = .ok (.aload_n 0, 1) := by decide +kernel
theorem dX10_digest_40 : decode cX10_digest 40 = .ok (.getfield 22, 3) := by decide +kernel
theorem dX10_digest_43 : decode cX10_digest 43 = .ok (.invokevirtual 76, 3) := by decide +kernel
theorem dX10_digest_46 : decode cX10_digest 46 = .ok (.i2l, 1) := by decide +kernel
theorem dX10_digest_47 : decode cX10_digest 47 = .ok (.ladd, 1) := by decide +kernel
theorem dX10_digest_48 : decode cX10_digest 48 = .ok (.lstore_n 1, 1) := by decide +kernel
theorem dX10_digest_49 : decode cX10_digest 49 = .ok (.iconst 0, 1) := by decide +kernel
theorem dX10_digest_50 : decode cX10_digest 50 = .ok (.istore_n 3, 1) := by decide +kernel
theorem dX10_digest_51 : decode cX10_digest 51 = .ok (.iload_n 3, 1) := by decide +kernel
theorem dX10_digest_52 : decode cX10_digest 52 = .ok (.aload_n 0, 1) := by decide +kernel
theorem dX10_digest_53 : decode cX10_digest 53 = .ok (.getfield 10, 3) := by decide +kernel
theorem dX10_digest_56 : decode cX10_digest 56 = .ok (.getfield 259, 3) := by decide +kernel
theorem dX10_digest_59 : decode cX10_digest 59 = .ok (.iconst 3, 1) := by decide +kernel
theorem dX10_digest_60 : decode cX10_digest 60 = .ok (.imul, 1) := by decide +kernel
theorem dX10_digest_61 : decode cX10_digest 61 = .ok (.if_icmp .ge 30, 3) := by decide +kernel
theorem dX10_digest_64 : decode cX10_digest 64 = .ok (.lload_n 1, 1) := by decide +kernel
theorem dX10_digest_65 : decode cX10_digest 65 = .ok (.ldc2_w 257, 3) := by decide +kernel
theorem dX10_digest_68 : decode cX10_digest 68 = .ok (.lmul, 1) := by decide +kernel
theorem dX10_digest_69 : decode cX10_digest 69 = .ok (.aload_n 0, 1) := by decide +kernel
theorem dX10_digest_70 : decode cX10_digest 70 = .ok (.getfield 58, 3) := by decide +kernel
theorem dX10_digest_73 : decode cX10_digest 73 = .ok (.iload_n 3, 1) := by decide +kernel
theorem dX10_digest_74 : decode cX10_digest 74 = .ok (.iconst 3, 1) := by decide +kernel
theorem dX10_digest_75 : decode cX10_digest 75 = .ok (.idiv, 1) := by decide +kernel
theorem dX10_digest_76 : decode cX10_digest 76 = .ok (.iload_n 3, 1) := by decide +kernel
theorem dX10_digest_77 : decode cX10_digest 77 = .ok (.iconst 3, 1) := by decide +kernel
theorem dX10_digest_78 : decode cX10_digest 78 = .ok (.irem, 1) := by decide +kernel
theorem dX10_digest_79 : decode cX10_digest 79 = .ok (.invokevirtual 138, 3) := by decide +kernel
theorem dX10_digest_82 : decode cX10_digest 82 = .ok (.i2l, 1) := by decide +kernel
theorem dX10_digest_83 : decode cX10_digest 83 = .ok (.ladd, 1) := by decide +kernel
theorem dX10_digest_84 : decode cX10_digest 84 = .ok (.lstore_n 1, 1) := by decide +kernel
theorem dX10_digest_85 : decode cX10_digest 85 = .ok (.iinc 3 1, 3) := by decide +kernel
theorem dX10_digest_88 : decode cX10_digest 88 = .ok (.goto (-37), 3) := by decide +kernel
theorem dX10_digest_91 : decode cX10_digest 91 = .ok (.iconst 0, 1) := by decide +kernel
theorem dX10_digest_92 : decode cX10_digest 92 = .ok (.istore_n 3, 1) := by decide +kernel
theorem dX10_digest_93 : decode cX10_digest 93 = .ok (.iload_n 3, 1) := by decide +kernel
theorem dX10_digest_94 : decode cX10_digest 94 = .ok (.aload_n 0, 1) := by decide +kernel
theorem dX10_digest_95 : decode cX10_digest 95 = .ok (.getfield 10, 3) := by decide +kernel
theorem dX10_digest_98 : decode cX10_digest 98 = .ok (.getfield 262, 3) := by decide +kernel
theorem dX10_digest_101 : decode cX10_digest 101 = .ok (.bipush 9, 2) := by decide +kernel
theorem dX10_digest_103 : decode cX10_digest 103 = .ok (.imul, 1) := by decide +kernel
theorem dX10_digest_104 : decode cX10_digest 104 = .ok (.if_icmp .ge 32, 3) := by decide +kernel
theorem dX10_digest_107 : decode cX10_digest 107 = .ok (.lload_n 1, 1) := by decide +kernel
theorem dX10_digest_108 : decode cX10_digest 108 = .ok (.ldc2_w 257, 3) := by decide +kernel
theorem dX10_digest_111 : decode cX10_digest 111 = .ok (.lmul, 1) := by decide +kernel
theorem dX10_digest_112 : decode cX10_digest 112 = .ok (.aload_n 0, 1) := by decide +kernel
theorem dX10_digest_113 : decode cX10_digest 113 = .ok (.getfield 58, 3) := by decide +kernel
theorem dX10_digest_116 : decode cX10_digest 116 = .ok (.iload_n 3, 1) := by decide +kernel
theorem dX10_digest_117 : decode cX10_digest 117 = .ok (.bipush 9, 2) := by decide +kernel
theorem dX10_digest_119 : decode cX10_digest 119 = .ok (.idiv, 1) := by decide +kernel
theorem dX10_digest_120 : decode cX10_digest 120 = .ok (.iload_n 3, 1) := by decide +kernel
theorem dX10_digest_121 : decode cX10_digest 121 = .ok (.bipush 9, 2) := by decide +kernel
theorem dX10_digest_123 : decode cX10_digest 123 = .ok (.irem, 1) := by decide +kernel
theorem dX10_digest_124 : decode cX10_digest 124 = .ok (.invokevirtual 147, 3) := by decide +kernel
theorem dX10_digest_127 : decode cX10_digest 127 = .ok (.i2l, 1) := by decide +kernel
theorem dX10_digest_128 : decode cX10_digest 128 = .ok (.ladd, 1) := by decide +kernel
theorem dX10_digest_129 : decode cX10_digest 129 = .ok (.lstore_n 1, 1) := by decide +kernel
theorem dX10_digest_130 : decode cX10_digest 130 = .ok (.iinc 3 1, 3) := by decide +kernel
theorem dX10_digest_133 : decode cX10_digest 133 = .ok (.goto (-40), 3) := by decide +kernel
theorem dX10_digest_136 : decode cX10_digest 136 = .ok (.iconst 0, 1) := by decide +kernel
theorem dX10_digest_137 : decode cX10_digest 137 = .ok (.istore_n 3, 1) := by decide +kernel
theorem dX10_digest_138 : decode cX10_digest 138 = .ok (.iload_n 3, 1) := by decide +kernel
theorem dX10_digest_139 : decode cX10_digest 139 = .ok (.aload_n 0, 1) := by decide +kernel
theorem dX10_digest_140 : decode cX10_digest 140 = .ok (.getfield 10, 3) := by decide +kernel
theorem dX10_digest_143 : decode cX10_digest 143 = .ok (.getfield 265, 3) := by decide +kernel
theorem dX10_digest_146 : decode cX10_digest 146 = .ok (.iconst 4, 1) := by decide +kernel
theorem dX10_digest_147 : decode cX10_digest 147 = .ok (.imul, 1) := by decide +kernel
theorem dX10_digest_148 : decode cX10_digest 148 = .ok (.if_icmp .ge 30, 3) := by decide +kernel
theorem dX10_digest_151 : decode cX10_digest 151 = .ok (.lload_n 1, 1) := by decide +kernel
theorem dX10_digest_152 : decode cX10_digest 152 = .ok (.ldc2_w 257, 3) := by decide +kernel
theorem dX10_digest_155 : decode cX10_digest 155 = .ok (.lmul, 1) := by decide +kernel
theorem dX10_digest_156 : decode cX10_digest 156 = .ok (.aload_n 0, 1) := by decide +kernel
theorem dX10_digest_157 : decode cX10_digest 157 = .ok (.getfield 58, 3) := by decide +kernel
theorem dX10_digest_160 : decode cX10_digest 160 = .ok (.iload_n 3, 1) := by decide +kernel
theorem dX10_digest_161 : decode cX10_digest 161 = .ok (.iconst 4, 1) := by decide +kernel
theorem dX10_digest_162 : decode cX10_digest 162 = .ok (.idiv, 1) := by decide +kernel
theorem dX10_digest_163 : decode cX10_digest 163 = .ok (.iload_n 3, 1) := by decide +kernel
theorem dX10_digest_164 : decode cX10_digest 164 = .ok (.iconst 4, 1) := by decide +kernel
theorem dX10_digest_165 : decode cX10_digest 165 = .ok (.irem, 1) := by decide +kernel
theorem dX10_digest_166 : decode cX10_digest 166 = .ok (.invokevirtual 165, 3) := by decide +kernel
theorem dX10_digest_169 : decode cX10_digest 169 = .ok (.i2l, 1) := by decide +kernel
theorem dX10_digest_170 : decode cX10_digest 170 = .ok (.ladd, 1) := by decide +kernel
theorem dX10_digest_171 : decode cX10_digest 171 = .ok (.lstore_n 1, 1) := by decide +kernel
theorem dX10_digest_172 : decode cX10_digest 172 = .ok (.iinc 3 1, 3) := by decide +kernel
theorem dX10_digest_175 : decode cX10_digest 175 = .ok (.goto (-37), 3) := by decide +kernel
theorem dX10_digest_178 : decode cX10_digest 178 = .ok (.iconst 0, 1) := by decide +kernel
theorem dX10_digest_179 : decode cX10_digest 179 = .ok (.istore_n 3, 1) := by decide +kernel
theorem dX10_digest_180 : decode cX10_digest 180 = .ok (.iload_n 3, 1) := by decide +kernel
theorem dX10_digest_181 : decode cX10_digest 181 = .ok (.aload_n 0, 1) := by decide +kernel
theorem dX10_digest_182 : decode cX10_digest 182 = .ok (.getfield 10, 3) := by decide +kernel
theorem dX10_digest_185 : decode cX10_digest 185 = .ok (.getfield 246, 3) := by decide +kernel
theorem dX10_digest_188 : decode cX10_digest 188 = .ok (.iconst 4, 1) := by decide +kernel
theorem dX10_digest_189 : decode cX10_digest 189 = .ok (.imul, 1) := by decide +kernel
theorem dX10_digest_190 : decode cX10_digest 190 = .ok (.if_icmp .ge 30, 3) := by decide +kernel
theorem dX10_digest_193 : decode cX10_digest 193 = .ok (.lload_n 1, 1) := by decide +kernel
theorem dX10_digest_194 : decode cX10_digest 194 = .ok (.ldc2_w 257, 3) := by decide +kernel
theorem dX10_digest_197 : decode cX10_digest 197 = .ok (.lmul, 1) := by decide +kernel
theorem dX10_digest_198 : decode cX10_digest 198 = .ok (.aload_n 0, 1) := by decide +kernel
theorem dX10_digest_199 : decode cX10_digest 199 = .ok (.getfield 58, 3) := by decide +kernel
theorem dX10_digest_202 : decode cX10_digest 202 = .ok (.iload_n 3, 1) := by decide +kernel
theorem dX10_digest_203 : decode cX10_digest 203 = .ok (.iconst 4, 1) := by decide +kernel
theorem dX10_digest_204 : decode cX10_digest 204 = .ok (.idiv, 1) := by decide +kernel
theorem dX10_digest_205 : decode cX10_digest 205 = .ok (.iload_n 3, 1) := by decide +kernel
theorem dX10_digest_206 : decode cX10_digest 206 = .ok (.iconst 4, 1) := by decide +kernel
theorem dX10_digest_207 : decode cX10_digest 207 = .ok (.irem, 1) := by decide +kernel
theorem dX10_digest_208 : decode cX10_digest 208 = .ok (.invokevirtual 173, 3) := by decide +kernel
theorem dX10_digest_211 : decode cX10_digest 211 = .ok (.i2l, 1) := by decide +kernel
theorem dX10_digest_212 : decode cX10_digest 212 = .ok (.ladd, 1) := by decide +kernel
theorem dX10_digest_213 : decode cX10_digest 213 = .ok (.lstore_n 1, 1) := by decide +kernel
theorem dX10_digest_214 : decode cX10_digest 214 = .ok (.iinc 3 1, 3) := by decide +kernel
theorem dX10_digest_217 : decode cX10_digest 217 = .ok (.goto (-37), 3) := by decide +kernel
theorem dX10_digest_220 : decode cX10_digest 220 = .ok (.lload_n 1, 1) := by decide +kernel
theorem dX10_digest_221 : decode cX10_digest 221 = .ok (.ldc2_w 257, 3) := by decide +kernel
theorem dX10_digest_224 : decode cX10_digest 224 = .ok (.lmul, 1) := by decide +kernel
theorem dX10_digest_225 : decode cX10_digest 225 = .ok (.aload_n 0, 1) := by decide +kernel
theorem dX10_digest_226 : decode cX10_digest 226 = .ok (.getfield 58, 3) := by decide +kernel
theorem dX10_digest_229 : decode cX10_digest 229 = .ok (.invokevirtual 189, 3) := by decide +kernel
theorem dX10_digest_232 : decode cX10_digest 232 = .ok (.i2l, 1) := by decide +kernel
theorem dX10_digest_233 : decode cX10_digest 233 = .ok (.ladd, 1) := by decide +kernel
theorem dX10_digest_234 : decode cX10_digest 234 = .ok (.lreturn, 1) := by decide +kernel
theorem dX10_wrongBehind_0 : decode cX10_wrongBehind 0 = .ok (.aload_n 0, 1) := by decide +kernel
theorem dX10_wrongBehind_1 : decode cX10_wrongBehind 1 = .ok (.getfield 62, 3) := by decide +kernel
theorem dX10_wrongBehind_4 : decode cX10_wrongBehind 4 = .ok (.aload_n 0, 1) := by decide +kernel
theorem dX10_wrongBehind_5 : decode cX10_wrongBehind 5 = .ok (.getfield 58, 3) := by decide +kernel
theorem dX10_wrongBehind_8 : decode cX10_wrongBehind 8 = .ok (.invokevirtual 236, 3) := by decide +kernel
theorem dX10_wrongBehind_11 : decode cX10_wrongBehind 11 = .ok (.aload_n 0, 1) := by decide +kernel
theorem dX10_wrongBehind_12 : decode cX10_wrongBehind 12 = .ok (.getfield 10, 3) := by decide +kernel
theorem dX10_wrongBehind_15 : decode cX10_wrongBehind 15 = .ok (.iload_n 2, 1) := by decide +kernel
theorem dX10_wrongBehind_16 : decode cX10_wrongBehind 16 = .ok (.invokevirtual 168, 3) := by decide +kernel
theorem dX10_wrongBehind_19 : decode cX10_wrongBehind 19 = .ok (.ifCond .eq 13, 3) := by decide +kernel
theorem dX10_wrongBehind_22 : decode cX10_wrongBehind 22 = .ok (.aload_n 0, 1) := by decide +kernel
theorem dX10_wrongBehind_23 : decode cX10_wrongBehind 23 = .ok (.getfield 62, 3) := by decide +kernel
theorem dX10_wrongBehind_26 : decode cX10_wrongBehind 26 = .ok (.getfield 200, 3) := by decide +kernel
theorem dX10_wrongBehind_29 : decode cX10_wrongBehind 29 = .ok (.iload_n 2, 1) := by decide +kernel
theorem dX10_wrongBehind_30 : decode cX10_wrongBehind 30 = .ok (.iconst 0, 1) := by decide +kernel
theorem dX10_wrongBehind_31 : decode cX10_wrongBehind 31 = .ok (.iastore, 1) := by decide +kernel
theorem dX10_wrongBehind_32 : decode cX10_wrongBehind 32 = .ok (.aload_n 0, 1) := by decide +kernel
theorem dX10_wrongBehind_33 : decode cX10_wrongBehind 33 = .ok (.getfield 68, 3) := by decide +kernel
theorem dX10_wrongBehind_36 : decode cX10_wrongBehind 36 = .ok (.aload_n 0, 1) := by decide +kernel
theorem dX10_wrongBehind_37 : decode cX10_wrongBehind 37 = .ok (.getfield 62, 3) := by decide +kernel
theorem dX10_wrongBehind_40 : decode cX10_wrongBehind 40 = .ok (.iload_n 1, 1) := by decide +kernel
theorem dX10_wrongBehind_41 : decode cX10_wrongBehind 41 = .ok (.invokevirtual 230, 3) := by decide +kernel
theorem dX10_wrongBehind_44 : decode cX10_wrongBehind 44 = .ok (.aload_n 0, 1) := by decide +kernel
theorem dX10_wrongBehind_45 : decode cX10_wrongBehind 45 = .ok (.getfield 62, 3) := by decide +kernel
theorem dX10_wrongBehind_48 : decode cX10_wrongBehind 48 = .ok (.invokevirtual 268, 3) := by decide +kernel
theorem dX10_wrongBehind_51 : decode cX10_wrongBehind 51 = .ok (.ireturn, 1) := by decide +kernel
theorem dJ0_init_81219_0 : decode cJ0_init_81219 0 = .ok (.aload_n 0, 1) := by decide +kernel
theorem dJ0_init_81219_1 : decode cJ0_init_81219 1 = .ok (.aload_n 1, 1) := by decide +kernel
theorem dJ0_init_81219_2 : decode cJ0_init_81219 2 = .ok (.aconst_null, 1) := by decide +kernel
theorem dJ0_init_81219_3 : decode cJ0_init_81219 3 = .ok (.invokespecial 489, 3) := by decide +kernel
theorem dJ0_init_81219_6 : decode cJ0_init_81219 6 = .ok (.return_, 1) := by decide +kernel
theorem dJ0_length_8abf5_0 : decode cJ0_length_8abf5 0 = .ok (.aload_n 0, 1) := by decide +kernel
theorem dJ0_length_8abf5_1 : decode cJ0_length_8abf5 1 = .ok (.getfield 9, 3) := by decide +kernel
theorem dJ0_length_8abf5_4 : decode cJ0_length_8abf5 4 = .ok (.arraylength, 1) := by decide +kernel
theorem dJ0_length_8abf5_5 : decode cJ0_length_8abf5 5 = .ok (.aload_n 0, 1) := by decide +kernel
theorem dJ0_length_8abf5_6 : decode cJ0_length_8abf5 6 = .ok (.invokevirtual 335, 3) := by decide +kernel
theorem dJ0_length_8abf5_9 : decode cJ0_length_8abf5 9 = .ok (.ishr, 1) := by decide +kernel
theorem dJ0_length_8abf5_10 : decode cJ0_length_8abf5 10 = .ok (.ireturn, 1) := by decide +kernel
theorem dJ0_charAt_5068e_0 : decode cJ0_charAt_5068e 0 = .ok (.aload_n 0, 1) := by decide +kernel
theorem dJ0_charAt_5068e_1 : decode cJ0_charAt_5068e 1 = .ok (.invokevirtual 492, 3) := by decide +kernel
theorem dJ0_charAt_5068e_4 : decode cJ0_charAt_5068e 4 = .ok (.ifCond .eq 12, 3) := by decide +kernel
theorem dJ0_charAt_5068e_7 : decode cJ0_charAt_5068e 7 = .ok (.aload_n 0, 1) := by decide +kernel
theorem dJ0_charAt_5068e_8 : decode cJ0_charAt_5068e 8 = .ok (.getfield 9, 3) := by decide +kernel
theorem dJ0_charAt_5068e_11 : decode cJ0_charAt_5068e 11 = .ok (.iload_n 1, 1) := by decide +kernel
theorem dJ0_charAt_5068e_12 : decode cJ0_charAt_5068e 12 = .ok (.invokestatic 495, 3) := by decide +kernel
theorem dJ0_charAt_5068e_15 : decode cJ0_charAt_5068e 15 = .ok (.ireturn, 1) := by decide +kernel
theorem dJ0_charAt_5068e_16 : decode cJ0_charAt_5068e 16 = .ok (.aload_n 0, 1) := by decide +kernel
theorem dJ0_charAt_5068e_17 : decode cJ0_charAt_5068e 17 = .ok (.getfield 9, 3) := by decide +kernel
theorem dJ0_charAt_5068e_20 : decode cJ0_charAt_5068e 20 = .ok (.iload_n 1, 1) := by decide +kernel
theorem dJ0_charAt_5068e_21 : decode cJ0_charAt_5068e 21 = .ok (.invokestatic 498, 3) := by decide +kernel
theorem dJ0_charAt_5068e_24 : decode cJ0_charAt_5068e 24 = .ok (.ireturn, 1) := by decide +kernel
theorem dJ0_indexOf_0f7a4_0 : decode cJ0_indexOf_0f7a4 0 = .ok (.aload_n 0, 1) := by decide +kernel
theorem dJ0_indexOf_0f7a4_1 : decode cJ0_indexOf_0f7a4 1 = .ok (.iload_n 1, 1) := by decide +kernel
theorem dJ0_indexOf_0f7a4_2 : decode cJ0_indexOf_0f7a4 2 = .ok (.iconst 0, 1) := by decide +kernel
theorem dJ0_indexOf_0f7a4_3 : decode cJ0_indexOf_0f7a4 3 = .ok (.invokevirtual 633, 3) := by decide +kernel
theorem dJ0_indexOf_0f7a4_6 : decode cJ0_indexOf_0f7a4 6 = .ok (.ireturn, 1) := by decide +kernel
theorem dJ0_indexOf_7cf53_0 : decode cJ0_indexOf_7cf53 0 = .ok (.aload_n 0, 1) := by decide +kernel
theorem dJ0_indexOf_7cf53_1 : decode cJ0_indexOf_7cf53 1 = .ok (.invokevirtual 492, 3) := by decide +kernel
theorem dJ0_indexOf_7cf53_4 : decode cJ0_indexOf_7cf53 4 = .ok (.ifCond .eq 19, 3) := by decide +kernel
theorem dJ0_indexOf_7cf53_7 : decode cJ0_indexOf_7cf53 7 = .ok (.aload_n 0, 1) := by decide +kernel
theorem dJ0_indexOf_7cf53_8 : decode cJ0_indexOf_7cf53 8 = .ok (.getfield 9, 3) := by decide +kernel
theorem dJ0_indexOf_7cf53_11 : decode cJ0_indexOf_7cf53 11 = .ok (.iload_n 1, 1) := by decide +kernel
theorem dJ0_indexOf_7cf53_12 : decode cJ0_indexOf_7cf53 12 = .ok (.iload_n 2, 1) := by decide +kernel
theorem dJ0_indexOf_7cf53_13 : decode cJ0_indexOf_7cf53 13 = .ok (.aload_n 0, 1) := by decide +kernel
theorem dJ0_indexOf_7cf53_14 : decode cJ0_indexOf_7cf53 14 = .ok (.invokevirtual 505, 3) := by decide +kernel
theorem dJ0_indexOf_7cf53_17 : decode cJ0_indexOf_7cf53 17 = .ok (.invokestatic 637, 3) := by decide +kernel
theorem dJ0_indexOf_7cf53_20 : decode cJ0_indexOf_7cf53 20 = .ok (.goto 16, 3) := by decide +kernel
theorem dJ0_indexOf_7cf53_23 : decode cJ0_indexOf_7cf53 23 = .ok (.aload_n 0, 1) := by decide +kernel
theorem dJ0_indexOf_7cf53_24 : decode cJ0_indexOf_7cf53 24 = .ok (.getfield 9, 3) := by decide +kernel
theorem dJ0_indexOf_7cf53_27 : decode cJ0_indexOf_7cf53 27 = .ok (.iload_n 1, 1) := by decide +kernel
theorem dJ0_indexOf_7cf53_28 : decode cJ0_indexOf_7cf53 28 = .ok (.iload_n 2, 1) := by decide +kernel
theorem dJ0_indexOf_7cf53_29 : decode cJ0_indexOf_7cf53 29 = .ok (.aload_n 0, 1) := by decide +kernel
theorem dJ0_indexOf_7cf53_30 : decode cJ0_indexOf_7cf53 30 = .ok (.invokevirtual 505, 3) := by decide +kernel
theorem dJ0_indexOf_7cf53_33 : decode cJ0_indexOf_7cf53 33 = .ok (.invokestatic 640, 3) := by decide +kernel
theorem dJ0_indexOf_7cf53_36 : decode cJ0_indexOf_7cf53 36 = .ok (.ireturn, 1) := by decide +kernel
theorem dJ0_substring_37a41_0 : decode cJ0_substring_37a41 0 = .ok (.aload_n 0, 1) := by decide +kernel
theorem dJ0_substring_37a41_1 : decode cJ0_substring_37a41 1 = .ok (.invokevirtual 505, 3) := by decide +kernel
theorem dJ0_substring_37a41_4 : decode cJ0_substring_37a41 4 = .ok (.istore_n 3, 1) := by decide +kernel
theorem dJ0_substring_37a41_5 : decode cJ0_substring_37a41 5 = .ok (.iload_n 1, 1) := by decide +kernel
theorem dJ0_substring_37a41_6 : decode cJ0_substring_37a41 6 = .ok (.iload_n 2, 1) := by decide +kernel
theorem dJ0_substring_37a41_7 : decode cJ0_substring_37a41 7 = .ok (.iload_n 3, 1) := by decide +kernel
theorem dJ0_substring_37a41_8 : decode cJ0_substring_37a41 8 = .ok (.invokestatic 521, 3) := by decide +kernel
theorem dJ0_substring_37a41_11 : decode cJ0_substring_37a41 11 = .ok (.iload_n 1, 1) := by decide +kernel
theorem dJ0_substring_37a41_12 : decode cJ0_substring_37a41 12 = .ok (.ifCond .ne 10, 3) := by decide +kernel
theorem dJ0_substring_37a41_15 : decode cJ0_substring_37a41 15 = .ok (.iload_n 2, 1) := by decide +kernel
theorem dJ0_substring_37a41_16 : decode cJ0_substring_37a41 16 = .ok (.iload_n 3, 1) := by decide +kernel
theorem dJ0_substring_37a41_17 : decode cJ0_substring_37a41 17 = .ok (.if_icmp .ne 5, 3) := by decide +kernel
theorem dJ0_substring_37a41_20 : decode cJ0_substring_37a41 20 = .ok (.aload_n 0, 1) := by decide +kernel
theorem dJ0_substring_37a41_21 : decode cJ0_substring_37a41 21 = .ok (.areturn, 1) := by decide +kernel
theorem dJ0_substring_37a41_22 : decode cJ0_substring_37a41 22 = .ok (.iload_n 2, 1) := by decide +kernel
theorem dJ0_substring_37a41_23 : decode cJ0_substring_37a41 23 = .ok (.iload_n 1, 1) := by decide +kernel
theorem dJ0_substring_37a41_24 : decode cJ0_substring_37a41 24 = .ok (.isub, 1) := by decide +kernel
theorem dJ0_substring_37a41_25 : decode cJ0_substring_37a41 25 = .ok (.istore 4, 2) := by decide +kernel
theorem dJ0_substring_37a41_27 : decode cJ0_substring_37a41 27 = .ok (.aload_n 0, 1) := by decide +kernel
theorem dJ0_substring_37a41_28 : decode cJ0_substring_37a41 28 = .ok (.invokevirtual 492, 3) := by decide +kernel
theorem dJ0_substring_37a41_31 : decode cJ0_substring_37a41 31 = .ok (.ifCond .eq 16, 3) := by decide +kernel
theorem dJ0_substring_37a41_34 : decode cJ0_substring_37a41 34 = .ok (.aload_n 0, 1) := by decide +kernel
theorem dJ0_substring_37a41_35 : decode cJ0_substring_37a41 35 = .ok (.getfield 9, 3) := by decide +kernel
theorem dJ0_substring_37a41_38 : decode cJ0_substring_37a41 38 = .ok (.iload_n 1, 1) := by decide +kernel
theorem dJ0_substring_37a41_39 : decode cJ0_substring_37a41 39 = .ok (.iload 4, 2) := by decide +kernel
theorem dJ0_substring_37a41_41 : decode cJ0_substring_37a41 41 = .ok (.invokestatic 685, 3) := by decide +kernel
theorem dJ0_substring_37a41_44 : decode cJ0_substring_37a41 44 = .ok (.goto 13, 3) := by decide +kernel
theorem dJ0_substring_37a41_47 : decode cJ0_substring_37a41 47 = .ok (.aload_n 0, 1) := by decide +kernel
theorem dJ0_substring_37a41_48 : decode cJ0_substring_37a41 48 = .ok (.getfield 9, 3) := by decide +kernel
theorem dJ0_substring_37a41_51 : decode cJ0_substring_37a41 51 = .ok (.iload_n 1, 1) := by decide +kernel
theorem dJ0_substring_37a41_52 : decode cJ0_substring_37a41 52 = .ok (.iload 4, 2) := by decide +kernel
theorem dJ0_substring_37a41_54 : decode cJ0_substring_37a41 54 = .ok (.invokestatic 689, 3) := by decide +kernel
theorem dJ0_substring_37a41_57 : decode cJ0_substring_37a41 57 = .ok (.areturn, 1) := by decide +kernel
theorem dJ0_getBytes_840e7_0 : decode cJ0_getBytes_840e7 0 = .ok (.aload_n 0, 1) := by decide +kernel
theorem dJ0_getBytes_840e7_1 : decode cJ0_getBytes_840e7 1 = .ok (.invokevirtual 335, 3) := by decide +kernel
theorem dJ0_getBytes_840e7_4 : decode cJ0_getBytes_840e7 4 = .ok (.iload_n 3, 1) := by decide +kernel
theorem dJ0_getBytes_840e7_5 : decode cJ0_getBytes_840e7 5 = .ok (.if_icmp .ne 23, 3) := by decide +kernel
theorem dJ0_getBytes_840e7_8 : decode cJ0_getBytes_840e7 8 = .ok (.aload_n 0, 1) := by decide +kernel
theorem dJ0_getBytes_840e7_9 : decode cJ0_getBytes_840e7 9 = .ok (.getfield 9, 3) := by decide +kernel
theorem dJ0_getBytes_840e7_12 : decode cJ0_getBytes_840e7 12 = .ok (.iconst 0, 1) := by decide +kernel
theorem dJ0_getBytes_840e7_13 : decode cJ0_getBytes_840e7 13 = .ok (.aload_n 1, 1) := by decide +kernel
theorem dJ0_getBytes_840e7_14 : decode cJ0_getBytes_840e7 14 = .ok (.iload_n 2, 1) := by decide +kernel
theorem dJ0_getBytes_840e7_15 : decode cJ0_getBytes_840e7 15 = .ok (.iload_n 3, 1) := by decide +kernel
theorem dJ0_getBytes_840e7_16 : decode cJ0_getBytes_840e7 16 = .ok (.ishl, 1) := by decide +kernel
theorem dJ0_getBytes_840e7_17 : decode cJ0_getBytes_840e7 17 = .ok (.aload_n 0, 1) := by decide +kernel
theorem dJ0_getBytes_840e7_18 : decode cJ0_getBytes_840e7 18 = .ok (.getfield 9, 3) := by decide +kernel
theorem dJ0_getBytes_840e7_21 : decode cJ0_getBytes_840e7 21 = .ok (.arraylength, 1) := by decide +kernel
theorem dJ0_getBytes_840e7_22 : decode cJ0_getBytes_840e7 22 = .ok (.invokestatic 212, 3) := by decide +kernel
theorem dJ0_getBytes_840e7_25 : decode cJ0_getBytes_840e7 25 = .ok (.goto 18, 3) := by decide +kernel
theorem dJ0_getBytes_840e7_28 : decode cJ0_getBytes_840e7 28 = .ok (.aload_n 0, 1) := by decide +kernel
theorem dJ0_getBytes_840e7_29 : decode cJ0_getBytes_840e7 29 = .ok (.getfield 9, 3) := by decide +kernel
theorem dJ0_getBytes_840e7_32 : decode cJ0_getBytes_840e7 32 = .ok (.iconst 0, 1) := by decide +kernel
theorem dJ0_getBytes_840e7_33 : decode cJ0_getBytes_840e7 33 = .ok (.aload_n 1, 1) := by decide +kernel
theorem dJ0_getBytes_840e7_34 : decode cJ0_getBytes_840e7 34 = .ok (.iload_n 2, 1) := by decide +kernel
theorem dJ0_getBytes_840e7_35 : decode cJ0_getBytes_840e7 35 = .ok (.aload_n 0, 1) := by decide +kernel
theorem dJ0_getBytes_840e7_36 : decode cJ0_getBytes_840e7 36 = .ok (.getfield 9, 3) := by decide +kernel
theorem dJ0_getBytes_840e7_39 : decode cJ0_getBytes_840e7 39 = .ok (.arraylength, 1) := by decide +kernel
theorem dJ0_getBytes_840e7_40 : decode cJ0_getBytes_840e7 40 = .ok (.invokestatic 106, 3) := by decide +kernel
theorem dJ0_getBytes_840e7_43 : decode cJ0_getBytes_840e7 43 = .ok (.return_, 1) := by decide +kernel
theorem dJ0_init_db425_0 : decode cJ0_init_db425 0 = .ok (.aload_n 0, 1) := by decide +kernel
theorem dJ0_init_db425_1 : decode cJ0_init_db425 1 = .ok (.invokespecial 1, 3) := by decide +kernel
theorem dJ0_init_db425_4 : decode cJ0_init_db425 4 = .ok (.aload_n 1, 1) := by decide +kernel
theorem dJ0_init_db425_5 : decode cJ0_init_db425 5 = .ok (.invokevirtual 552, 3) := by decide +kernel
theorem dJ0_init_db425_8 : decode cJ0_init_db425 8 = .ok (.astore_n 3, 1) := by decide +kernel
theorem dJ0_init_db425_9 : decode cJ0_init_db425 9 = .ok (.aload_n 1, 1) := by decide +kernel
theorem dJ0_init_db425_10 : decode cJ0_init_db425 10 = .ok (.invokevirtual 549, 3) := by decide +kernel
theorem dJ0_init_db425_13 : decode cJ0_init_db425 13 = .ok (.istore 4, 2) := by decide +kernel
theorem dJ0_init_db425_15 : decode cJ0_init_db425 15 = .ok (.aload_n 1, 1) := by decide +kernel
theorem dJ0_init_db425_16 : decode cJ0_init_db425 16 = .ok (.invokevirtual 1047, 3) := by decide +kernel
theorem dJ0_init_db425_19 : decode cJ0_init_db425 19 = .ok (.ifCond .eq 22, 3) := by decide +kernel
theorem dJ0_init_db425_22 : decode cJ0_init_db425 22 = .ok (.aload_n 0, 1) := by decide +kernel
theorem dJ0_init_db425_23 : decode cJ0_init_db425 23 = .ok (.iconst 0, 1) := by decide +kernel
theorem dJ0_init_db425_24 : decode cJ0_init_db425 24 = .ok (.putfield 15, 3) := by decide +kernel
theorem dJ0_init_db425_27 : decode cJ0_init_db425 27 = .ok (.aload_n 0, 1) := by decide +kernel
theorem dJ0_init_db425_28 : decode cJ0_init_db425 28 = .ok (.aload_n 3, 1) := by decide +kernel
theorem dJ0_init_db425_29 : decode cJ0_init_db425 29 = .ok (.iconst 0, 1) := by decide +kernel
theorem dJ0_init_db425_30 : decode cJ0_init_db425 30 = .ok (.iload 4, 2) := by decide +kernel
theorem dJ0_init_db425_32 : decode cJ0_init_db425 32 = .ok (.invokestatic 54, 3) := by decide +kernel
theorem dJ0_init_db425_35 : decode cJ0_init_db425 35 = .ok (.putfield 9, 3) := by decide +kernel
theorem dJ0_init_db425_38 : decode cJ0_init_db425 38 = .ok (.goto 59, 3) := by decide +kernel
theorem dJ0_init_db425_41 : decode cJ0_init_db425 41 = .ok (.getstatic 38, 3) := by decide +kernel
theorem dJ0_init_db425_44 : decode cJ0_init_db425 44 = .ok (.ifCond .eq 35, 3) := by decide +kernel
theorem dJ0_init_db425_47 : decode cJ0_init_db425 47 = .ok (.aload_n 1, 1) := by decide +kernel
theorem dJ0_init_db425_48 : decode cJ0_init_db425 48 = .ok (.getfield 1048, 3) := by decide +kernel
theorem dJ0_init_db425_51 : decode cJ0_init_db425 51 = .ok (.ifCond .eq 28, 3) := by decide +kernel
theorem dJ0_init_db425_54 : decode cJ0_init_db425 54 = .ok (.aload_n 0, 1) := by decide +kernel
theorem dJ0_init_db425_55 : decode cJ0_init_db425 55 = .ok (.aload_n 3, 1) := by decide +kernel
theorem dJ0_init_db425_56 : decode cJ0_init_db425 56 = .ok (.iconst 0, 1) := by decide +kernel
theorem dJ0_init_db425_57 : decode cJ0_init_db425 57 = .ok (.iload 4, 2) := by decide +kernel
theorem dJ0_init_db425_59 : decode cJ0_init_db425 59 = .ok (.invokestatic 1051, 3) := by decide +kernel
theorem dJ0_init_db425_62 : decode cJ0_init_db425 62 = .ok (.putfield 9, 3) := by decide +kernel
theorem dJ0_init_db425_65 : decode cJ0_init_db425 65 = .ok (.aload_n 0, 1) := by decide +kernel
theorem dJ0_init_db425_66 : decode cJ0_init_db425 66 = .ok (.aload_n 0, 1) := by decide +kernel
theorem dJ0_init_db425_67 : decode cJ0_init_db425 67 = .ok (.getfield 9, 3) := by decide +kernel
theorem dJ0_init_db425_70 : decode cJ0_init_db425 70 = .ok (.iload 4, 2) := by decide +kernel
theorem dJ0_init_db425_72 : decode cJ0_init_db425 72 = .ok (.invokestatic 47, 3) := by decide +kernel
theorem dJ0_init_db425_75 : decode cJ0_init_db425 75 = .ok (.putfield 15, 3) := by decide +kernel
theorem dJ0_init_db425_78 : decode cJ0_init_db425 78 = .ok (.return_, 1) := by decide +kernel
theorem dJ0_init_db425_79 : decode cJ0_init_db425 79 = .ok (.aload_n 0, 1) := by decide +kernel
theorem dJ0_init_db425_80 : decode cJ0_init_db425 80 = .ok (.iconst 1, 1) := by decide +kernel
theorem dJ0_init_db425_81 : decode cJ0_init_db425 81 = .ok (.putfield 15, 3) := by decide +kernel
theorem dJ0_init_db425_84 : decode cJ0_init_db425 84 = .ok (.aload_n 0, 1) := by decide +kernel
theorem dJ0_init_db425_85 : decode cJ0_init_db425 85 = .ok (.aload_n 3, 1) := by decide +kernel
theorem dJ0_init_db425_86 : decode cJ0_init_db425 86 = .ok (.iconst 0, 1) := by decide +kernel
theorem dJ0_init_db425_87 : decode cJ0_init_db425 87 = .ok (.iload 4, 2) := by decide +kernel
theorem dJ0_init_db425_89 : decode cJ0_init_db425 89 = .ok (.iconst 1, 1) := by decide +kernel
theorem dJ0_init_db425_90 : decode cJ0_init_db425 90 = .ok (.ishl, 1) := by decide +kernel
theorem dJ0_init_db425_91 : decode cJ0_init_db425 91 = .ok (.invokestatic 54, 3) := by decide +kernel
theorem dJ0_init_db425_94 : decode cJ0_init_db425 94 = .ok (.putfield 9, 3) := by decide +kernel
theorem dJ0_init_db425_97 : decode cJ0_init_db425 97 = .ok (.return_, 1) := by decide +kernel
theorem dJ0_init_031fb_0 : decode cJ0_init_031fb 0 = .ok (.aload_n 0, 1) := by decide +kernel
theorem dJ0_init_031fb_1 : decode cJ0_init_031fb 1 = .ok (.invokespecial 1, 3) := by decide +kernel
theorem dJ0_init_031fb_4 : decode cJ0_init_031fb 4 = .ok (.aload_n 0, 1) := by decide +kernel
theorem dJ0_init_031fb_5 : decode cJ0_init_031fb 5 = .ok (.aload_n 1, 1) := by decide +kernel
theorem dJ0_init_031fb_6 : decode cJ0_init_031fb 6 = .ok (.putfield 9, 3) := by decide +kernel
theorem dJ0_init_031fb_9 : decode cJ0_init_031fb 9 = .ok (.aload_n 0, 1) := by decide +kernel
theorem dJ0_init_031fb_10 : decode cJ0_init_031fb 10 = .ok (.iload_n 2, 1) := by decide +kernel
theorem dJ0_init_031fb_11 : decode cJ0_init_031fb 11 = .ok (.putfield 15, 3) := by decide +kernel
theorem dJ0_init_031fb_14 : decode cJ0_init_031fb 14 = .ok (.return_, 1) := by decide +kernel
theorem dJ0_coder_7d493_0 : decode cJ0_coder_7d493 0 = .ok (.getstatic 38, 3) := by decide +kernel
theorem dJ0_coder_7d493_3 : decode cJ0_coder_7d493 3 = .ok (.ifCond .eq 10, 3) := by decide +kernel
theorem dJ0_coder_7d493_6 : decode cJ0_coder_7d493 6 = .ok (.aload_n 0, 1) := by decide +kernel
theorem dJ0_coder_7d493_7 : decode cJ0_coder_7d493 7 = .ok (.getfield 15, 3) := by decide +kernel
theorem dJ0_coder_7d493_10 : decode cJ0_coder_7d493 10 = .ok (.goto 4, 3) := by decide +kernel
theorem dJ0_coder_7d493_13 : decode cJ0_coder_7d493 13 = .ok (.iconst 1, 1) := by decide +kernel
theorem dJ0_coder_7d493_14 : decode cJ0_coder_7d493 14 = .ok (.ireturn, 1) := by decide +kernel
theorem dJ0_isLatin1_aae02_0 : decode cJ0_isLatin1_aae02 0 = .ok (.getstatic 38, 3) := by decide +kernel
theorem dJ0_isLatin1_aae02_3 : decode cJ0_isLatin1_aae02 3 = .ok (.ifCond .eq 14, 3) := by decide +kernel
theorem dJ0_isLatin1_aae02_6 : decode cJ0_isLatin1_aae02 6 = .ok (.aload_n 0, 1) := by decide +kernel
theorem dJ0_isLatin1_aae02_7 : decode cJ0_isLatin1_aae02 7 = .ok (.getfield 15, 3) := by decide +kernel
theorem dJ0_isLatin1_aae02_10 : decode cJ0_isLatin1_aae02 10 = .ok (.ifCond .ne 7, 3) := by decide +kernel
theorem dJ0_isLatin1_aae02_13 : decode cJ0_isLatin1_aae02 13 = .ok (.iconst 1, 1) := by decide +kernel
theorem dJ0_isLatin1_aae02_14 : decode cJ0_isLatin1_aae02 14 = .ok (.goto 4, 3) := by decide +kernel
theorem dJ0_isLatin1_aae02_17 : decode cJ0_isLatin1_aae02 17 = .ok (.iconst 0, 1) := by decide +kernel
theorem dJ0_isLatin1_aae02_18 : decode cJ0_isLatin1_aae02 18 = .ok (.ireturn, 1) := by decide +kernel
theorem dJ0_checkIndex_df160_0 : decode cJ0_checkIndex_df160 0 = .ok (.iload_n 0, 1) := by decide +kernel
theorem dJ0_checkIndex_df160_1 : decode cJ0_checkIndex_df160 1 = .ok (.iload_n 1, 1) := by decide +kernel
theorem dJ0_checkIndex_df160_2 : decode cJ0_checkIndex_df160 2 = .ok (.getstatic 1053, 3) := by decide +kernel
theorem dJ0_checkIndex_df160_5 : decode cJ0_checkIndex_df160 5 = .ok (.invokestatic 1059, 3) := by decide +kernel
theorem dJ0_checkIndex_df160_8 : decode cJ0_checkIndex_df160 8 = .ok (.pop, 1) := by decide +kernel
theorem dJ0_checkIndex_df160_9 : decode cJ0_checkIndex_df160 9 = .ok (.return_, 1) := by decide +kernel
theorem dJ0_checkBoundsOffCount_cabcc_0 : decode cJ0_checkBoundsOffCount_cabcc 0 = .ok (.iload_n 0, 1) := by decide +kernel
theorem dJ0_checkBoundsOffCount_cabcc_1 : decode cJ0_checkBoundsOffCount_cabcc 1 = .ok (.iload_n 1, 1) := by decide +kernel
theorem dJ0_checkBoundsOffCount_cabcc_2 : decode cJ0_checkBoundsOffCount_cabcc 2 = .ok (.iload_n 2, 1) := by decide +kernel
theorem dJ0_checkBoundsOffCount_cabcc_3 : decode cJ0_checkBoundsOffCount_cabcc 3 = .ok (.getstatic 1053, 3) := by decide +kernel
theorem dJ0_checkBoundsOffCount_cabcc_6 : decode cJ0_checkBoundsOffCount_cabcc 6 = .ok (.invokestatic 1065, 3) := by decide +kernel
theorem dJ0_checkBoundsOffCount_cabcc_9 : decode cJ0_checkBoundsOffCount_cabcc 9 = .ok (.ireturn, 1) := by decide +kernel
theorem dJ0_checkBoundsBeginEnd_23922_0 : decode cJ0_checkBoundsBeginEnd_23922 0 = .ok (.iload_n 0, 1) := by decide +kernel
theorem dJ0_checkBoundsBeginEnd_23922_1 : decode cJ0_checkBoundsBeginEnd_23922 1 = .ok (.iload_n 1, 1) := by decide +kernel
theorem dJ0_checkBoundsBeginEnd_23922_2 : decode cJ0_checkBoundsBeginEnd_23922 2 = .ok (.iload_n 2, 1) := by decide +kernel
theorem dJ0_checkBoundsBeginEnd_23922_3 : decode cJ0_checkBoundsBeginEnd_23922 3 = .ok (.getstatic 1053, 3) := by decide +kernel
theorem dJ0_checkBoundsBeginEnd_23922_6 : decode cJ0_checkBoundsBeginEnd_23922 6 = .ok (.invokestatic 1062, 3) := by decide +kernel
theorem dJ0_checkBoundsBeginEnd_23922_9 : decode cJ0_checkBoundsBeginEnd_23922 9 = .ok (.pop, 1) := by decide +kernel
theorem dJ0_checkBoundsBeginEnd_23922_10 : decode cJ0_checkBoundsBeginEnd_23922 10 = .ok (.return_, 1) := by decide +kernel
theorem dJ1_charAt_3b067_0 : decode cJ1_charAt_3b067 0 = .ok (.iload_n 1, 1) := by decide +kernel
theorem dJ1_charAt_3b067_1 : decode cJ1_charAt_3b067 1 = .ok (.aload_n 0, 1) := by decide +kernel
theorem dJ1_charAt_3b067_2 : decode cJ1_charAt_3b067 2 = .ok (.arraylength, 1) := by decide +kernel
theorem dJ1_charAt_3b067_3 : decode cJ1_charAt_3b067 3 = .ok (.invokestatic 9, 3) := by decide +kernel
theorem dJ1_charAt_3b067_6 : decode cJ1_charAt_3b067 6 = .ok (.aload_n 0, 1) := by decide +kernel
theorem dJ1_charAt_3b067_7 : decode cJ1_charAt_3b067 7 = .ok (.iload_n 1, 1) := by decide +kernel
theorem dJ1_charAt_3b067_8 : decode cJ1_charAt_3b067 8 = .ok (.baload, 1) := by decide +kernel
theorem dJ1_charAt_3b067_9 : decode cJ1_charAt_3b067 9 = .ok (.sipush 255, 3) := by decide +kernel
theorem dJ1_charAt_3b067_12 : decode cJ1_charAt_3b067 12 = .ok (.iand, 1) := by decide +kernel
theorem dJ1_charAt_3b067_13 : decode cJ1_charAt_3b067 13 = .ok (.i2c, 1) := by decide +kernel
theorem dJ1_charAt_3b067_14 : decode cJ1_charAt_3b067 14 = .ok (.ireturn, 1) := by decide +kernel
theorem dJ1_canEncode_9a6ad_0 : decode cJ1_canEncode_9a6ad 0 = .ok (.iload_n 0, 1) := by decide +kernel
theorem dJ1_canEncode_9a6ad_1 : decode cJ1_canEncode_9a6ad 1 = .ok (.ifCond .lt 14, 3) := by decide +kernel
theorem dJ1_canEncode_9a6ad_4 : decode cJ1_canEncode_9a6ad 4 = .ok (.iload_n 0, 1) := by decide +kernel
theorem dJ1_canEncode_9a6ad_5 : decode cJ1_canEncode_9a6ad 5 = .ok (.sipush 255, 3) := by decide +kernel
theorem dJ1_canEncode_9a6ad_8 : decode cJ1_canEncode_9a6ad 8 = .ok (.if_icmp .gt 7, 3) := by decide +kernel
theorem dJ1_canEncode_9a6ad_11 : decode cJ1_canEncode_9a6ad 11 = .ok (.iconst 1, 1) := by decide +kernel
theorem dJ1_canEncode_9a6ad_12 : decode cJ1_canEncode_9a6ad 12 = .ok (.goto 4, 3) := by decide +kernel
theorem dJ1_canEncode_9a6ad_15 : decode cJ1_canEncode_9a6ad 15 = .ok (.iconst 0, 1) := by decide +kernel
theorem dJ1_canEncode_9a6ad_16 : decode cJ1_canEncode_9a6ad 16 = .ok (.ireturn, 1) := by decide +kernel
theorem dJ1_indexOf_4cfef_0 : decode cJ1_indexOf_4cfef 0 = .ok (.iload_n 1, 1) := by decide +kernel
theorem dJ1_indexOf_4cfef_1 : decode cJ1_indexOf_4cfef 1 = .ok (.invokestatic 88, 3) := by decide +kernel
theorem dJ1_indexOf_4cfef_4 : decode cJ1_indexOf_4cfef 4 = .ok (.ifCond .ne 5, 3) := by decide +kernel
theorem dJ1_indexOf_4cfef_7 : decode cJ1_indexOf_4cfef 7 = .ok (.iconst (-1), 1) := by decide +kernel
theorem dJ1_indexOf_4cfef_8 : decode cJ1_indexOf_4cfef 8 = .ok (.ireturn, 1) := by decide +kernel
theorem dJ1_indexOf_4cfef_9 : decode cJ1_indexOf_4cfef 9 = .ok (.iload_n 2, 1) := by decide +kernel
theorem dJ1_indexOf_4cfef_10 : decode cJ1_indexOf_4cfef 10 = .ok (.iconst 0, 1) := by decide +kernel
theorem dJ1_indexOf_4cfef_11 : decode cJ1_indexOf_4cfef 11 = .ok (.invokestatic 92, 3) := by decide +kernel
theorem dJ1_indexOf_4cfef_14 : decode cJ1_indexOf_4cfef 14 = .ok (.istore_n 2, 1) := by decide +kernel
theorem dJ1_indexOf_4cfef_15 : decode cJ1_indexOf_4cfef 15 = .ok (.iload_n 3, 1) := by decide +kernel
theorem dJ1_indexOf_4cfef_16 : decode cJ1_indexOf_4cfef 16 = .ok (.aload_n 0, 1) := by decide +kernel
theorem dJ1_indexOf_4cfef_17 : decode cJ1_indexOf_4cfef 17 = .ok (.arraylength, 1) := by decide +kernel
theorem dJ1_indexOf_4cfef_18 : decode cJ1_indexOf_4cfef 18 = .ok (.invokestatic 38, 3) := by decide +kernel
theorem dJ1_indexOf_4cfef_21 : decode cJ1_indexOf_4cfef 21 = .ok (.istore_n 3, 1) := by decide +kernel
theorem dJ1_indexOf_4cfef_22 : decode cJ1_indexOf_4cfef 22 = .ok (.iload_n 2, 1) := by decide +kernel
theorem dJ1_indexOf_4cfef_23 : decode cJ1_indexOf_4cfef 23 = .ok (.iload_n 3, 1) := by decide +kernel
theorem dJ1_indexOf_4cfef_24 : decode cJ1_indexOf_4cfef 24 = .ok (.if_icmp .lt 5, 3) := by decide +kernel
theorem dJ1_indexOf_4cfef_27 : decode cJ1_indexOf_4cfef 27 = .ok (.iconst (-1), 1) := by decide +kernel
theorem dJ1_indexOf_4cfef_28 : decode cJ1_indexOf_4cfef 28 = .ok (.ireturn, 1) := by decide +kernel
theorem dJ1_indexOf_4cfef_29 : decode cJ1_indexOf_4cfef 29 = .ok (.aload_n 0, 1) := by decide +kernel
theorem dJ1_indexOf_4cfef_30 : decode cJ1_indexOf_4cfef 30 = .ok (.iload_n 1, 1) := by decide +kernel
theorem dJ1_indexOf_4cfef_31 : decode cJ1_indexOf_4cfef 31 = .ok (.iload_n 2, 1) := by decide +kernel
theorem dJ1_indexOf_4cfef_32 : decode cJ1_indexOf_4cfef 32 = .ok (.iload_n 3, 1) := by decide +kernel
theorem dJ1_indexOf_4cfef_33 : decode cJ1_indexOf_4cfef 33 = .ok (.invokestatic 95, 3) := by decide +kernel
theorem dJ1_indexOf_4cfef_36 : decode cJ1_indexOf_4cfef 36 = .ok (.ireturn, 1) := by decide +kernel
theorem dJ1_indexOfChar_4cfef_0 : decode cJ1_indexOfChar_4cfef 0 = .ok (.iload_n 1, 1) := by decide +kernel
theorem dJ1_indexOfChar_4cfef_1 : decode cJ1_indexOfChar_4cfef 1 = .ok (.i2b, 1) := by decide +kernel
theorem dJ1_indexOfChar_4cfef_2 : decode cJ1_indexOfChar_4cfef 2 = .ok (.istore 4, 2) := by decide +kernel
theorem dJ1_indexOfChar_4cfef_4 : decode cJ1_indexOfChar_4cfef 4 = .ok (.iload_n 2, 1) := by decide +kernel
theorem dJ1_indexOfChar_4cfef_5 : decode cJ1_indexOfChar_4cfef 5 = .ok (.istore 5, 2) := by decide +kernel
theorem dJ1_indexOfChar_4cfef_7 : decode cJ1_indexOfChar_4cfef 7 = .ok (.iload 5, 2) := by decide +kernel
theorem dJ1_indexOfChar_4cfef_9 : decode cJ1_indexOfChar_4cfef 9 = .ok (.iload_n 3, 1) := by decide +kernel
theorem dJ1_indexOfChar_4cfef_10 : decode cJ1_indexOfChar_4cfef 10 = .ok (.if_icmp .ge 21, 3) := by decide +kernel
theorem dJ1_indexOfChar_4cfef_13 : decode cJ1_indexOfChar_4cfef 13 = .ok (.aload_n 0, 1) := by decide +kernel
theorem dJ1_indexOfChar_4cfef_14 : decode cJ1_indexOfChar_4cfef 14 = .ok (.iload 5, 2) := by decide +kernel
theorem dJ1_indexOfChar_4cfef_16 : decode cJ1_indexOfChar_4cfef 16 = .ok (.baload, 1) := by decide +kernel
theorem dJ1_indexOfChar_4cfef_17 : decode cJ1_indexOfChar_4cfef 17 = .ok (.iload 4, 2) := by decide +kernel
theorem dJ1_indexOfChar_4cfef_19 : decode cJ1_indexOfChar_4cfef 19 = .ok (.if_icmp .ne 6, 3) := by decide +kernel
theorem dJ1_indexOfChar_4cfef_22 : decode cJ1_indexOfChar_4cfef 22 = .ok (.iload 5, 2) := by decide +kernel
theorem dJ1_indexOfChar_4cfef_24 : decode cJ1_indexOfChar_4cfef 24 = .ok (.ireturn, 1) := by decide +kernel
theorem dJ1_indexOfChar_4cfef_25 : decode cJ1_indexOfChar_4cfef 25 = .ok (.iinc 5 1, 3) := by decide +kernel
theorem dJ1_indexOfChar_4cfef_28 : decode cJ1_indexOfChar_4cfef 28 = .ok (.goto (-21), 3) := by decide +kernel
theorem dJ1_indexOfChar_4cfef_31 : decode cJ1_indexOfChar_4cfef 31 = .ok (.iconst (-1), 1) := by decide +kernel
theorem dJ1_indexOfChar_4cfef_32 : decode cJ1_indexOfChar_4cfef 32 = .ok (.ireturn, 1) := by decide +kernel
theorem dJ1_newString_b4f7a_0 : decode cJ1_newString_b4f7a 0 = .ok (.iload_n 2, 1) := by decide +kernel
theorem dJ1_newString_b4f7a_1 : decode cJ1_newString_b4f7a 1 = .ok (.ifCond .ne 6, 3) := by decide +kernel
theorem dJ1_newString_b4f7a_4 : decode cJ1_newString_b4f7a 4 = .ok (.ldc 151, 2) := by decide +kernel
theorem dJ1_newString_b4f7a_6 : decode cJ1_newString_b4f7a 6 = .ok (.areturn, 1) := by decide +kernel
theorem dJ1_newString_b4f7a_7 : decode cJ1_newString_b4f7a 7 = .ok (.new 1, 3) := by decide +kernel
theorem dJ1_newString_b4f7a_10 : decode cJ1_newString_b4f7a 10 = .ok (.dup, 1) := by decide +kernel
theorem dJ1_newString_b4f7a_11 : decode cJ1_newString_b4f7a 11 = .ok (.aload_n 0, 1) := by decide +kernel
theorem dJ1_newString_b4f7a_12 : decode cJ1_newString_b4f7a 12 = .ok (.iload_n 1, 1) := by decide +kernel
theorem dJ1_newString_b4f7a_13 : decode cJ1_newString_b4f7a 13 = .ok (.iload_n 1, 1) := by decide +kernel
theorem dJ1_newString_b4f7a_14 : decode cJ1_newString_b4f7a 14 = .ok (.iload_n 2, 1) := by decide +kernel
theorem dJ1_newString_b4f7a_15 : decode cJ1_newString_b4f7a 15 = .ok (.iadd, 1) := by decide +kernel
theorem dJ1_newString_b4f7a_16 : decode cJ1_newString_b4f7a 16 = .ok (.invokestatic 232, 3) := by decide +kernel
theorem dJ1_newString_b4f7a_19 : decode cJ1_newString_b4f7a 19 = .ok (.iconst 0, 1) := by decide +kernel
theorem dJ1_newString_b4f7a_20 : decode cJ1_newString_b4f7a 20 = .ok (.invokespecial 112, 3) := by decide +kernel
theorem dJ1_newString_b4f7a_23 : decode cJ1_newString_b4f7a 23 = .ok (.areturn, 1) := by decide +kernel
theorem dJ1_inflate_0e8fd_0 : decode cJ1_inflate_0e8fd 0 = .ok (.aload_n 0, 1) := by decide +kernel
theorem dJ1_inflate_0e8fd_1 : decode cJ1_inflate_0e8fd 1 = .ok (.iload_n 1, 1) := by decide +kernel
theorem dJ1_inflate_0e8fd_2 : decode cJ1_inflate_0e8fd 2 = .ok (.aload_n 2, 1) := by decide +kernel
theorem dJ1_inflate_0e8fd_3 : decode cJ1_inflate_0e8fd 3 = .ok (.iload_n 3, 1) := by decide +kernel
theorem dJ1_inflate_0e8fd_4 : decode cJ1_inflate_0e8fd 4 = .ok (.iload 4, 2) := by decide +kernel
theorem dJ1_inflate_0e8fd_6 : decode cJ1_inflate_0e8fd 6 = .ok (.invokestatic 240, 3) := by decide +kernel
theorem dJ1_inflate_0e8fd_9 : decode cJ1_inflate_0e8fd 9 = .ok (.return_, 1) := by decide +kernel
theorem dJ3_checkIndex_8e157_0 : decode cJ3_checkIndex_8e157 0 = .ok (.iload_n 0, 1) := by decide +kernel
theorem dJ3_checkIndex_8e157_1 : decode cJ3_checkIndex_8e157 1 = .ok (.ifCond .lt 8, 3) := by decide +kernel
theorem dJ3_checkIndex_8e157_4 : decode cJ3_checkIndex_8e157 4 = .ok (.iload_n 0, 1) := by decide +kernel
theorem dJ3_checkIndex_8e157_5 : decode cJ3_checkIndex_8e157 5 = .ok (.iload_n 1, 1) := by decide +kernel
theorem dJ3_checkIndex_8e157_6 : decode cJ3_checkIndex_8e157 6 = .ok (.if_icmp .lt 10, 3) := by decide +kernel
theorem dJ3_checkIndex_8e157_9 : decode cJ3_checkIndex_8e157 9 = .ok (.aload_n 2, 1) := by decide +kernel
theorem dJ3_checkIndex_8e157_10 : decode cJ3_checkIndex_8e157 10 = .ok (.iload_n 0, 1) := by decide +kernel
theorem dJ3_checkIndex_8e157_11 : decode cJ3_checkIndex_8e157 11 = .ok (.iload_n 1, 1) := by decide +kernel
theorem dJ3_checkIndex_8e157_12 : decode cJ3_checkIndex_8e157 12 = .ok (.invokestatic 95, 3) := by decide +kernel
theorem dJ3_checkIndex_8e157_15 : decode cJ3_checkIndex_8e157 15 = .ok (.athrow, 1) := by decide +kernel
theorem dJ3_checkIndex_8e157_16 : decode cJ3_checkIndex_8e157 16 = .ok (.iload_n 0, 1) := by decide +kernel
theorem dJ3_checkIndex_8e157_17 : decode cJ3_checkIndex_8e157 17 = .ok (.ireturn, 1) := by decide +kernel
theorem dJ3_checkFromToIndex_8c36e_0 : decode cJ3_checkFromToIndex_8c36e 0 = .ok (.iload_n 0, 1) := by decide +kernel
theorem dJ3_checkFromToIndex_8c36e_1 : decode cJ3_checkFromToIndex_8c36e 1 = .ok (.ifCond .lt 13, 3) := by decide +kernel
theorem dJ3_checkFromToIndex_8c36e_4 : decode cJ3_checkFromToIndex_8c36e 4 = .ok (.iload_n 0, 1) := by decide +kernel
theorem dJ3_checkFromToIndex_8c36e_5 : decode cJ3_checkFromToIndex_8c36e 5 = .ok (.iload_n 1, 1) := by decide +kernel
theorem dJ3_checkFromToIndex_8c36e_6 : decode cJ3_checkFromToIndex_8c36e 6 = .ok (.if_icmp .gt 8, 3) := by decide +kernel
theorem dJ3_checkFromToIndex_8c36e_9 : decode cJ3_checkFromToIndex_8c36e 9 = .ok (.iload_n 1, 1) := by decide +kernel
theorem dJ3_checkFromToIndex_8c36e_10 : decode cJ3_checkFromToIndex_8c36e 10 = .ok (.iload_n 2, 1) := by decide +kernel
theorem dJ3_checkFromToIndex_8c36e_11 : decode cJ3_checkFromToIndex_8c36e 11 = .ok (.if_icmp .le 11, 3) := by decide +kernel
theorem dJ3_checkFromToIndex_8c36e_14 : decode cJ3_checkFromToIndex_8c36e 14 = .ok (.aload_n 3, 1) := by decide +kernel
theorem dJ3_checkFromToIndex_8c36e_15 : decode cJ3_checkFromToIndex_8c36e 15 = .ok (.iload_n 0, 1) := by decide +kernel
theorem dJ3_checkFromToIndex_8c36e_16 : decode cJ3_checkFromToIndex_8c36e 16 = .ok (.iload_n 1, 1) := by decide +kernel
theorem dJ3_checkFromToIndex_8c36e_17 : decode cJ3_checkFromToIndex_8c36e 17 = .ok (.iload_n 2, 1) := by decide +kernel
theorem dJ3_checkFromToIndex_8c36e_18 : decode cJ3_checkFromToIndex_8c36e 18 = .ok (.invokestatic 99, 3) := by decide +kernel
theorem dJ3_checkFromToIndex_8c36e_21 : decode cJ3_checkFromToIndex_8c36e 21 = .ok (.athrow, 1) := by decide +kernel
theorem dJ3_checkFromToIndex_8c36e_22 : decode cJ3_checkFromToIndex_8c36e 22 = .ok (.iload_n 0, 1) := by decide +kernel
theorem dJ3_checkFromToIndex_8c36e_23 : decode cJ3_checkFromToIndex_8c36e 23 = .ok (.ireturn, 1) := by decide +kernel
theorem dJ3_checkFromIndexSize_8c36e_0 : decode cJ3_checkFromIndexSize_8c36e 0 = .ok (.iload_n 2, 1) := by decide +kernel
theorem dJ3_checkFromIndexSize_8c36e_1 : decode cJ3_checkFromIndexSize_8c36e 1 = .ok (.iload_n 0, 1) := by decide +kernel
theorem dJ3_checkFromIndexSize_8c36e_2 : decode cJ3_checkFromIndexSize_8c36e 2 = .ok (.ior, 1) := by decide +kernel
theorem dJ3_checkFromIndexSize_8c36e_3 : decode cJ3_checkFromIndexSize_8c36e 3 = .ok (.iload_n 1, 1) := by decide +kernel
theorem dJ3_checkFromIndexSize_8c36e_4 : decode cJ3_checkFromIndexSize_8c36e 4 = .ok (.ior, 1) := by decide +kernel
theorem dJ3_checkFromIndexSize_8c36e_5 : decode cJ3_checkFromIndexSize_8c36e 5 = .ok (.ifCond .lt 10, 3) := by decide +kernel
theorem dJ3_checkFromIndexSize_8c36e_8 : decode cJ3_checkFromIndexSize_8c36e 8 = .ok (.iload_n 1, 1) := by decide +kernel
theorem dJ3_checkFromIndexSize_8c36e_9 : decode cJ3_checkFromIndexSize_8c36e 9 = .ok (.iload_n 2, 1) := by decide +kernel
theorem dJ3_checkFromIndexSize_8c36e_10 : decode cJ3_checkFromIndexSize_8c36e 10 = .ok (.iload_n 0, 1) := by decide +kernel
theorem dJ3_checkFromIndexSize_8c36e_11 : decode cJ3_checkFromIndexSize_8c36e 11 = .ok (.isub, 1) := by decide +kernel
theorem dJ3_checkFromIndexSize_8c36e_12 : decode cJ3_checkFromIndexSize_8c36e 12 = .ok (.if_icmp .le 11, 3) := by decide +kernel
theorem dJ3_checkFromIndexSize_8c36e_15 : decode cJ3_checkFromIndexSize_8c36e 15 = .ok (.aload_n 3, 1) := by decide +kernel
theorem dJ3_checkFromIndexSize_8c36e_16 : decode cJ3_checkFromIndexSize_8c36e 16 = .ok (.iload_n 0, 1) := by decide +kernel
theorem dJ3_checkFromIndexSize_8c36e_17 : decode cJ3_checkFromIndexSize_8c36e 17 = .ok (.iload_n 1, 1) := by decide +kernel
theorem dJ3_checkFromIndexSize_8c36e_18 : decode cJ3_checkFromIndexSize_8c36e 18 = .ok (.iload_n 2, 1) := by decide +kernel
theorem dJ3_checkFromIndexSize_8c36e_19 : decode cJ3_checkFromIndexSize_8c36e 19 = .ok (.invokestatic 103, 3) := by decide +kernel
theorem dJ3_checkFromIndexSize_8c36e_22 : decode cJ3_checkFromIndexSize_8c36e 22 = .ok (.athrow, 1) := by decide +kernel
theorem dJ3_checkFromIndexSize_8c36e_23 : decode cJ3_checkFromIndexSize_8c36e 23 = .ok (.iload_n 0, 1) := by decide +kernel
theorem dJ3_checkFromIndexSize_8c36e_24 : decode cJ3_checkFromIndexSize_8c36e 24 = .ok (.ireturn, 1) := by decide +kernel
theorem dJ4_init_da8c8_0 : decode cJ4_init_da8c8 0 = .ok (.aload_n 0, 1) := by decide +kernel
theorem dJ4_init_da8c8_1 : decode cJ4_init_da8c8 1 = .ok (.bipush 16, 2) := by decide +kernel
theorem dJ4_init_da8c8_3 : decode cJ4_init_da8c8 3 = .ok (.invokespecial 1, 3) := by decide +kernel
theorem dJ4_init_da8c8_6 : decode cJ4_init_da8c8 6 = .ok (.return_, 1) := by decide +kernel
theorem dJ4_append_15ec4_0 : decode cJ4_append_15ec4 0 = .ok (.aload_n 0, 1) := by decide +kernel
theorem dJ4_append_15ec4_1 : decode cJ4_append_15ec4 1 = .ok (.aload_n 1, 1) := by decide +kernel
theorem dJ4_append_15ec4_2 : decode cJ4_append_15ec4 2 = .ok (.invokespecial 29, 3) := by decide +kernel
theorem dJ4_append_15ec4_5 : decode cJ4_append_15ec4 5 = .ok (.pop, 1) := by decide +kernel
theorem dJ4_append_15ec4_6 : decode cJ4_append_15ec4 6 = .ok (.aload_n 0, 1) := by decide +kernel
theorem dJ4_append_15ec4_7 : decode cJ4_append_15ec4 7 = .ok (.areturn, 1) := by decide +kernel
theorem dJ4_toString_0e30d_0 : decode cJ4_toString_0e30d 0 = .ok (.new 18, 3) := by decide +kernel
theorem dJ4_toString_0e30d_3 : decode cJ4_toString_0e30d 3 = .ok (.dup, 1) := by decide +kernel
theorem dJ4_toString_0e30d_4 : decode cJ4_toString_0e30d 4 = .ok (.aload_n 0, 1) := by decide +kernel
theorem dJ4_toString_0e30d_5 : decode cJ4_toString_0e30d 5 = .ok (.invokespecial 137, 3) := by decide +kernel
theorem dJ4_toString_0e30d_8 : decode cJ4_toString_0e30d 8 = .ok (.areturn, 1) := by decide +kernel
theorem dJ4_length_8abf5_0 : decode cJ4_length_8abf5 0 = .ok (.aload_n 0, 1) := by decide +kernel
theorem dJ4_length_8abf5_1 : decode cJ4_length_8abf5 1 = .ok (.invokespecial 343, 3) := by decide +kernel
theorem dJ4_length_8abf5_4 : decode cJ4_length_8abf5 4 = .ok (.ireturn, 1) := by decide +kernel
theorem dJ5_init_d00df_0 : decode cJ5_init_d00df 0 = .ok (.aload_n 0, 1) := by decide +kernel
theorem dJ5_init_d00df_1 : decode cJ5_init_d00df 1 = .ok (.invokespecial 3, 3) := by decide +kernel
theorem dJ5_init_d00df_4 : decode cJ5_init_d00df 4 = .ok (.getstatic 18, 3) := by decide +kernel
theorem dJ5_init_d00df_7 : decode cJ5_init_d00df 7 = .ok (.ifCond .eq 18, 3) := by decide +kernel
theorem dJ5_init_d00df_10 : decode cJ5_init_d00df 10 = .ok (.aload_n 0, 1) := by decide +kernel
theorem dJ5_init_d00df_11 : decode cJ5_init_d00df 11 = .ok (.iload_n 1, 1) := by decide +kernel
theorem dJ5_init_d00df_12 : decode cJ5_init_d00df 12 = .ok (.newarray .byte, 2) := by decide +kernel
theorem dJ5_init_d00df_14 : decode cJ5_init_d00df 14 = .ok (.putfield 15, 3) := by decide +kernel
theorem dJ5_init_d00df_17 : decode cJ5_init_d00df 17 = .ok (.aload_n 0, 1) := by decide +kernel
theorem dJ5_init_d00df_18 : decode cJ5_init_d00df 18 = .ok (.iconst 0, 1) := by decide +kernel
theorem dJ5_init_d00df_19 : decode cJ5_init_d00df 19 = .ok (.putfield 22, 3) := by decide +kernel
theorem dJ5_init_d00df_22 : decode cJ5_init_d00df 22 = .ok (.goto 16, 3) := by decide +kernel
theorem dJ5_init_d00df_25 : decode cJ5_init_d00df 25 = .ok (.aload_n 0, 1) := by decide +kernel
theorem dJ5_init_d00df_26 : decode cJ5_init_d00df 26 = .ok (.iload_n 1, 1) := by decide +kernel
theorem dJ5_init_d00df_27 : decode cJ5_init_d00df 27 = .ok (.invokestatic 26, 3) := by decide +kernel
theorem dJ5_init_d00df_30 : decode cJ5_init_d00df 30 = .ok (.putfield 15, 3) := by decide +kernel
theorem dJ5_init_d00df_33 : decode cJ5_init_d00df 33 = .ok (.aload_n 0, 1) := by decide +kernel
theorem dJ5_init_d00df_34 : decode cJ5_init_d00df 34 = .ok (.iconst 1, 1) := by decide +kernel
theorem dJ5_init_d00df_35 : decode cJ5_init_d00df 35 = .ok (.putfield 22, 3) := by decide +kernel
theorem dJ5_init_d00df_38 : decode cJ5_init_d00df 38 = .ok (.return_, 1) := by decide +kernel
theorem dJ5_length_8abf5_0 : decode cJ5_length_8abf5 0 = .ok (.aload_n 0, 1) := by decide +kernel
theorem dJ5_length_8abf5_1 : decode cJ5_length_8abf5 1 = .ok (.getfield 79, 3) := by decide +kernel
theorem dJ5_length_8abf5_4 : decode cJ5_length_8abf5 4 = .ok (.ireturn, 1) := by decide +kernel
theorem dJ5_ensureCapacityInternal_d00df_0 : decode cJ5_ensureCapacityInternal_d00df 0 = .ok (.aload_n 0, 1) := by decide +kernel
theorem dJ5_ensureCapacityInternal_d00df_1 : decode cJ5_ensureCapacityInternal_d00df 1 = .ok (.getfield 15, 3) := by decide +kernel
theorem dJ5_ensureCapacityInternal_d00df_4 : decode cJ5_ensureCapacityInternal_d00df 4 = .ok (.arraylength, 1) := by decide +kernel
theorem dJ5_ensureCapacityInternal_d00df_5 : decode cJ5_ensureCapacityInternal_d00df 5 = .ok (.aload_n 0, 1) := by decide +kernel
theorem dJ5_ensureCapacityInternal_d00df_6 : decode cJ5_ensureCapacityInternal_d00df 6 = .ok (.getfield 22, 3) := by decide +kernel
theorem dJ5_ensureCapacityInternal_d00df_9 : decode cJ5_ensureCapacityInternal_d00df 9 = .ok (.ishr, 1) := by decide +kernel
theorem dJ5_ensureCapacityInternal_d00df_10 : decode cJ5_ensureCapacityInternal_d00df 10 = .ok (.istore_n 2, 1) := by decide +kernel
theorem dJ5_ensureCapacityInternal_d00df_11 : decode cJ5_ensureCapacityInternal_d00df 11 = .ok (.iload_n 1, 1) := by decide +kernel
theorem dJ5_ensureCapacityInternal_d00df_12 : decode cJ5_ensureCapacityInternal_d00df 12 = .ok (.iload_n 2, 1) := by decide +kernel
theorem dJ5_ensureCapacityInternal_d00df_13 : decode cJ5_ensureCapacityInternal_d00df 13 = .ok (.isub, 1) := by decide +kernel
theorem dJ5_ensureCapacityInternal_d00df_14 : decode cJ5_ensureCapacityInternal_d00df 14 = .ok (.ifCond .le 24, 3) := by decide +kernel
theorem dJ5_ensureCapacityInternal_d00df_17 : decode cJ5_ensureCapacityInternal_d00df 17 = .ok (.aload_n 0, 1) := by decide +kernel
theorem dJ5_ensureCapacityInternal_d00df_18 : decode cJ5_ensureCapacityInternal_d00df 18 = .ok (.aload_n 0, 1) := by decide +kernel
theorem dJ5_ensureCapacityInternal_d00df_19 : decode cJ5_ensureCapacityInternal_d00df 19 = .ok (.getfield 15, 3) := by decide +kernel
theorem dJ5_ensureCapacityInternal_d00df_22 : decode cJ5_ensureCapacityInternal_d00df 22 = .ok (.aload_n 0, 1) := by decide +kernel
theorem dJ5_ensureCapacityInternal_d00df_23 : decode cJ5_ensureCapacityInternal_d00df 23 = .ok (.iload_n 1, 1) := by decide +kernel
theorem dJ5_ensureCapacityInternal_d00df_24 : decode cJ5_ensureCapacityInternal_d00df 24 = .ok (.invokevirtual 104, 3) := by decide +kernel
theorem dJ5_ensureCapacityInternal_d00df_27 : decode cJ5_ensureCapacityInternal_d00df 27 = .ok (.aload_n 0, 1) := by decide +kernel
theorem dJ5_ensureCapacityInternal_d00df_28 : decode cJ5_ensureCapacityInternal_d00df 28 = .ok (.getfield 22, 3) := by decide +kernel
theorem dJ5_ensureCapacityInternal_d00df_31 : decode cJ5_ensureCapacityInternal_d00df 31 = .ok (.ishl, 1) := by decide +kernel
theorem dJ5_ensureCapacityInternal_d00df_32 : decode cJ5_ensureCapacityInternal_d00df 32 = .ok (.invokestatic 108, 3) := by decide +kernel
theorem dJ5_ensureCapacityInternal_d00df_35 : decode cJ5_ensureCapacityInternal_d00df 35 = .ok (.putfield 15, 3) := by decide +kernel
theorem dJ5_ensureCapacityInternal_d00df_38 : decode cJ5_ensureCapacityInternal_d00df 38 = .ok (.return_, 1) := by decide +kernel
theorem dJ5_newCapacity_0f7a4_0 : decode cJ5_newCapacity_0f7a4 0 = .ok (.aload_n 0, 1) := by decide +kernel
theorem dJ5_newCapacity_0f7a4_1 : decode cJ5_newCapacity_0f7a4 1 = .ok (.getfield 15, 3) := by decide +kernel
theorem dJ5_newCapacity_0f7a4_4 : decode cJ5_newCapacity_0f7a4 4 = .ok (.arraylength, 1) := by decide +kernel
theorem dJ5_newCapacity_0f7a4_5 : decode cJ5_newCapacity_0f7a4 5 = .ok (.istore_n 2, 1) := by decide +kernel
theorem dJ5_newCapacity_0f7a4_6 : decode cJ5_newCapacity_0f7a4 6 = .ok (.iload_n 1, 1) := by decide +kernel
theorem dJ5_newCapacity_0f7a4_7 : decode cJ5_newCapacity_0f7a4 7 = .ok (.aload_n 0, 1) := by decide +kernel
theorem dJ5_newCapacity_0f7a4_8 : decode cJ5_newCapacity_0f7a4 8 = .ok (.getfield 22, 3) := by decide +kernel
theorem dJ5_newCapacity_0f7a4_11 : decode cJ5_newCapacity_0f7a4 11 = .ok (.ishl, 1) := by decide +kernel
theorem dJ5_newCapacity_0f7a4_12 : decode cJ5_newCapacity_0f7a4 12 = .ok (.istore_n 3, 1) := by decide +kernel
theorem dJ5_newCapacity_0f7a4_13 : decode cJ5_newCapacity_0f7a4 13 = .ok (.iload_n 3, 1) := by decide +kernel
theorem dJ5_newCapacity_0f7a4_14 : decode cJ5_newCapacity_0f7a4 14 = .ok (.iload_n 2, 1) := by decide +kernel
theorem dJ5_newCapacity_0f7a4_15 : decode cJ5_newCapacity_0f7a4 15 = .ok (.isub, 1) := by decide +kernel
theorem dJ5_newCapacity_0f7a4_16 : decode cJ5_newCapacity_0f7a4 16 = .ok (.istore 4, 2) := by decide +kernel
theorem dJ5_newCapacity_0f7a4_18 : decode cJ5_newCapacity_0f7a4 18 = .ok (.iload_n 2, 1) := by decide +kernel
theorem dJ5_newCapacity_0f7a4_19 : decode cJ5_newCapacity_0f7a4 19 = .ok (.iload 4, 2) := by decide +kernel
theorem dJ5_newCapacity_0f7a4_21 : decode cJ5_newCapacity_0f7a4 21 = .ok (.iload_n 2, 1) := by decide +kernel
theorem dJ5_newCapacity_0f7a4_22 : decode cJ5_newCapacity_0f7a4 22 = .ok (.iconst 2, 1) := by decide +kernel
theorem dJ5_newCapacity_0f7a4_23 : decode cJ5_newCapacity_0f7a4 23 = .ok (.aload_n 0, 1) := by decide +kernel
theorem dJ5_newCapacity_0f7a4_24 : decode cJ5_newCapacity_0f7a4 24 = .ok (.getfield 22, 3) := by decide +kernel
theorem dJ5_newCapacity_0f7a4_27 : decode cJ5_newCapacity_0f7a4 27 = .ok (.ishl, 1) := by decide +kernel
theorem dJ5_newCapacity_0f7a4_28 : decode cJ5_newCapacity_0f7a4 28 = .ok (.iadd, 1) := by decide +kernel
theorem dJ5_newCapacity_0f7a4_29 : decode cJ5_newCapacity_0f7a4 29 = .ok (.invokestatic 114, 3) := by decide +kernel
theorem dJ5_newCapacity_0f7a4_32 : decode cJ5_newCapacity_0f7a4 32 = .ok (.istore 5, 2) := by decide +kernel
theorem dJ5_newCapacity_0f7a4_34 : decode cJ5_newCapacity_0f7a4 34 = .ok (.iload 5, 2) := by decide +kernel
theorem dJ5_newCapacity_0f7a4_36 : decode cJ5_newCapacity_0f7a4 36 = .ok (.ldc 39, 2) := by decide +kernel
theorem dJ5_newCapacity_0f7a4_38 : decode cJ5_newCapacity_0f7a4 38 = .ok (.if_icmp .ne 13, 3) := by decide +kernel
theorem dJ5_newCapacity_0f7a4_41 : decode cJ5_newCapacity_0f7a4 41 = .ok (.new 120, 3) := by decide +kernel
theorem dJ5_newCapacity_0f7a4_44 : decode cJ5_newCapacity_0f7a4 44 = .ok (.dup, 1) := by decide +kernel
theorem dJ5_newCapacity_0f7a4_45 : decode cJ5_newCapacity_0f7a4 45 = .ok (.ldc 122, 2) := by decide +kernel
theorem dJ5_newCapacity_0f7a4_47 : decode cJ5_newCapacity_0f7a4 47 = .ok (.invokespecial 124, 3) := by decide +kernel
theorem dJ5_newCapacity_0f7a4_50 : decode cJ5_newCapacity_0f7a4 50 = .ok (.athrow, 1) := by decide +kernel
theorem dJ5_newCapacity_0f7a4_51 : decode cJ5_newCapacity_0f7a4 51 = .ok (.iload 5, 2) := by decide +kernel
theorem dJ5_newCapacity_0f7a4_53 : decode cJ5_newCapacity_0f7a4 53 = .ok (.aload_n 0, 1) := by decide +kernel
theorem dJ5_newCapacity_0f7a4_54 : decode cJ5_newCapacity_0f7a4 54 = .ok (.getfield 22, 3) := by decide +kernel
theorem dJ5_newCapacity_0f7a4_57 : decode cJ5_newCapacity_0f7a4 57 = .ok (.ishr, 1) := by decide +kernel
theorem dJ5_newCapacity_0f7a4_58 : decode cJ5_newCapacity_0f7a4 58 = .ok (.ireturn, 1) := by decide +kernel
theorem dJ5_inflate_da8c8_0 : decode cJ5_inflate_da8c8 0 = .ok (.aload_n 0, 1) := by decide +kernel
theorem dJ5_inflate_da8c8_1 : decode cJ5_inflate_da8c8 1 = .ok (.invokevirtual 83, 3) := by decide +kernel
theorem dJ5_inflate_da8c8_4 : decode cJ5_inflate_da8c8 4 = .ok (.ifCond .ne 4, 3) := by decide +kernel
theorem dJ5_inflate_da8c8_7 : decode cJ5_inflate_da8c8 7 = .ok (.return_, 1) := by decide +kernel
theorem dJ5_inflate_da8c8_8 : decode cJ5_inflate_da8c8 8 = .ok (.aload_n 0, 1) := by decide +kernel
theorem dJ5_inflate_da8c8_9 : decode cJ5_inflate_da8c8 9 = .ok (.getfield 15, 3) := by decide +kernel
theorem dJ5_inflate_da8c8_12 : decode cJ5_inflate_da8c8 12 = .ok (.arraylength, 1) := by decide +kernel
theorem dJ5_inflate_da8c8_13 : decode cJ5_inflate_da8c8 13 = .ok (.invokestatic 26, 3) := by decide +kernel
theorem dJ5_inflate_da8c8_16 : decode cJ5_inflate_da8c8 16 = .ok (.astore_n 1, 1) := by decide +kernel
theorem dJ5_inflate_da8c8_17 : decode cJ5_inflate_da8c8 17 = .ok (.aload_n 0, 1) := by decide +kernel
theorem dJ5_inflate_da8c8_18 : decode cJ5_inflate_da8c8 18 = .ok (.getfield 15, 3) := by decide +kernel
theorem dJ5_inflate_da8c8_21 : decode cJ5_inflate_da8c8 21 = .ok (.iconst 0, 1) := by decide +kernel
theorem dJ5_inflate_da8c8_22 : decode cJ5_inflate_da8c8 22 = .ok (.aload_n 1, 1) := by decide +kernel
theorem dJ5_inflate_da8c8_23 : decode cJ5_inflate_da8c8 23 = .ok (.iconst 0, 1) := by decide +kernel
theorem dJ5_inflate_da8c8_24 : decode cJ5_inflate_da8c8 24 = .ok (.aload_n 0, 1) := by decide +kernel
theorem dJ5_inflate_da8c8_25 : decode cJ5_inflate_da8c8 25 = .ok (.getfield 79, 3) := by decide +kernel
theorem dJ5_inflate_da8c8_28 : decode cJ5_inflate_da8c8 28 = .ok (.invokestatic 125, 3) := by decide +kernel
theorem dJ5_inflate_da8c8_31 : decode cJ5_inflate_da8c8 31 = .ok (.aload_n 0, 1) := by decide +kernel
theorem dJ5_inflate_da8c8_32 : decode cJ5_inflate_da8c8 32 = .ok (.aload_n 1, 1) := by decide +kernel
theorem dJ5_inflate_da8c8_33 : decode cJ5_inflate_da8c8 33 = .ok (.putfield 15, 3) := by decide +kernel
theorem dJ5_inflate_da8c8_36 : decode cJ5_inflate_da8c8 36 = .ok (.aload_n 0, 1) := by decide +kernel
theorem dJ5_inflate_da8c8_37 : decode cJ5_inflate_da8c8 37 = .ok (.iconst 1, 1) := by decide +kernel
theorem dJ5_inflate_da8c8_38 : decode cJ5_inflate_da8c8 38 = .ok (.putfield 22, 3) := by decide +kernel
theorem dJ5_inflate_da8c8_41 : decode cJ5_inflate_da8c8 41 = .ok (.return_, 1) := by decide +kernel
theorem dJ5_append_cf1ce_0 : decode cJ5_append_cf1ce 0 = .ok (.aload_n 1, 1) := by decide +kernel
theorem dJ5_append_cf1ce_1 : decode cJ5_append_cf1ce 1 = .ok (.ifnonnull 8, 3) := by decide +kernel
theorem dJ5_append_cf1ce_4 : decode cJ5_append_cf1ce 4 = .ok (.aload_n 0, 1) := by decide +kernel
theorem dJ5_append_cf1ce_5 : decode cJ5_append_cf1ce 5 = .ok (.invokevirtual 204, 3) := by decide +kernel
theorem dJ5_append_cf1ce_8 : decode cJ5_append_cf1ce 8 = .ok (.areturn, 1) := by decide +kernel
theorem dJ5_append_cf1ce_9 : decode cJ5_append_cf1ce 9 = .ok (.aload_n 1, 1) := by decide +kernel
theorem dJ5_append_cf1ce_10 : decode cJ5_append_cf1ce 10 = .ok (.invokevirtual 32, 3) := by decide +kernel
theorem dJ5_append_cf1ce_13 : decode cJ5_append_cf1ce 13 = .ok (.istore_n 2, 1) := by decide +kernel
theorem dJ5_append_cf1ce_14 : decode cJ5_append_cf1ce 14 = .ok (.aload_n 0, 1) := by decide +kernel
theorem dJ5_append_cf1ce_15 : decode cJ5_append_cf1ce 15 = .ok (.aload_n 0, 1) := by decide +kernel
theorem dJ5_append_cf1ce_16 : decode cJ5_append_cf1ce 16 = .ok (.getfield 79, 3) := by decide +kernel
theorem dJ5_append_cf1ce_19 : decode cJ5_append_cf1ce 19 = .ok (.iload_n 2, 1) := by decide +kernel
theorem dJ5_append_cf1ce_20 : decode cJ5_append_cf1ce 20 = .ok (.iadd, 1) := by decide +kernel
theorem dJ5_append_cf1ce_21 : decode cJ5_append_cf1ce 21 = .ok (.invokevirtual 100, 3) := by decide +kernel
theorem dJ5_append_cf1ce_24 : decode cJ5_append_cf1ce 24 = .ok (.aload_n 0, 1) := by decide +kernel
theorem dJ5_append_cf1ce_25 : decode cJ5_append_cf1ce 25 = .ok (.aload_n 0, 1) := by decide +kernel
theorem dJ5_append_cf1ce_26 : decode cJ5_append_cf1ce 26 = .ok (.getfield 79, 3) := by decide +kernel
theorem dJ5_append_cf1ce_29 : decode cJ5_append_cf1ce 29 = .ok (.aload_n 1, 1) := by decide +kernel
theorem dJ5_append_cf1ce_30 : decode cJ5_append_cf1ce 30 = .ok (.invokevirtual 208, 3) := by decide +kernel
theorem dJ5_append_cf1ce_33 : decode cJ5_append_cf1ce 33 = .ok (.aload_n 0, 1) := by decide +kernel
theorem dJ5_append_cf1ce_34 : decode cJ5_append_cf1ce 34 = .ok (.dup, 1) := by decide +kernel
theorem dJ5_append_cf1ce_35 : decode cJ5_append_cf1ce 35 = .ok (.getfield 79, 3) := by decide +kernel
theorem dJ5_append_cf1ce_38 : decode cJ5_append_cf1ce 38 = .ok (.iload_n 2, 1) := by decide +kernel
theorem dJ5_append_cf1ce_39 : decode cJ5_append_cf1ce 39 = .ok (.iadd, 1) := by decide +kernel
theorem dJ5_append_cf1ce_40 : decode cJ5_append_cf1ce 40 = .ok (.putfield 79, 3) := by decide +kernel
theorem dJ5_append_cf1ce_43 : decode cJ5_append_cf1ce 43 = .ok (.aload_n 0, 1) := by decide +kernel
theorem dJ5_append_cf1ce_44 : decode cJ5_append_cf1ce 44 = .ok (.areturn, 1) := by decide +kernel
theorem dJ5_appendNull_278bc_0 : decode cJ5_appendNull_278bc 0 = .ok (.aload_n 0, 1) := by decide +kernel
theorem dJ5_appendNull_278bc_1 : decode cJ5_appendNull_278bc 1 = .ok (.aload_n 0, 1) := by decide +kernel
theorem dJ5_appendNull_278bc_2 : decode cJ5_appendNull_278bc 2 = .ok (.getfield 79, 3) := by decide +kernel
theorem dJ5_appendNull_278bc_5 : decode cJ5_appendNull_278bc 5 = .ok (.iconst 4, 1) := by decide +kernel
theorem dJ5_appendNull_278bc_6 : decode cJ5_appendNull_278bc 6 = .ok (.iadd, 1) := by decide +kernel
theorem dJ5_appendNull_278bc_7 : decode cJ5_appendNull_278bc 7 = .ok (.invokevirtual 100, 3) := by decide +kernel
theorem dJ5_appendNull_278bc_10 : decode cJ5_appendNull_278bc 10 = .ok (.aload_n 0, 1) := by decide +kernel
theorem dJ5_appendNull_278bc_11 : decode cJ5_appendNull_278bc 11 = .ok (.getfield 79, 3) := by decide +kernel
theorem dJ5_appendNull_278bc_14 : decode cJ5_appendNull_278bc 14 = .ok (.istore_n 1, 1) := by decide +kernel
theorem dJ5_appendNull_278bc_15 : decode cJ5_appendNull_278bc 15 = .ok (.aload_n 0, 1) := by decide +kernel
theorem dJ5_appendNull_278bc_16 : decode cJ5_appendNull_278bc 16 = .ok (.getfield 15, 3) := by decide +kernel
theorem dJ5_appendNull_278bc_19 : decode cJ5_appendNull_278bc 19 = .ok (.astore_n 2, 1) := by decide +kernel
theorem dJ5_appendNull_278bc_20 : decode cJ5_appendNull_278bc 20 = .ok (.aload_n 0, 1) := by decide +kernel
theorem dJ5_appendNull_278bc_21 : decode cJ5_appendNull_278bc 21 = .ok (.invokevirtual 83, 3) := by decide +kernel
theorem dJ5_appendNull_278bc_24 : decode cJ5_appendNull_278bc 24 = .ok (.ifCond .eq 38, 3) := by decide +kernel
theorem dJ5_appendNull_278bc_27 : decode cJ5_appendNull_278bc 27 = .ok (.aload_n 2, 1) := by decide +kernel
theorem dJ5_appendNull_278bc_28 : decode cJ5_appendNull_278bc 28 = .ok (.iload_n 1, 1) := by decide +kernel
theorem dJ5_appendNull_278bc_29 : decode cJ5_appendNull_278bc 29 = .ok (.iinc 1 1, 3) := by decide +kernel
theorem dJ5_appendNull_278bc_32 : decode cJ5_appendNull_278bc 32 = .ok (.bipush 110, 2) := by decide +kernel
theorem dJ5_appendNull_278bc_34 : decode cJ5_appendNull_278bc 34 = .ok (.bastore, 1) := by decide +kernel
theorem dJ5_appendNull_278bc_35 : decode cJ5_appendNull_278bc 35 = .ok (.aload_n 2, 1) := by decide +kernel
theorem dJ5_appendNull_278bc_36 : decode cJ5_appendNull_278bc 36 = .ok (.iload_n 1, 1) := by decide +kernel
theorem dJ5_appendNull_278bc_37 : decode cJ5_appendNull_278bc 37 = .ok (.iinc 1 1, 3) := by decide +kernel
theorem dJ5_appendNull_278bc_40 : decode cJ5_appendNull_278bc 40 = .ok (.bipush 117, 2) := by decide +kernel
theorem dJ5_appendNull_278bc_42 : decode cJ5_appendNull_278bc 42 = .ok (.bastore, 1) := by decide +kernel
theorem dJ5_appendNull_278bc_43 : decode cJ5_appendNull_278bc 43 = .ok (.aload_n 2, 1) := by decide +kernel
theorem dJ5_appendNull_278bc_44 : decode cJ5_appendNull_278bc 44 = .ok (.iload_n 1, 1) := by decide +kernel
theorem dJ5_appendNull_278bc_45 : decode cJ5_appendNull_278bc 45 = .ok (.iinc 1 1, 3) := by decide +kernel
theorem dJ5_appendNull_278bc_48 : decode cJ5_appendNull_278bc 48 = .ok (.bipush 108, 2) := by decide +kernel
theorem dJ5_appendNull_278bc_50 : decode cJ5_appendNull_278bc 50 = .ok (.bastore, 1) := by decide +kernel
theorem dJ5_appendNull_278bc_51 : decode cJ5_appendNull_278bc 51 = .ok (.aload_n 2, 1) := by decide +kernel
theorem dJ5_appendNull_278bc_52 : decode cJ5_appendNull_278bc 52 = .ok (.iload_n 1, 1) := by decide +kernel
theorem dJ5_appendNull_278bc_53 : decode cJ5_appendNull_278bc 53 = .ok (.iinc 1 1, 3) := by decide +kernel
theorem dJ5_appendNull_278bc_56 : decode cJ5_appendNull_278bc 56 = .ok (.bipush 108, 2) := by decide +kernel
theorem dJ5_appendNull_278bc_58 : decode cJ5_appendNull_278bc 58 = .ok (.bastore, 1) := by decide +kernel
theorem dJ5_appendNull_278bc_59 : decode cJ5_appendNull_278bc 59 = .ok (.goto 17, 3) := by decide +kernel
theorem dJ5_appendNull_278bc_62 : decode cJ5_appendNull_278bc 62 = .ok (.aload_n 2, 1) := by decide +kernel
theorem dJ5_appendNull_278bc_63 : decode cJ5_appendNull_278bc 63 = .ok (.iload_n 1, 1) := by decide +kernel
theorem dJ5_appendNull_278bc_64 : decode cJ5_appendNull_278bc 64 = .ok (.bipush 110, 2) := by decide +kernel
theorem dJ5_appendNull_278bc_66 : decode cJ5_appendNull_278bc 66 = .ok (.bipush 117, 2) := by decide +kernel
theorem dJ5_appendNull_278bc_68 : decode cJ5_appendNull_278bc 68 = .ok (.bipush 108, 2) := by decide +kernel
theorem dJ5_appendNull_278bc_70 : decode cJ5_appendNull_278bc 70 = .ok (.bipush 108, 2) := by decide +kernel
theorem dJ5_appendNull_278bc_72 : decode cJ5_appendNull_278bc 72 = .ok (.invokestatic 226, 3) := by decide +kernel
theorem dJ5_appendNull_278bc_75 : decode cJ5_appendNull_278bc 75 = .ok (.istore_n 1, 1) := by decide +kernel
theorem dJ5_appendNull_278bc_76 : decode cJ5_appendNull_278bc 76 = .ok (.aload_n 0, 1) := by decide +kernel
theorem dJ5_appendNull_278bc_77 : decode cJ5_appendNull_278bc 77 = .ok (.iload_n 1, 1) := by decide +kernel
theorem dJ5_appendNull_278bc_78 : decode cJ5_appendNull_278bc 78 = .ok (.putfield 79, 3) := by decide +kernel
theorem dJ5_appendNull_278bc_81 : decode cJ5_appendNull_278bc 81 = .ok (.aload_n 0, 1) := by decide +kernel
theorem dJ5_appendNull_278bc_82 : decode cJ5_appendNull_278bc 82 = .ok (.areturn, 1) := by decide +kernel
theorem dJ5_getValue_6d5f1_0 : decode cJ5_getValue_6d5f1 0 = .ok (.aload_n 0, 1) := by decide +kernel
theorem dJ5_getValue_6d5f1_1 : decode cJ5_getValue_6d5f1 1 = .ok (.getfield 15, 3) := by decide +kernel
theorem dJ5_getValue_6d5f1_4 : decode cJ5_getValue_6d5f1 4 = .ok (.areturn, 1) := by decide +kernel
theorem dJ5_isLatin1_aae02_0 : decode cJ5_isLatin1_aae02 0 = .ok (.getstatic 18, 3) := by decide +kernel
theorem dJ5_isLatin1_aae02_3 : decode cJ5_isLatin1_aae02 3 = .ok (.ifCond .eq 14, 3) := by decide +kernel
theorem dJ5_isLatin1_aae02_6 : decode cJ5_isLatin1_aae02 6 = .ok (.aload_n 0, 1) := by decide +kernel
theorem dJ5_isLatin1_aae02_7 : decode cJ5_isLatin1_aae02 7 = .ok (.getfield 22, 3) := by decide +kernel
theorem dJ5_isLatin1_aae02_10 : decode cJ5_isLatin1_aae02 10 = .ok (.ifCond .ne 7, 3) := by decide +kernel
theorem dJ5_isLatin1_aae02_13 : decode cJ5_isLatin1_aae02 13 = .ok (.iconst 1, 1) := by decide +kernel
theorem dJ5_isLatin1_aae02_14 : decode cJ5_isLatin1_aae02 14 = .ok (.goto 4, 3) := by decide +kernel
theorem dJ5_isLatin1_aae02_17 : decode cJ5_isLatin1_aae02 17 = .ok (.iconst 0, 1) := by decide +kernel
theorem dJ5_isLatin1_aae02_18 : decode cJ5_isLatin1_aae02 18 = .ok (.ireturn, 1) := by decide +kernel
theorem dJ5_inflateIfNeededFor_a7421_0 : decode cJ5_inflateIfNeededFor_a7421 0 = .ok (.getstatic 18, 3) := by decide +kernel
theorem dJ5_inflateIfNeededFor_a7421_3 : decode cJ5_inflateIfNeededFor_a7421 3 = .ok (.ifCond .eq 18, 3) := by decide +kernel
theorem dJ5_inflateIfNeededFor_a7421_6 : decode cJ5_inflateIfNeededFor_a7421 6 = .ok (.aload_n 0, 1) := by decide +kernel
theorem dJ5_inflateIfNeededFor_a7421_7 : decode cJ5_inflateIfNeededFor_a7421 7 = .ok (.getfield 22, 3) := by decide +kernel
theorem dJ5_inflateIfNeededFor_a7421_10 : decode cJ5_inflateIfNeededFor_a7421 10 = .ok (.aload_n 1, 1) := by decide +kernel
theorem dJ5_inflateIfNeededFor_a7421_11 : decode cJ5_inflateIfNeededFor_a7421 11 = .ok (.invokevirtual 40, 3) := by decide +kernel
theorem dJ5_inflateIfNeededFor_a7421_14 : decode cJ5_inflateIfNeededFor_a7421 14 = .ok (.if_icmp .eq 7, 3) := by decide +kernel
theorem dJ5_inflateIfNeededFor_a7421_17 : decode cJ5_inflateIfNeededFor_a7421 17 = .ok (.aload_n 0, 1) := by decide +kernel
theorem dJ5_inflateIfNeededFor_a7421_18 : decode cJ5_inflateIfNeededFor_a7421 18 = .ok (.invokevirtual 195, 3) := by decide +kernel
theorem dJ5_inflateIfNeededFor_a7421_21 : decode cJ5_inflateIfNeededFor_a7421 21 = .ok (.return_, 1) := by decide +kernel
theorem dJ5_putStringAt_47b60_0 : decode cJ5_putStringAt_47b60 0 = .ok (.aload_n 0, 1) := by decide +kernel
theorem dJ5_putStringAt_47b60_1 : decode cJ5_putStringAt_47b60 1 = .ok (.aload_n 2, 1) := by decide +kernel
theorem dJ5_putStringAt_47b60_2 : decode cJ5_putStringAt_47b60 2 = .ok (.invokevirtual 397, 3) := by decide +kernel
theorem dJ5_putStringAt_47b60_5 : decode cJ5_putStringAt_47b60 5 = .ok (.aload_n 2, 1) := by decide +kernel
theorem dJ5_putStringAt_47b60_6 : decode cJ5_putStringAt_47b60 6 = .ok (.aload_n 0, 1) := by decide +kernel
theorem dJ5_putStringAt_47b60_7 : decode cJ5_putStringAt_47b60 7 = .ok (.getfield 15, 3) := by decide +kernel
theorem dJ5_putStringAt_47b60_10 : decode cJ5_putStringAt_47b60 10 = .ok (.iload_n 1, 1) := by decide +kernel
theorem dJ5_putStringAt_47b60_11 : decode cJ5_putStringAt_47b60 11 = .ok (.aload_n 0, 1) := by decide +kernel
theorem dJ5_putStringAt_47b60_12 : decode cJ5_putStringAt_47b60 12 = .ok (.getfield 22, 3) := by decide +kernel
theorem dJ5_putStringAt_47b60_15 : decode cJ5_putStringAt_47b60 15 = .ok (.invokevirtual 399, 3) := by decide +kernel
theorem dJ5_putStringAt_47b60_18 : decode cJ5_putStringAt_47b60 18 = .ok (.return_, 1) := by decide +kernel
theorem dJ7_fill_53178_0 : decode cJ7_fill_53178 0 = .ok (.iconst 0, 1) := by decide +kernel
theorem dJ7_fill_53178_1 : decode cJ7_fill_53178 1 = .ok (.istore_n 2, 1) := by decide +kernel
theorem dJ7_fill_53178_2 : decode cJ7_fill_53178 2 = .ok (.aload_n 0, 1) := by decide +kernel
theorem dJ7_fill_53178_3 : decode cJ7_fill_53178 3 = .ok (.arraylength, 1) := by decide +kernel
theorem dJ7_fill_53178_4 : decode cJ7_fill_53178 4 = .ok (.istore_n 3, 1) := by decide +kernel
theorem dJ7_fill_53178_5 : decode cJ7_fill_53178 5 = .ok (.iload_n 2, 1) := by decide +kernel
theorem dJ7_fill_53178_6 : decode cJ7_fill_53178 6 = .ok (.iload_n 3, 1) := by decide +kernel
theorem dJ7_fill_53178_7 : decode cJ7_fill_53178 7 = .ok (.if_icmp .ge 13, 3) := by decide +kernel
theorem dJ7_fill_53178_10 : decode cJ7_fill_53178 10 = .ok (.aload_n 0, 1) := by decide +kernel
theorem dJ7_fill_53178_11 : decode cJ7_fill_53178 11 = .ok (.iload_n 2, 1) := by decide +kernel
theorem dJ7_fill_53178_12 : decode cJ7_fill_53178 12 = .ok (.iload_n 1, 1) := by decide +kernel
theorem dJ7_fill_53178_13 : decode cJ7_fill_53178 13 = .ok (.iastore, 1) := by decide +kernel
theorem dJ7_fill_53178_14 : decode cJ7_fill_53178 14 = .ok (.iinc 2 1, 3) := by decide +kernel
theorem dJ7_fill_53178_17 : decode cJ7_fill_53178 17 = .ok (.goto (-12), 3) := by decide +kernel
theorem dJ7_fill_53178_20 : decode cJ7_fill_53178 20 = .ok (.return_, 1) := by decide +kernel
theorem dJ7_copyOf_9075b_0 : decode cJ7_copyOf_9075b 0 = .ok (.iload_n 1, 1) := by decide +kernel
theorem dJ7_copyOf_9075b_1 : decode cJ7_copyOf_9075b 1 = .ok (.aload_n 0, 1) := by decide +kernel
theorem dJ7_copyOf_9075b_2 : decode cJ7_copyOf_9075b 2 = .ok (.arraylength, 1) := by decide +kernel
theorem dJ7_copyOf_9075b_3 : decode cJ7_copyOf_9075b 3 = .ok (.if_icmp .ne 11, 3) := by decide +kernel
theorem dJ7_copyOf_9075b_6 : decode cJ7_copyOf_9075b 6 = .ok (.aload_n 0, 1) := by decide +kernel
theorem dJ7_copyOf_9075b_7 : decode cJ7_copyOf_9075b 7 = .ok (.invokevirtual 310, 3) := by decide +kernel
theorem dJ7_copyOf_9075b_10 : decode cJ7_copyOf_9075b 10 = .ok (.checkcast 311, 3) := by decide +kernel
theorem dJ7_copyOf_9075b_13 : decode cJ7_copyOf_9075b 13 = .ok (.areturn, 1) := by decide +kernel
theorem dJ7_copyOf_9075b_14 : decode cJ7_copyOf_9075b 14 = .ok (.iload_n 1, 1) := by decide +kernel
theorem dJ7_copyOf_9075b_15 : decode cJ7_copyOf_9075b 15 = .ok (.newarray .byte, 2) := by decide +kernel
theorem dJ7_copyOf_9075b_17 : decode cJ7_copyOf_9075b 17 = .ok (.astore_n 2, 1) := by decide +kernel
theorem dJ7_copyOf_9075b_18 : decode cJ7_copyOf_9075b 18 = .ok (.aload_n 0, 1) := by decide +kernel
theorem dJ7_copyOf_9075b_19 : decode cJ7_copyOf_9075b 19 = .ok (.iconst 0, 1) := by decide +kernel
theorem dJ7_copyOf_9075b_20 : decode cJ7_copyOf_9075b 20 = .ok (.aload_n 2, 1) := by decide +kernel
theorem dJ7_copyOf_9075b_21 : decode cJ7_copyOf_9075b 21 = .ok (.iconst 0, 1) := by decide +kernel
theorem dJ7_copyOf_9075b_22 : decode cJ7_copyOf_9075b 22 = .ok (.aload_n 0, 1) := by decide +kernel
theorem dJ7_copyOf_9075b_23 : decode cJ7_copyOf_9075b 23 = .ok (.arraylength, 1) := by decide +kernel
theorem dJ7_copyOf_9075b_24 : decode cJ7_copyOf_9075b 24 = .ok (.iload_n 1, 1) := by decide +kernel
theorem dJ7_copyOf_9075b_25 : decode cJ7_copyOf_9075b 25 = .ok (.invokestatic 304, 3) := by decide +kernel
theorem dJ7_copyOf_9075b_28 : decode cJ7_copyOf_9075b 28 = .ok (.invokestatic 150, 3) := by decide +kernel
theorem dJ7_copyOf_9075b_31 : decode cJ7_copyOf_9075b 31 = .ok (.aload_n 2, 1) := by decide +kernel
theorem dJ7_copyOf_9075b_32 : decode cJ7_copyOf_9075b 32 = .ok (.areturn, 1) := by decide +kernel
theorem dJ7_checkLength_df160_0 : decode cJ7_checkLength_df160 0 = .ok (.iload_n 1, 1) := by decide +kernel
theorem dJ7_checkLength_df160_1 : decode cJ7_checkLength_df160 1 = .ok (.iload_n 0, 1) := by decide +kernel
theorem dJ7_checkLength_df160_2 : decode cJ7_checkLength_df160 2 = .ok (.if_icmp .ge 35, 3) := by decide +kernel
theorem dJ7_checkLength_df160_5 : decode cJ7_checkLength_df160 5 = .ok (.new 43, 3) := by decide +kernel
theorem dJ7_checkLength_df160_8 : decode cJ7_checkLength_df160 8 = .ok (.dup, 1) := by decide +kernel
theorem dJ7_checkLength_df160_9 : decode cJ7_checkLength_df160 9 = .ok (.new 45, 3) := by decide +kernel
theorem dJ7_checkLength_df160_12 : decode cJ7_checkLength_df160 12 = .ok (.dup, 1) := by decide +kernel
theorem dJ7_checkLength_df160_13 : decode cJ7_checkLength_df160 13 = .ok (.invokespecial 47, 3) := by decide +kernel
theorem dJ7_checkLength_df160_16 : decode cJ7_checkLength_df160 16 = .ok (.iload_n 0, 1) := by decide +kernel
theorem dJ7_checkLength_df160_17 : decode cJ7_checkLength_df160 17 = .ok (.invokevirtual 54, 3) := by decide +kernel
theorem dJ7_checkLength_df160_20 : decode cJ7_checkLength_df160 20 = .ok (.ldc_w 337, 3) := by decide +kernel
theorem dJ7_checkLength_df160_23 : decode cJ7_checkLength_df160 23 = .ok (.invokevirtual 50, 3) := by decide +kernel
theorem dJ7_checkLength_df160_26 : decode cJ7_checkLength_df160 26 = .ok (.iload_n 1, 1) := by decide +kernel
theorem dJ7_checkLength_df160_27 : decode cJ7_checkLength_df160 27 = .ok (.invokevirtual 54, 3) := by decide +kernel
theorem dJ7_checkLength_df160_30 : decode cJ7_checkLength_df160 30 = .ok (.invokevirtual 61, 3) := by decide +kernel
theorem dJ7_checkLength_df160_33 : decode cJ7_checkLength_df160 33 = .ok (.invokespecial 65, 3) := by decide +kernel
theorem dJ7_checkLength_df160_36 : decode cJ7_checkLength_df160 36 = .ok (.athrow, 1) := by decide +kernel
theorem dJ7_checkLength_df160_37 : decode cJ7_checkLength_df160 37 = .ok (.return_, 1) := by decide +kernel
theorem dJ7_copyOfRange_39247_0 : decode cJ7_copyOfRange_39247 0 = .ok (.iload_n 1, 1) := by decide +kernel
theorem dJ7_copyOfRange_39247_1 : decode cJ7_copyOfRange_39247 1 = .ok (.ifCond .ne 9, 3) := by decide +kernel
theorem dJ7_copyOfRange_39247_4 : decode cJ7_copyOfRange_39247 4 = .ok (.iload_n 2, 1) := by decide +kernel
theorem dJ7_copyOfRange_39247_5 : decode cJ7_copyOfRange_39247 5 = .ok (.aload_n 0, 1) := by decide +kernel
theorem dJ7_copyOfRange_39247_6 : decode cJ7_copyOfRange_39247 6 = .ok (.arraylength, 1) := by decide +kernel
theorem dJ7_copyOfRange_39247_7 : decode cJ7_copyOfRange_39247 7 = .ok (.if_icmp .eq 10, 3) := by decide +kernel
theorem dJ7_copyOfRange_39247_10 : decode cJ7_copyOfRange_39247 10 = .ok (.aload_n 0, 1) := by decide +kernel
theorem dJ7_copyOfRange_39247_11 : decode cJ7_copyOfRange_39247 11 = .ok (.iload_n 1, 1) := by decide +kernel
theorem dJ7_copyOfRange_39247_12 : decode cJ7_copyOfRange_39247 12 = .ok (.iload_n 2, 1) := by decide +kernel
theorem dJ7_copyOfRange_39247_13 : decode cJ7_copyOfRange_39247 13 = .ok (.invokestatic 339, 3) := by decide +kernel
theorem dJ7_copyOfRange_39247_16 : decode cJ7_copyOfRange_39247 16 = .ok (.areturn, 1) := by decide +kernel
theorem dJ7_copyOfRange_39247_17 : decode cJ7_copyOfRange_39247 17 = .ok (.aload_n 0, 1) := by decide +kernel
theorem dJ7_copyOfRange_39247_18 : decode cJ7_copyOfRange_39247 18 = .ok (.invokevirtual 310, 3) := by decide +kernel
theorem dJ7_copyOfRange_39247_21 : decode cJ7_copyOfRange_39247 21 = .ok (.checkcast 311, 3) := by decide +kernel
theorem dJ7_copyOfRange_39247_24 : decode cJ7_copyOfRange_39247 24 = .ok (.areturn, 1) := by decide +kernel
theorem dJ7_copyOfRangeByte_39247_0 : decode cJ7_copyOfRangeByte_39247 0 = .ok (.iload_n 1, 1) := by decide +kernel
theorem dJ7_copyOfRangeByte_39247_1 : decode cJ7_copyOfRangeByte_39247 1 = .ok (.iload_n 2, 1) := by decide +kernel
theorem dJ7_copyOfRangeByte_39247_2 : decode cJ7_copyOfRangeByte_39247 2 = .ok (.invokestatic 343, 3) := by decide +kernel
theorem dJ7_copyOfRangeByte_39247_5 : decode cJ7_copyOfRangeByte_39247 5 = .ok (.iload_n 2, 1) := by decide +kernel
theorem dJ7_copyOfRangeByte_39247_6 : decode cJ7_copyOfRangeByte_39247 6 = .ok (.iload_n 1, 1) := by decide +kernel
theorem dJ7_copyOfRangeByte_39247_7 : decode cJ7_copyOfRangeByte_39247 7 = .ok (.isub, 1) := by decide +kernel
theorem dJ7_copyOfRangeByte_39247_8 : decode cJ7_copyOfRangeByte_39247 8 = .ok (.istore_n 3, 1) := by decide +kernel
theorem dJ7_copyOfRangeByte_39247_9 : decode cJ7_copyOfRangeByte_39247 9 = .ok (.iload_n 3, 1) := by decide +kernel
theorem dJ7_copyOfRangeByte_39247_10 : decode cJ7_copyOfRangeByte_39247 10 = .ok (.newarray .byte, 2) := by decide +kernel
theorem dJ7_copyOfRangeByte_39247_12 : decode cJ7_copyOfRangeByte_39247 12 = .ok (.astore 4, 2) := by decide +kernel
theorem dJ7_copyOfRangeByte_39247_14 : decode cJ7_copyOfRangeByte_39247 14 = .ok (.aload_n 0, 1) := by decide +kernel
theorem dJ7_copyOfRangeByte_39247_15 : decode cJ7_copyOfRangeByte_39247 15 = .ok (.iload_n 1, 1) := by decide +kernel
theorem dJ7_copyOfRangeByte_39247_16 : decode cJ7_copyOfRangeByte_39247 16 = .ok (.aload 4, 2) := by decide +kernel
theorem dJ7_copyOfRangeByte_39247_18 : decode cJ7_copyOfRangeByte_39247 18 = .ok (.iconst 0, 1) := by decide +kernel
theorem dJ7_copyOfRangeByte_39247_19 : decode cJ7_copyOfRangeByte_39247 19 = .ok (.aload_n 0, 1) := by decide +kernel
theorem dJ7_copyOfRangeByte_39247_20 : decode cJ7_copyOfRangeByte_39247 20 = .ok (.arraylength, 1) := by decide +kernel
theorem dJ7_copyOfRangeByte_39247_21 : decode cJ7_copyOfRangeByte_39247 21 = .ok (.iload_n 1, 1) := by decide +kernel
theorem dJ7_copyOfRangeByte_39247_22 : decode cJ7_copyOfRangeByte_39247 22 = .ok (.isub, 1) := by decide +kernel
theorem dJ7_copyOfRangeByte_39247_23 : decode cJ7_copyOfRangeByte_39247 23 = .ok (.iload_n 3, 1) := by decide +kernel
theorem dJ7_copyOfRangeByte_39247_24 : decode cJ7_copyOfRangeByte_39247 24 = .ok (.invokestatic 304, 3) := by decide +kernel
theorem dJ7_copyOfRangeByte_39247_27 : decode cJ7_copyOfRangeByte_39247 27 = .ok (.invokestatic 150, 3) := by decide +kernel
theorem dJ7_copyOfRangeByte_39247_30 : decode cJ7_copyOfRangeByte_39247 30 = .ok (.aload 4, 2) := by decide +kernel
theorem dJ7_copyOfRangeByte_39247_32 : decode cJ7_copyOfRangeByte_39247 32 = .ok (.areturn, 1) := by decide +kernel
theorem dJ9_max_7cf53_0 : decode cJ9_max_7cf53 0 = .ok (.iload_n 0, 1) := by decide +kernel
theorem dJ9_max_7cf53_1 : decode cJ9_max_7cf53 1 = .ok (.iload_n 1, 1) := by decide +kernel
theorem dJ9_max_7cf53_2 : decode cJ9_max_7cf53 2 = .ok (.if_icmp .lt 7, 3) := by decide +kernel
theorem dJ9_max_7cf53_5 : decode cJ9_max_7cf53 5 = .ok (.iload_n 0, 1) := by decide +kernel
theorem dJ9_max_7cf53_6 : decode cJ9_max_7cf53 6 = .ok (.goto 4, 3) := by decide +kernel
theorem dJ9_max_7cf53_9 : decode cJ9_max_7cf53 9 = .ok (.iload_n 1, 1) := by decide +kernel
theorem dJ9_max_7cf53_10 : decode cJ9_max_7cf53 10 = .ok (.ireturn, 1) := by decide +kernel
theorem dJ9_min_7cf53_0 : decode cJ9_min_7cf53 0 = .ok (.iload_n 0, 1) := by decide +kernel
theorem dJ9_min_7cf53_1 : decode cJ9_min_7cf53 1 = .ok (.iload_n 1, 1) := by decide +kernel
theorem dJ9_min_7cf53_2 : decode cJ9_min_7cf53 2 = .ok (.if_icmp .gt 7, 3) := by decide +kernel
theorem dJ9_min_7cf53_5 : decode cJ9_min_7cf53 5 = .ok (.iload_n 0, 1) := by decide +kernel
theorem dJ9_min_7cf53_6 : decode cJ9_min_7cf53 6 = .ok (.goto 4, 3) := by decide +kernel
theorem dJ9_min_7cf53_9 : decode cJ9_min_7cf53 9 = .ok (.iload_n 1, 1) := by decide +kernel
theorem dJ9_min_7cf53_10 : decode cJ9_min_7cf53 10 = .ok (.ireturn, 1) := by decide +kernel
