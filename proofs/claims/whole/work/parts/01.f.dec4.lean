theorem dX12_thrown_0 : decode cX12_thrown 0 = .ok (.aload_n 0, 1) := by decide +kernel
theorem dX12_thrown_1 : decode cX12_thrown 1 = .ok (.getfield 1, 3) := by decide +kernel
theorem dX12_thrown_4 : decode cX12_thrown 4 = .ok (.ireturn, 1) := by decide +kernel
theorem dX12_no_0 : decode cX12_no 0 = .ok (.aload_n 0, 1) := by decide +kernel
theorem dX12_no_1 : decode cX12_no 1 = .ok (.iload_n 1, 1) := by decide +kernel
theorem dX12_no_2 : decode cX12_no 2 = .ok (.putfield 1, 3) := by decide +kernel
theorem dX12_no_5 : decode cX12_no 5 = .ok (.iconst 0, 1) := by decide +kernel
theorem dX12_no_6 : decode cX12_no 6 = .ok (.ireturn, 1) := by decide +kernel
theorem dX12_isIn_0 : decode cX12_isIn 0 = .ok (.iload_n 0, 1) := by decide +kernel
theorem dX12_isIn_1 : decode cX12_isIn 1 = .ok (.iload_n 1, 1) := by decide +kernel
theorem dX12_isIn_2 : decode cX12_isIn 2 = .ok (.if_icmp .lt 12, 3) := by decide +kernel
theorem dX12_isIn_5 : decode cX12_isIn 5 = .ok (.iload_n 0, 1) := by decide +kernel
theorem dX12_isIn_6 : decode cX12_isIn 6 = .ok (.iload_n 2, 1) := by decide +kernel
theorem dX12_isIn_7 : decode cX12_isIn 7 = .ok (.if_icmp .gt 7, 3) := by decide +kernel
theorem dX12_isIn_10 : decode cX12_isIn 10 = .ok (.iconst 1, 1) := by decide +kernel
theorem dX12_isIn_11 : decode cX12_isIn 11 = .ok (.goto 4, 3) := by decide +kernel
theorem dX12_isIn_14 : decode cX12_isIn 14 = .ok (.iconst 0, 1) := by decide +kernel
theorem dX12_isIn_15 : decode cX12_isIn 15 = .ok (.ireturn, 1) := by decide +kernel
theorem dX12_feed_0 : decode cX12_feed 0 = .ok (.aload_n 0, 1) := by decide +kernel
theorem dX12_feed_1 : decode cX12_feed 1 = .ok (.iconst 0, 1) := by decide +kernel
theorem dX12_feed_2 : decode cX12_feed 2 = .ok (.putfield 1, 3) := by decide +kernel
theorem dX12_feed_5 : decode cX12_feed 5 = .ok (.aload_n 0, 1) := by decide +kernel
theorem dX12_feed_6 : decode cX12_feed 6 = .ok (.getfield 7, 3) := by decide +kernel
theorem dX12_feed_9 : decode cX12_feed 9 = .ok (.bipush 20, 2) := by decide +kernel
theorem dX12_feed_11 : decode cX12_feed 11 = .ok (.iadd, 1) := by decide +kernel
theorem dX12_feed_12 : decode cX12_feed 12 = .ok (.sipush 2000, 3) := by decide +kernel
theorem dX12_feed_15 : decode cX12_feed 15 = .ok (.if_icmp .le 9, 3) := by decide +kernel
theorem dX12_feed_18 : decode cX12_feed 18 = .ok (.aload_n 0, 1) := by decide +kernel
theorem dX12_feed_19 : decode cX12_feed 19 = .ok (.iconst 1, 1) := by decide +kernel
theorem dX12_feed_20 : decode cX12_feed 20 = .ok (.invokevirtual 10, 3) := by decide +kernel
theorem dX12_feed_23 : decode cX12_feed 23 = .ok (.ireturn, 1) := by decide +kernel
theorem dX12_feed_24 : decode cX12_feed 24 = .ok (.aload_n 0, 1) := by decide +kernel
theorem dX12_feed_25 : decode cX12_feed 25 = .ok (.iload_n 1, 1) := by decide +kernel
theorem dX12_feed_26 : decode cX12_feed 26 = .ok (.invokevirtual 14, 3) := by decide +kernel
theorem dX12_feed_29 : decode cX12_feed 29 = .ok (.aload_n 0, 1) := by decide +kernel
theorem dX12_feed_30 : decode cX12_feed 30 = .ok (.iload_n 2, 1) := by decide +kernel
theorem dX12_feed_31 : decode cX12_feed 31 = .ok (.invokevirtual 14, 3) := by decide +kernel
theorem dX12_feed_34 : decode cX12_feed 34 = .ok (.aload_n 0, 1) := by decide +kernel
theorem dX12_feed_35 : decode cX12_feed 35 = .ok (.iload_n 3, 1) := by decide +kernel
theorem dX12_feed_36 : decode cX12_feed 36 = .ok (.invokevirtual 14, 3) := by decide +kernel
theorem dX12_feed_39 : decode cX12_feed 39 = .ok (.aload_n 0, 1) := by decide +kernel
theorem dX12_feed_40 : decode cX12_feed 40 = .ok (.iload 4, 2) := by decide +kernel
theorem dX12_feed_42 : decode cX12_feed 42 = .ok (.invokevirtual 14, 3) := by decide +kernel
theorem dX12_feed_45 : decode cX12_feed 45 = .ok (.aload_n 0, 1) := by decide +kernel
theorem dX12_feed_46 : decode cX12_feed 46 = .ok (.iload 5, 2) := by decide +kernel
theorem dX12_feed_48 : decode cX12_feed 48 = .ok (.invokevirtual 14, 3) := by decide +kernel
theorem dX12_feed_51 : decode cX12_feed 51 = .ok (.aload_n 0, 1) := by decide +kernel
theorem dX12_feed_52 : decode cX12_feed 52 = .ok (.getfield 7, 3) := by decide +kernel
theorem dX12_feed_55 : decode cX12_feed 55 = .ok (.ireturn, 1) := by decide +kernel
theorem dX12_append_0 : decode cX12_append 0 = .ok (.bipush 24, 2) := by decide +kernel
theorem dX12_append_2 : decode cX12_append 2 = .ok (.istore_n 2, 1) := by decide +kernel
theorem dX12_append_3 : decode cX12_append 3 = .ok (.iload_n 2, 1) := by decide +kernel
theorem dX12_append_4 : decode cX12_append 4 = .ok (.ifCond .lt 35, 3) := by decide +kernel
theorem dX12_append_7 : decode cX12_append 7 = .ok (.aload_n 0, 1) := by decide +kernel
theorem dX12_append_8 : decode cX12_append 8 = .ok (.getfield 18, 3) := by decide +kernel
theorem dX12_append_11 : decode cX12_append 11 = .ok (.aload_n 0, 1) := by decide +kernel
theorem dX12_append_12 : decode cX12_append 12 = .ok (.getfield 7, 3) := by decide +kernel
theorem dX12_append_15 : decode cX12_append 15 = .ok (.iload_n 1, 1) := by decide +kernel
theorem dX12_append_16 : decode cX12_append 16 = .ok (.iload_n 2, 1) := by decide +kernel
theorem dX12_append_17 : decode cX12_append 17 = .ok (.ishr, 1) := by decide +kernel
theorem dX12_append_18 : decode cX12_append 18 = .ok (.sipush 255, 3) := by decide +kernel
theorem dX12_append_21 : decode cX12_append 21 = .ok (.iand, 1) := by decide +kernel
theorem dX12_append_22 : decode cX12_append 22 = .ok (.iastore, 1) := by decide +kernel
theorem dX12_append_23 : decode cX12_append 23 = .ok (.aload_n 0, 1) := by decide +kernel
theorem dX12_append_24 : decode cX12_append 24 = .ok (.dup, 1) := by decide +kernel
theorem dX12_append_25 : decode cX12_append 25 = .ok (.getfield 7, 3) := by decide +kernel
theorem dX12_append_28 : decode cX12_append 28 = .ok (.iconst 1, 1) := by decide +kernel
theorem dX12_append_29 : decode cX12_append 29 = .ok (.iadd, 1) := by decide +kernel
theorem dX12_append_30 : decode cX12_append 30 = .ok (.putfield 7, 3) := by decide +kernel
theorem dX12_append_33 : decode cX12_append 33 = .ok (.iinc 2 (-8), 3) := by decide +kernel
theorem dX12_append_36 : decode cX12_append 36 = .ok (.goto (-33), 3) := by decide +kernel
theorem dX12_append_39 : decode cX12_append 39 = .ok (.return_, 1) := by decide +kernel
theorem dX12_trim_0 : decode cX12_trim 0 = .ok (.aload_n 0, 1) := by decide +kernel
theorem dX12_trim_1 : decode cX12_trim 1 = .ok (.iconst 0, 1) := by decide +kernel
theorem dX12_trim_2 : decode cX12_trim 2 = .ok (.putfield 1, 3) := by decide +kernel
theorem dX12_trim_5 : decode cX12_trim 5 = .ok (.iload_n 1, 1) := by decide +kernel
theorem dX12_trim_6 : decode cX12_trim 6 = .ok (.iconst 0, 1) := by decide +kernel
theorem dX12_trim_7 : decode cX12_trim 7 = .ok (.aload_n 0, 1) := by decide +kernel
theorem dX12_trim_8 : decode cX12_trim 8 = .ok (.getfield 7, 3) := by decide +kernel
theorem dX12_trim_11 : decode cX12_trim 11 = .ok (.invokestatic 22, 3) := by decide +kernel
theorem dX12_trim_14 : decode cX12_trim 14 = .ok (.ifCond .ne 9, 3) := by decide +kernel
theorem dX12_trim_17 : decode cX12_trim 17 = .ok (.aload_n 0, 1) := by decide +kernel
theorem dX12_trim_18 : decode cX12_trim 18 = .ok (.iconst 1, 1) := by decide +kernel
theorem dX12_trim_19 : decode cX12_trim 19 = .ok (.invokevirtual 10, 3) := by decide +kernel
theorem dX12_trim_22 : decode cX12_trim 22 = .ok (.ireturn, 1) := by decide +kernel
theorem dX12_trim_23 : decode cX12_trim 23 = .ok (.aload_n 0, 1) := by decide +kernel
theorem dX12_trim_24 : decode cX12_trim 24 = .ok (.iload_n 1, 1) := by decide +kernel
theorem dX12_trim_25 : decode cX12_trim 25 = .ok (.putfield 7, 3) := by decide +kernel
theorem dX12_trim_28 : decode cX12_trim 28 = .ok (.iload_n 1, 1) := by decide +kernel
theorem dX12_trim_29 : decode cX12_trim 29 = .ok (.ireturn, 1) := by decide +kernel
theorem dX12_byteAt_0 : decode cX12_byteAt 0 = .ok (.iload_n 1, 1) := by decide +kernel
theorem dX12_byteAt_1 : decode cX12_byteAt 1 = .ok (.aload_n 0, 1) := by decide +kernel
theorem dX12_byteAt_2 : decode cX12_byteAt 2 = .ok (.getfield 7, 3) := by decide +kernel
theorem dX12_byteAt_5 : decode cX12_byteAt 5 = .ok (.if_icmp .ge 12, 3) := by decide +kernel
theorem dX12_byteAt_8 : decode cX12_byteAt 8 = .ok (.aload_n 0, 1) := by decide +kernel
theorem dX12_byteAt_9 : decode cX12_byteAt 9 = .ok (.getfield 18, 3) := by decide +kernel
theorem dX12_byteAt_12 : decode cX12_byteAt 12 = .ok (.iload_n 1, 1) := by decide +kernel
theorem dX12_byteAt_13 : decode cX12_byteAt 13 = .ok (.iaload, 1) := by decide +kernel
theorem dX12_byteAt_14 : decode cX12_byteAt 14 = .ok (.goto 4, 3) := by decide +kernel
theorem dX12_byteAt_17 : decode cX12_byteAt 17 = .ok (.iconst 0, 1) := by decide +kernel
theorem dX12_byteAt_18 : decode cX12_byteAt 18 = .ok (.ireturn, 1) := by decide +kernel
theorem dX12_isLetter_0 : decode cX12_isLetter 0 = .ok (.iload_n 0, 1) := by decide +kernel
theorem dX12_isLetter_1 : decode cX12_isLetter 1 = .ok (.bipush 97, 2) := by decide +kernel
theorem dX12_isLetter_3 : decode cX12_isLetter 3 = .ok (.if_icmp .lt 13, 3) := by decide +kernel
theorem dX12_isLetter_6 : decode cX12_isLetter 6 = .ok (.iload_n 0, 1) := by decide +kernel
theorem dX12_isLetter_7 : decode cX12_isLetter 7 = .ok (.bipush 122, 2) := by decide +kernel
theorem dX12_isLetter_9 : decode cX12_isLetter 9 = .ok (.if_icmp .gt 7, 3) := by decide +kernel
theorem dX12_isLetter_12 : decode cX12_isLetter 12 = .ok (.iconst 1, 1) := by decide +kernel
theorem dX12_isLetter_13 : decode cX12_isLetter 13 = .ok (.goto 4, 3) := by decide +kernel
theorem dX12_isLetter_16 : decode cX12_isLetter 16 = .ok (.iconst 0, 1) := by decide +kernel
theorem dX12_isLetter_17 : decode cX12_isLetter 17 = .ok (.ireturn, 1) := by decide +kernel
theorem dX12_isDigit_0 : decode cX12_isDigit 0 = .ok (.iload_n 0, 1) := by decide +kernel
theorem dX12_isDigit_1 : decode cX12_isDigit 1 = .ok (.bipush 48, 2) := by decide +kernel
theorem dX12_isDigit_3 : decode cX12_isDigit 3 = .ok (.if_icmp .lt 13, 3) := by decide +kernel
theorem dX12_isDigit_6 : decode cX12_isDigit 6 = .ok (.iload_n 0, 1) := by decide +kernel
theorem dX12_isDigit_7 : decode cX12_isDigit 7 = .ok (.bipush 57, 2) := by decide +kernel
theorem dX12_isDigit_9 : decode cX12_isDigit 9 = .ok (.if_icmp .gt 7, 3) := by decide +kernel
theorem dX12_isDigit_12 : decode cX12_isDigit 12 = .ok (.iconst 1, 1) := by decide +kernel
theorem dX12_isDigit_13 : decode cX12_isDigit 13 = .ok (.goto 4, 3) := by decide +kernel
theorem dX12_isDigit_16 : decode cX12_isDigit 16 = .ok (.iconst 0, 1) := by decide +kernel
theorem dX12_isDigit_17 : decode cX12_isDigit 17 = .ok (.ireturn, 1) := by decide +kernel
theorem dX12_split_0 : decode cX12_split 0 = .ok (.iconst 0, 1) := by decide +kernel
theorem dX12_split_1 : decode cX12_split 1 = .ok (.istore_n 1, 1) := by decide +kernel
theorem dX12_split_2 : decode cX12_split 2 = .ok (.iconst 0, 1) := by decide +kernel
theorem dX12_split_3 : decode cX12_split 3 = .ok (.istore_n 2, 1) := by decide +kernel
theorem dX12_split_4 : decode cX12_split 4 = .ok (.iconst 1, 1) := by decide +kernel
theorem dX12_split_5 : decode cX12_split 5 = .ok (.istore_n 3, 1) := by decide +kernel
theorem dX12_split_6 : decode cX12_split 6 = .ok (.iload_n 3, 1) := by decide +kernel
theorem dX12_split_7 : decode cX12_split 7 = .ok (.ifCond .eq 105, 3) := by decide +kernel
theorem dX12_split_10 : decode cX12_split 10 = .ok (.aload_n 0, 1) := by decide +kernel
theorem dX12_split_11 : decode cX12_split 11 = .ok (.iload_n 1, 1) := by decide +kernel
theorem dX12_split_12 : decode cX12_split 12 = .ok (.invokevirtual 26, 3) := by decide +kernel
theorem dX12_split_15 : decode cX12_split 15 = .ok (.bipush 32, 2) := by decide +kernel
theorem dX12_split_17 : decode cX12_split 17 = .ok (.if_icmp .eq 13, 3) := by decide +kernel
theorem dX12_split_20 : decode cX12_split 20 = .ok (.aload_n 0, 1) := by decide +kernel
theorem dX12_split_21 : decode cX12_split 21 = .ok (.iload_n 1, 1) := by decide +kernel
theorem dX12_split_22 : decode cX12_split 22 = .ok (.invokevirtual 26, 3) := by decide +kernel
theorem dX12_split_25 : decode cX12_split 25 = .ok (.bipush 10, 2) := by decide +kernel
theorem dX12_split_27 : decode cX12_split 27 = .ok (.if_icmp .ne 9, 3) := by decide +kernel
theorem dX12_split_30 : decode cX12_split 30 = .ok (.iinc 1 1, 3) := by decide +kernel
theorem dX12_split_33 : decode cX12_split 33 = .ok (.goto (-23), 3) := by decide +kernel
theorem dX12_split_36 : decode cX12_split 36 = .ok (.aload_n 0, 1) := by decide +kernel
theorem dX12_split_37 : decode cX12_split 37 = .ok (.getfield 29, 3) := by decide +kernel
theorem dX12_split_40 : decode cX12_split 40 = .ok (.iload_n 2, 1) := by decide +kernel
theorem dX12_split_41 : decode cX12_split 41 = .ok (.iload_n 1, 1) := by decide +kernel
theorem dX12_split_42 : decode cX12_split 42 = .ok (.iastore, 1) := by decide +kernel
theorem dX12_split_43 : decode cX12_split 43 = .ok (.aload_n 0, 1) := by decide +kernel
theorem dX12_split_44 : decode cX12_split 44 = .ok (.iload_n 2, 1) := by decide +kernel
theorem dX12_split_45 : decode cX12_split 45 = .ok (.iload_n 1, 1) := by decide +kernel
theorem dX12_split_46 : decode cX12_split 46 = .ok (.invokevirtual 32, 3) := by decide +kernel
theorem dX12_split_49 : decode cX12_split 49 = .ok (.iload_n 2, 1) := by decide +kernel
theorem dX12_split_50 : decode cX12_split 50 = .ok (.sipush 400, 3) := by decide +kernel
theorem dX12_split_53 : decode cX12_split 53 = .ok (.if_icmp .ne 19, 3) := by decide +kernel
theorem dX12_split_56 : decode cX12_split 56 = .ok (.aload_n 0, 1) := by decide +kernel
theorem dX12_split_57 : decode cX12_split 57 = .ok (.getfield 36, 3) := by decide +kernel
theorem dX12_split_60 : decode cX12_split 60 = .ok (.iload_n 2, 1) := by decide +kernel
theorem dX12_split_61 : decode cX12_split 61 = .ok (.iaload, 1) := by decide +kernel
theorem dX12_split_62 : decode cX12_split 62 = .ok (.ifCond .eq 10, 3) := by decide +kernel
theorem dX12_split_65 : decode cX12_split 65 = .ok (.aload_n 0, 1) := by decide +kernel
theorem dX12_split_66 : decode cX12_split 66 = .ok (.getfield 36, 3) := by decide +kernel
theorem dX12_split_69 : decode cX12_split 69 = .ok (.iload_n 2, 1) := by decide +kernel
theorem dX12_split_70 : decode cX12_split 70 = .ok (.iconst 5, 1) := by decide +kernel
theorem dX12_split_71 : decode cX12_split 71 = .ok (.iastore, 1) := by decide +kernel
theorem dX12_split_72 : decode cX12_split 72 = .ok (.aload_n 0, 1) := by decide +kernel
theorem dX12_split_73 : decode cX12_split 73 = .ok (.getfield 36, 3) := by decide +kernel
theorem dX12_split_76 : decode cX12_split 76 = .ok (.iload_n 2, 1) := by decide +kernel
theorem dX12_split_77 : decode cX12_split 77 = .ok (.iaload, 1) := by decide +kernel
theorem dX12_split_78 : decode cX12_split 78 = .ok (.ifCond .eq 17, 3) := by decide +kernel
theorem dX12_split_81 : decode cX12_split 81 = .ok (.aload_n 0, 1) := by decide +kernel
theorem dX12_split_82 : decode cX12_split 82 = .ok (.getfield 36, 3) := by decide +kernel
theorem dX12_split_85 : decode cX12_split 85 = .ok (.iload_n 2, 1) := by decide +kernel
theorem dX12_split_86 : decode cX12_split 86 = .ok (.iaload, 1) := by decide +kernel
theorem dX12_split_87 : decode cX12_split 87 = .ok (.iconst 5, 1) := by decide +kernel
theorem dX12_split_88 : decode cX12_split 88 = .ok (.if_icmp .eq 7, 3) := by decide +kernel
theorem dX12_split_91 : decode cX12_split 91 = .ok (.iconst 1, 1) := by decide +kernel
theorem dX12_split_92 : decode cX12_split 92 = .ok (.goto 4, 3) := by decide +kernel
theorem dX12_split_95 : decode cX12_split 95 = .ok (.iconst 0, 1) := by decide +kernel
theorem dX12_split_96 : decode cX12_split 96 = .ok (.istore_n 3, 1) := by decide +kernel
theorem dX12_split_97 : decode cX12_split 97 = .ok (.iload_n 1, 1) := by decide +kernel
theorem dX12_split_98 : decode cX12_split 98 = .ok (.aload_n 0, 1) := by decide +kernel
theorem dX12_split_99 : decode cX12_split 99 = .ok (.getfield 39, 3) := by decide +kernel
theorem dX12_split_102 : decode cX12_split 102 = .ok (.iload_n 2, 1) := by decide +kernel
theorem dX12_split_103 : decode cX12_split 103 = .ok (.iaload, 1) := by decide +kernel
theorem dX12_split_104 : decode cX12_split 104 = .ok (.iadd, 1) := by decide +kernel
theorem dX12_split_105 : decode cX12_split 105 = .ok (.istore_n 1, 1) := by decide +kernel
theorem dX12_split_106 : decode cX12_split 106 = .ok (.iinc 2 1, 3) := by decide +kernel
theorem dX12_split_109 : decode cX12_split 109 = .ok (.goto (-103), 3) := by decide +kernel
theorem dX12_split_112 : decode cX12_split 112 = .ok (.return_, 1) := by decide +kernel
theorem dX12_read_0 : decode cX12_read 0 = .ok (.aload_n 0, 1) := by decide +kernel
theorem dX12_read_1 : decode cX12_read 1 = .ok (.iload_n 2, 1) := by decide +kernel
theorem dX12_read_2 : decode cX12_read 2 = .ok (.invokevirtual 26, 3) := by decide +kernel
theorem dX12_read_5 : decode cX12_read 5 = .ok (.istore_n 3, 1) := by decide +kernel
theorem dX12_read_6 : decode cX12_read 6 = .ok (.aload_n 0, 1) := by decide +kernel
theorem dX12_read_7 : decode cX12_read 7 = .ok (.getfield 39, 3) := by decide +kernel
theorem dX12_read_10 : decode cX12_read 10 = .ok (.iload_n 1, 1) := by decide +kernel
theorem dX12_read_11 : decode cX12_read 11 = .ok (.iconst 1, 1) := by decide +kernel
theorem dX12_read_12 : decode cX12_read 12 = .ok (.iastore, 1) := by decide +kernel
theorem dX12_read_13 : decode cX12_read 13 = .ok (.aload_n 0, 1) := by decide +kernel
theorem dX12_read_14 : decode cX12_read 14 = .ok (.getfield 42, 3) := by decide +kernel
theorem dX12_read_17 : decode cX12_read 17 = .ok (.iload_n 1, 1) := by decide +kernel
theorem dX12_read_18 : decode cX12_read 18 = .ok (.iload_n 3, 1) := by decide +kernel
theorem dX12_read_19 : decode cX12_read 19 = .ok (.iastore, 1) := by decide +kernel
theorem dX12_read_20 : decode cX12_read 20 = .ok (.aload_n 0, 1) := by decide +kernel
theorem dX12_read_21 : decode cX12_read 21 = .ok (.getfield 36, 3) := by decide +kernel
theorem dX12_read_24 : decode cX12_read 24 = .ok (.iload_n 1, 1) := by decide +kernel
theorem dX12_read_25 : decode cX12_read 25 = .ok (.iload_n 2, 1) := by decide +kernel
theorem dX12_read_26 : decode cX12_read 26 = .ok (.aload_n 0, 1) := by decide +kernel
theorem dX12_read_27 : decode cX12_read 27 = .ok (.getfield 7, 3) := by decide +kernel
theorem dX12_read_30 : decode cX12_read 30 = .ok (.if_icmp .lt 7, 3) := by decide +kernel
theorem dX12_read_33 : decode cX12_read 33 = .ok (.iconst 0, 1) := by decide +kernel
theorem dX12_read_34 : decode cX12_read 34 = .ok (.goto 4, 3) := by decide +kernel
theorem dX12_read_37 : decode cX12_read 37 = .ok (.iconst 5, 1) := by decide +kernel
theorem dX12_read_38 : decode cX12_read 38 = .ok (.iastore, 1) := by decide +kernel
theorem dX12_read_39 : decode cX12_read 39 = .ok (.iload_n 3, 1) := by decide +kernel
theorem dX12_read_40 : decode cX12_read 40 = .ok (.invokestatic 45, 3) := by decide +kernel
theorem dX12_read_43 : decode cX12_read 43 = .ok (.ifCond .eq 9, 3) := by decide +kernel
theorem dX12_read_46 : decode cX12_read 46 = .ok (.aload_n 0, 1) := by decide +kernel
theorem dX12_read_47 : decode cX12_read 47 = .ok (.iload_n 1, 1) := by decide +kernel
theorem dX12_read_48 : decode cX12_read 48 = .ok (.iload_n 2, 1) := by decide +kernel
theorem dX12_read_49 : decode cX12_read 49 = .ok (.invokevirtual 49, 3) := by decide +kernel
theorem dX12_read_52 : decode cX12_read 52 = .ok (.iload_n 3, 1) := by decide +kernel
theorem dX12_read_53 : decode cX12_read 53 = .ok (.invokestatic 52, 3) := by decide +kernel
theorem dX12_read_56 : decode cX12_read 56 = .ok (.ifCond .eq 9, 3) := by decide +kernel
theorem dX12_read_59 : decode cX12_read 59 = .ok (.aload_n 0, 1) := by decide +kernel
theorem dX12_read_60 : decode cX12_read 60 = .ok (.iload_n 1, 1) := by decide +kernel
theorem dX12_read_61 : decode cX12_read 61 = .ok (.iload_n 2, 1) := by decide +kernel
theorem dX12_read_62 : decode cX12_read 62 = .ok (.invokevirtual 55, 3) := by decide +kernel
theorem dX12_read_65 : decode cX12_read 65 = .ok (.iload_n 3, 1) := by decide +kernel
theorem dX12_read_66 : decode cX12_read 66 = .ok (.bipush 40, 2) := by decide +kernel
theorem dX12_read_68 : decode cX12_read 68 = .ok (.if_icmp .eq 75, 3) := by decide +kernel
theorem dX12_read_71 : decode cX12_read 71 = .ok (.iload_n 3, 1) := by decide +kernel
theorem dX12_read_72 : decode cX12_read 72 = .ok (.bipush 41, 2) := by decide +kernel
theorem dX12_read_74 : decode cX12_read 74 = .ok (.if_icmp .eq 69, 3) := by decide +kernel
theorem dX12_read_77 : decode cX12_read 77 = .ok (.iload_n 3, 1) := by decide +kernel
theorem dX12_read_78 : decode cX12_read 78 = .ok (.bipush 91, 2) := by decide +kernel
theorem dX12_read_80 : decode cX12_read 80 = .ok (.if_icmp .eq 63, 3) := by decide +kernel
theorem dX12_read_83 : decode cX12_read 83 = .ok (.iload_n 3, 1) := by decide +kernel
theorem dX12_read_84 : decode cX12_read 84 = .ok (.bipush 93, 2) := by decide +kernel
theorem dX12_read_86 : decode cX12_read 86 = .ok (.if_icmp .eq 57, 3) := by decide +kernel
theorem dX12_read_89 : decode cX12_read 89 = .ok (.iload_n 3, 1) := by decide +kernel
theorem dX12_read_90 : decode cX12_read 90 = .ok (.bipush 59, 2) := by decide +kernel
theorem dX12_read_92 : decode cX12_read 92 = .ok (.if_icmp .eq 51, 3) := by decide +kernel
theorem dX12_read_95 : decode cX12_read 95 = .ok (.iload_n 3, 1) := by decide +kernel
theorem dX12_read_96 : decode cX12_read 96 = .ok (.bipush 44, 2) := by decide +kernel
theorem dX12_read_98 : decode cX12_read 98 = .ok (.if_icmp .eq 45, 3) := by decide +kernel
theorem dX12_read_101 : decode cX12_read 101 = .ok (.iload_n 3, 1) := by decide +kernel
theorem dX12_read_102 : decode cX12_read 102 = .ok (.bipush 43, 2) := by decide +kernel
theorem dX12_read_104 : decode cX12_read 104 = .ok (.if_icmp .eq 39, 3) := by decide +kernel
theorem dX12_read_107 : decode cX12_read 107 = .ok (.iload_n 3, 1) := by decide +kernel
theorem dX12_read_108 : decode cX12_read 108 = .ok (.bipush 45, 2) := by decide +kernel
theorem dX12_read_110 : decode cX12_read 110 = .ok (.if_icmp .eq 33, 3) := by decide +kernel
theorem dX12_read_113 : decode cX12_read 113 = .ok (.iload_n 3, 1) := by decide +kernel
theorem dX12_read_114 : decode cX12_read 114 = .ok (.bipush 42, 2) := by decide +kernel
theorem dX12_read_116 : decode cX12_read 116 = .ok (.if_icmp .eq 27, 3) := by decide +kernel
theorem dX12_read_119 : decode cX12_read 119 = .ok (.iload_n 3, 1) := by decide +kernel
theorem dX12_read_120 : decode cX12_read 120 = .ok (.bipush 47, 2) := by decide +kernel
theorem dX12_read_122 : decode cX12_read 122 = .ok (.if_icmp .eq 21, 3) := by decide +kernel
theorem dX12_read_125 : decode cX12_read 125 = .ok (.iload_n 3, 1) := by decide +kernel
theorem dX12_read_126 : decode cX12_read 126 = .ok (.bipush 60, 2) := by decide +kernel
theorem dX12_read_128 : decode cX12_read 128 = .ok (.if_icmp .eq 15, 3) := by decide +kernel
theorem dX12_read_131 : decode cX12_read 131 = .ok (.iload_n 3, 1) := by decide +kernel
theorem dX12_read_132 : decode cX12_read 132 = .ok (.bipush 62, 2) := by decide +kernel
theorem dX12_read_134 : decode cX12_read 134 = .ok (.if_icmp .eq 9, 3) := by decide +kernel
theorem dX12_read_137 : decode cX12_read 137 = .ok (.iload_n 3, 1) := by decide +kernel
theorem dX12_read_138 : decode cX12_read 138 = .ok (.bipush 61, 2) := by decide +kernel
theorem dX12_read_140 : decode cX12_read 140 = .ok (.if_icmp .ne 10, 3) := by decide +kernel
theorem dX12_read_143 : decode cX12_read 143 = .ok (.aload_n 0, 1) := by decide +kernel
theorem dX12_read_144 : decode cX12_read 144 = .ok (.getfield 36, 3) := by decide +kernel
theorem dX12_read_147 : decode cX12_read 147 = .ok (.iload_n 1, 1) := by decide +kernel
theorem dX12_read_148 : decode cX12_read 148 = .ok (.iconst 4, 1) := by decide +kernel
theorem dX12_read_149 : decode cX12_read 149 = .ok (.iastore, 1) := by decide +kernel
theorem dX12_read_150 : decode cX12_read 150 = .ok (.iload_n 3, 1) := by decide +kernel
theorem dX12_read_151 : decode cX12_read 151 = .ok (.bipush 60, 2) := by decide +kernel
theorem dX12_read_153 : decode cX12_read 153 = .ok (.if_icmp .eq 9, 3) := by decide +kernel
theorem dX12_read_156 : decode cX12_read 156 = .ok (.iload_n 3, 1) := by decide +kernel
theorem dX12_read_157 : decode cX12_read 157 = .ok (.bipush 62, 2) := by decide +kernel
theorem dX12_read_159 : decode cX12_read 159 = .ok (.if_icmp .ne 41, 3) := by decide +kernel
theorem dX12_read_162 : decode cX12_read 162 = .ok (.aload_n 0, 1) := by decide +kernel
theorem dX12_read_163 : decode cX12_read 163 = .ok (.iload_n 2, 1) := by decide +kernel
theorem dX12_read_164 : decode cX12_read 164 = .ok (.iconst 1, 1) := by decide +kernel
theorem dX12_read_165 : decode cX12_read 165 = .ok (.iadd, 1) := by decide +kernel
theorem dX12_read_166 : decode cX12_read 166 = .ok (.invokevirtual 26, 3) := by decide +kernel
theorem dX12_read_169 : decode cX12_read 169 = .ok (.bipush 61, 2) := by decide +kernel
theorem dX12_read_171 : decode cX12_read 171 = .ok (.if_icmp .ne 29, 3) := by decide +kernel
theorem dX12_read_174 : decode cX12_read 174 = .ok (.aload_n 0, 1) := by decide +kernel
theorem dX12_read_175 : decode cX12_read 175 = .ok (.getfield 39, 3) := by decide +kernel
theorem dX12_read_178 : decode cX12_read 178 = .ok (.iload_n 1, 1) := by decide +kernel
theorem dX12_read_179 : decode cX12_read 179 = .ok (.iconst 2, 1) := by decide +kernel
theorem dX12_read_180 : decode cX12_read 180 = .ok (.iastore, 1) := by decide +kernel
theorem dX12_read_181 : decode cX12_read 181 = .ok (.aload_n 0, 1) := by decide +kernel
theorem dX12_read_182 : decode cX12_read 182 = .ok (.getfield 42, 3) := by decide +kernel
theorem dX12_read_185 : decode cX12_read 185 = .ok (.iload_n 1, 1) := by decide +kernel
theorem dX12_read_186 : decode cX12_read 186 = .ok (.iload_n 3, 1) := by decide +kernel
theorem dX12_read_187 : decode cX12_read 187 = .ok (.bipush 60, 2) := by decide +kernel
theorem dX12_read_189 : decode cX12_read 189 = .ok (.if_icmp .ne 8, 3) := by decide +kernel
theorem dX12_read_192 : decode cX12_read 192 = .ok (.bipush 108, 2) := by decide +kernel
theorem dX12_read_194 : decode cX12_read 194 = .ok (.goto 5, 3) := by decide +kernel
theorem dX12_read_197 : decode cX12_read 197 = .ok (.bipush 103, 2) := by decide +kernel
theorem dX12_read_199 : decode cX12_read 199 = .ok (.iastore, 1) := by decide +kernel
theorem dX12_read_200 : decode cX12_read 200 = .ok (.return_, 1) := by decide +kernel
theorem dX12_readWord_0 : decode cX12_readWord 0 = .ok (.iload_n 2, 1) := by decide +kernel
theorem dX12_readWord_1 : decode cX12_readWord 1 = .ok (.istore_n 3, 1) := by decide +kernel
theorem dX12_readWord_2 : decode cX12_readWord 2 = .ok (.aload_n 0, 1) := by decide +kernel
theorem dX12_readWord_3 : decode cX12_readWord 3 = .ok (.iload_n 3, 1) := by decide +kernel
theorem dX12_readWord_4 : decode cX12_readWord 4 = .ok (.invokevirtual 26, 3) := by decide +kernel
theorem dX12_readWord_7 : decode cX12_readWord 7 = .ok (.invokestatic 45, 3) := by decide +kernel
theorem dX12_readWord_10 : decode cX12_readWord 10 = .ok (.ifCond .ne 14, 3) := by decide +kernel
theorem dX12_readWord_13 : decode cX12_readWord 13 = .ok (.aload_n 0, 1) := by decide +kernel
theorem dX12_readWord_14 : decode cX12_readWord 14 = .ok (.iload_n 3, 1) := by decide +kernel
theorem dX12_readWord_15 : decode cX12_readWord 15 = .ok (.invokevirtual 26, 3) := by decide +kernel
theorem dX12_readWord_18 : decode cX12_readWord 18 = .ok (.invokestatic 52, 3) := by decide +kernel
theorem dX12_readWord_21 : decode cX12_readWord 21 = .ok (.ifCond .eq 9, 3) := by decide +kernel
theorem dX12_readWord_24 : decode cX12_readWord 24 = .ok (.iinc 3 1, 3) := by decide +kernel
theorem dX12_readWord_27 : decode cX12_readWord 27 = .ok (.goto (-25), 3) := by decide +kernel
theorem dX12_readWord_30 : decode cX12_readWord 30 = .ok (.aload_n 0, 1) := by decide +kernel
theorem dX12_readWord_31 : decode cX12_readWord 31 = .ok (.getfield 39, 3) := by decide +kernel
theorem dX12_readWord_34 : decode cX12_readWord 34 = .ok (.iload_n 1, 1) := by decide +kernel
theorem dX12_readWord_35 : decode cX12_readWord 35 = .ok (.iload_n 3, 1) := by decide +kernel
theorem dX12_readWord_36 : decode cX12_readWord 36 = .ok (.iload_n 2, 1) := by decide +kernel
theorem dX12_readWord_37 : decode cX12_readWord 37 = .ok (.isub, 1) := by decide +kernel
theorem dX12_readWord_38 : decode cX12_readWord 38 = .ok (.iastore, 1) := by decide +kernel
theorem dX12_readWord_39 : decode cX12_readWord 39 = .ok (.aload_n 0, 1) := by decide +kernel
theorem dX12_readWord_40 : decode cX12_readWord 40 = .ok (.getfield 36, 3) := by decide +kernel
theorem dX12_readWord_43 : decode cX12_readWord 43 = .ok (.iload_n 1, 1) := by decide +kernel
theorem dX12_readWord_44 : decode cX12_readWord 44 = .ok (.iload_n 3, 1) := by decide +kernel
theorem dX12_readWord_45 : decode cX12_readWord 45 = .ok (.iload_n 2, 1) := by decide +kernel
theorem dX12_readWord_46 : decode cX12_readWord 46 = .ok (.isub, 1) := by decide +kernel
theorem dX12_readWord_47 : decode cX12_readWord 47 = .ok (.bipush 10, 2) := by decide +kernel
theorem dX12_readWord_49 : decode cX12_readWord 49 = .ok (.if_icmp .le 7, 3) := by decide +kernel
theorem dX12_readWord_52 : decode cX12_readWord 52 = .ok (.iconst 5, 1) := by decide +kernel
theorem dX12_readWord_53 : decode cX12_readWord 53 = .ok (.goto 4, 3) := by decide +kernel
theorem dX12_readWord_56 : decode cX12_readWord 56 = .ok (.iconst 1, 1) := by decide +kernel
theorem dX12_readWord_57 : decode cX12_readWord 57 = .ok (.iastore, 1) := by decide +kernel
theorem dX12_readWord_58 : decode cX12_readWord 58 = .ok (.iconst 0, 1) := by decide +kernel
theorem dX12_readWord_59 : decode cX12_readWord 59 = .ok (.istore 4, 2) := by decide +kernel
theorem dX12_readWord_61 : decode cX12_readWord 61 = .ok (.iload 4, 2) := by decide +kernel
theorem dX12_readWord_63 : decode cX12_readWord 63 = .ok (.getstatic 58, 3) := by decide +kernel
theorem dX12_readWord_66 : decode cX12_readWord 66 = .ok (.arraylength, 1) := by decide +kernel
theorem dX12_readWord_67 : decode cX12_readWord 67 = .ok (.if_icmp .ge 44, 3) := by decide +kernel
theorem dX12_readWord_70 : decode cX12_readWord 70 = .ok (.aload_n 0, 1) := by decide +kernel
theorem dX12_readWord_71 : decode cX12_readWord 71 = .ok (.iload_n 2, 1) := by decide +kernel
theorem dX12_readWord_72 : decode cX12_readWord 72 = .ok (.iload_n 3, 1) := by decide +kernel
theorem dX12_readWord_73 : decode cX12_readWord 73 = .ok (.iload_n 2, 1) := by decide +kernel
theorem dX12_readWord_74 : decode cX12_readWord 74 = .ok (.isub, 1) := by decide +kernel
theorem dX12_readWord_75 : decode cX12_readWord 75 = .ok (.getstatic 58, 3) := by decide +kernel
theorem dX12_readWord_78 : decode cX12_readWord 78 = .ok (.iload 4, 2) := by decide +kernel
theorem dX12_readWord_80 : decode cX12_readWord 80 = .ok (.aaload, 1) := by decide +kernel
theorem dX12_readWord_81 : decode cX12_readWord 81 = .ok (.invokevirtual 62, 3) := by decide +kernel
theorem dX12_readWord_84 : decode cX12_readWord 84 = .ok (.ifCond .ne 6, 3) := by decide +kernel
theorem dX12_readWord_87 : decode cX12_readWord 87 = .ok (.goto 18, 3) := by decide +kernel
theorem dX12_readWord_90 : decode cX12_readWord 90 = .ok (.aload_n 0, 1) := by decide +kernel
theorem dX12_readWord_91 : decode cX12_readWord 91 = .ok (.getfield 36, 3) := by decide +kernel
theorem dX12_readWord_94 : decode cX12_readWord 94 = .ok (.iload_n 1, 1) := by decide +kernel
theorem dX12_readWord_95 : decode cX12_readWord 95 = .ok (.iconst 2, 1) := by decide +kernel
theorem dX12_readWord_96 : decode cX12_readWord 96 = .ok (.iastore, 1) := by decide +kernel
theorem dX12_readWord_97 : decode cX12_readWord 97 = .ok (.aload_n 0, 1) := by decide +kernel
theorem dX12_readWord_98 : decode cX12_readWord 98 = .ok (.getfield 42, 3) := by decide +kernel
theorem dX12_readWord_101 : decode cX12_readWord 101 = .ok (.iload_n 1, 1) := by decide +kernel
theorem dX12_readWord_102 : decode cX12_readWord 102 = .ok (.iload 4, 2) := by decide +kernel
theorem dX12_readWord_104 : decode cX12_readWord 104 = .ok (.iastore, 1) := by decide +kernel
theorem dX12_readWord_105 : decode cX12_readWord 105 = .ok (.iinc 4 1, 3) := by decide +kernel
theorem dX12_readWord_108 : decode cX12_readWord 108 = .ok (.goto (-47), 3) := by decide +kernel
theorem dX12_readWord_111 : decode cX12_readWord 111 = .ok (.return_, 1) := by decide +kernel
theorem dX12_isWord_0 : decode cX12_isWord 0 = .ok (.aload_n 3, 1) := by decide +kernel
theorem dX12_isWord_1 : decode cX12_isWord 1 = .ok (.invokevirtual 66, 3) := by decide +kernel
theorem dX12_isWord_4 : decode cX12_isWord 4 = .ok (.iload_n 2, 1) := by decide +kernel
theorem dX12_isWord_5 : decode cX12_isWord 5 = .ok (.if_icmp .eq 5, 3) := by decide +kernel
theorem dX12_isWord_8 : decode cX12_isWord 8 = .ok (.iconst 0, 1) := by decide +kernel
theorem dX12_isWord_9 : decode cX12_isWord 9 = .ok (.ireturn, 1) := by decide +kernel
theorem dX12_isWord_10 : decode cX12_isWord 10 = .ok (.iconst 0, 1) := by decide +kernel
theorem dX12_isWord_11 : decode cX12_isWord 11 = .ok (.istore 4, 2) := by decide +kernel
theorem dX12_isWord_13 : decode cX12_isWord 13 = .ok (.iload 4, 2) := by decide +kernel
theorem dX12_isWord_15 : decode cX12_isWord 15 = .ok (.iload_n 2, 1) := by decide +kernel
theorem dX12_isWord_16 : decode cX12_isWord 16 = .ok (.if_icmp .ge 29, 3) := by decide +kernel
theorem dX12_isWord_19 : decode cX12_isWord 19 = .ok (.aload_n 0, 1) := by decide +kernel
theorem dX12_isWord_20 : decode cX12_isWord 20 = .ok (.getfield 18, 3) := by decide +kernel
theorem dX12_isWord_23 : decode cX12_isWord 23 = .ok (.iload_n 1, 1) := by decide +kernel
theorem dX12_isWord_24 : decode cX12_isWord 24 = .ok (.iload 4, 2) := by decide +kernel
theorem dX12_isWord_26 : decode cX12_isWord 26 = .ok (.iadd, 1) := by decide +kernel
theorem dX12_isWord_27 : decode cX12_isWord 27 = .ok (.iaload, 1) := by decide +kernel
theorem dX12_isWord_28 : decode cX12_isWord 28 = .ok (.aload_n 3, 1) := by decide +kernel
theorem dX12_isWord_29 : decode cX12_isWord 29 = .ok (.iload 4, 2) := by decide +kernel
theorem dX12_isWord_31 : decode cX12_isWord 31 = .ok (.invokevirtual 71, 3) := by decide +kernel
theorem dX12_isWord_34 : decode cX12_isWord 34 = .ok (.if_icmp .eq 5, 3) := by decide +kernel
theorem dX12_isWord_37 : decode cX12_isWord 37 = .ok (.iconst 0, 1) := by decide +kernel
theorem dX12_isWord_38 : decode cX12_isWord 38 = .ok (.ireturn, 1) := by decide +kernel
theorem dX12_isWord_39 : decode cX12_isWord 39 = .ok (.iinc 4 1, 3) := by decide +kernel
theorem dX12_isWord_42 : decode cX12_isWord 42 = .ok (.goto (-29), 3) := by decide +kernel
theorem dX12_isWord_45 : decode cX12_isWord 45 = .ok (.iconst 1, 1) := by decide +kernel
theorem dX12_isWord_46 : decode cX12_isWord 46 = .ok (.ireturn, 1) := by decide +kernel
theorem dX12_readNumber_0 : decode cX12_readNumber 0 = .ok (.iload_n 2, 1) := by decide +kernel
theorem dX12_readNumber_1 : decode cX12_readNumber 1 = .ok (.istore_n 3, 1) := by decide +kernel
theorem dX12_readNumber_2 : decode cX12_readNumber 2 = .ok (.iconst 0, 1) := by decide +kernel
theorem dX12_readNumber_3 : decode cX12_readNumber 3 = .ok (.istore 4, 2) := by decide +kernel
theorem dX12_readNumber_5 : decode cX12_readNumber 5 = .ok (.aload_n 0, 1) := by decide +kernel
theorem dX12_readNumber_6 : decode cX12_readNumber 6 = .ok (.iload_n 3, 1) := by decide +kernel
theorem dX12_readNumber_7 : decode cX12_readNumber 7 = .ok (.invokevirtual 26, 3) := by decide +kernel
theorem dX12_readNumber_10 : decode cX12_readNumber 10 = .ok (.invokestatic 52, 3) := by decide +kernel
theorem dX12_readNumber_13 : decode cX12_readNumber 13 = .ok (.ifCond .eq 34, 3) := by decide +kernel
theorem dX12_readNumber_16 : decode cX12_readNumber 16 = .ok (.iload_n 3, 1) := by decide +kernel
theorem dX12_readNumber_17 : decode cX12_readNumber 17 = .ok (.iload_n 2, 1) := by decide +kernel
theorem dX12_readNumber_18 : decode cX12_readNumber 18 = .ok (.isub, 1) := by decide +kernel
theorem dX12_readNumber_19 : decode cX12_readNumber 19 = .ok (.bipush 6, 2) := by decide +kernel
theorem dX12_readNumber_21 : decode cX12_readNumber 21 = .ok (.if_icmp .ge 20, 3) := by decide +kernel
theorem dX12_readNumber_24 : decode cX12_readNumber 24 = .ok (.bipush 10, 2) := by decide +kernel
theorem dX12_readNumber_26 : decode cX12_readNumber 26 = .ok (.iload 4, 2) := by decide +kernel
theorem dX12_readNumber_28 : decode cX12_readNumber 28 = .ok (.imul, 1) := by decide +kernel
theorem dX12_readNumber_29 : decode cX12_readNumber 29 = .ok (.aload_n 0, 1) := by decide +kernel
theorem dX12_readNumber_30 : decode cX12_readNumber 30 = .ok (.getfield 18, 3) := by decide +kernel
theorem dX12_readNumber_33 : decode cX12_readNumber 33 = .ok (.iload_n 3, 1) := by decide +kernel
theorem dX12_readNumber_34 : decode cX12_readNumber 34 = .ok (.iaload, 1) := by decide +kernel
theorem dX12_readNumber_35 : decode cX12_readNumber 35 = .ok (.iadd, 1) := by decide +kernel
theorem dX12_readNumber_36 : decode cX12_readNumber 36 = .ok (.bipush 48, 2) := by decide +kernel
theorem dX12_readNumber_38 : decode cX12_readNumber 38 = .ok (.isub, 1) := by decide +kernel
theorem dX12_readNumber_39 : decode cX12_readNumber 39 = .ok (.istore 4, 2) := by decide +kernel
theorem dX12_readNumber_41 : decode cX12_readNumber 41 = .ok (.iinc 3 1, 3) := by decide +kernel
theorem dX12_readNumber_44 : decode cX12_readNumber 44 = .ok (.goto (-39), 3) := by decide +kernel
theorem dX12_readNumber_47 : decode cX12_readNumber 47 = .ok (.aload_n 0, 1) := by decide +kernel
theorem dX12_readNumber_48 : decode cX12_readNumber 48 = .ok (.getfield 39, 3) := by decide +kernel
theorem dX12_readNumber_51 : decode cX12_readNumber 51 = .ok (.iload_n 1, 1) := by decide +kernel
theorem dX12_readNumber_52 : decode cX12_readNumber 52 = .ok (.iload_n 3, 1) := by decide +kernel
theorem dX12_readNumber_53 : decode cX12_readNumber 53 = .ok (.iload_n 2, 1) := by decide +kernel
theorem dX12_readNumber_54 : decode cX12_readNumber 54 = .ok (.isub, 1) := by decide +kernel
theorem dX12_readNumber_55 : decode cX12_readNumber 55 = .ok (.iastore, 1) := by decide +kernel
theorem dX12_readNumber_56 : decode cX12_readNumber 56 = .ok (.aload_n 0, 1) := by decide +kernel
theorem dX12_readNumber_57 : decode cX12_readNumber 57 = .ok (.getfield 42, 3) := by decide +kernel
theorem dX12_readNumber_60 : decode cX12_readNumber 60 = .ok (.iload_n 1, 1) := by decide +kernel
theorem dX12_readNumber_61 : decode cX12_readNumber 61 = .ok (.iload 4, 2) := by decide +kernel
theorem dX12_readNumber_63 : decode cX12_readNumber 63 = .ok (.iastore, 1) := by decide +kernel
theorem dX12_readNumber_64 : decode cX12_readNumber 64 = .ok (.aload_n 0, 1) := by decide +kernel
theorem dX12_readNumber_65 : decode cX12_readNumber 65 = .ok (.getfield 36, 3) := by decide +kernel
theorem dX12_readNumber_68 : decode cX12_readNumber 68 = .ok (.iload_n 1, 1) := by decide +kernel
theorem dX12_readNumber_69 : decode cX12_readNumber 69 = .ok (.iload_n 3, 1) := by decide +kernel
theorem dX12_readNumber_70 : decode cX12_readNumber 70 = .ok (.iload_n 2, 1) := by decide +kernel
theorem dX12_readNumber_71 : decode cX12_readNumber 71 = .ok (.isub, 1) := by decide +kernel
theorem dX12_readNumber_72 : decode cX12_readNumber 72 = .ok (.bipush 6, 2) := by decide +kernel
theorem dX12_readNumber_74 : decode cX12_readNumber 74 = .ok (.if_icmp .le 7, 3) := by decide +kernel
theorem dX12_readNumber_77 : decode cX12_readNumber 77 = .ok (.iconst 5, 1) := by decide +kernel
theorem dX12_readNumber_78 : decode cX12_readNumber 78 = .ok (.goto 4, 3) := by decide +kernel
theorem dX12_readNumber_81 : decode cX12_readNumber 81 = .ok (.iconst 3, 1) := by decide +kernel
theorem dX12_readNumber_82 : decode cX12_readNumber 82 = .ok (.iastore, 1) := by decide +kernel
theorem dX12_readNumber_83 : decode cX12_readNumber 83 = .ok (.return_, 1) := by decide +kernel
theorem dX12_isSame_0 : decode cX12_isSame 0 = .ok (.aload_n 0, 1) := by decide +kernel
theorem dX12_isSame_1 : decode cX12_isSame 1 = .ok (.getfield 39, 3) := by decide +kernel
theorem dX12_isSame_4 : decode cX12_isSame 4 = .ok (.iload_n 1, 1) := by decide +kernel
theorem dX12_isSame_5 : decode cX12_isSame 5 = .ok (.iaload, 1) := by decide +kernel
theorem dX12_isSame_6 : decode cX12_isSame 6 = .ok (.aload_n 0, 1) := by decide +kernel
theorem dX12_isSame_7 : decode cX12_isSame 7 = .ok (.getfield 39, 3) := by decide +kernel
theorem dX12_isSame_10 : decode cX12_isSame 10 = .ok (.iload_n 2, 1) := by decide +kernel
theorem dX12_isSame_11 : decode cX12_isSame 11 = .ok (.iaload, 1) := by decide +kernel
theorem dX12_isSame_12 : decode cX12_isSame 12 = .ok (.if_icmp .eq 5, 3) := by decide +kernel
theorem dX12_isSame_15 : decode cX12_isSame 15 = .ok (.iconst 0, 1) := by decide +kernel
theorem dX12_isSame_16 : decode cX12_isSame 16 = .ok (.ireturn, 1) := by decide +kernel
theorem dX12_isSame_17 : decode cX12_isSame 17 = .ok (.iconst 0, 1) := by decide +kernel
theorem dX12_isSame_18 : decode cX12_isSame 18 = .ok (.istore_n 3, 1) := by decide +kernel
theorem dX12_isSame_19 : decode cX12_isSame 19 = .ok (.iload_n 3, 1) := by decide +kernel
theorem dX12_isSame_20 : decode cX12_isSame 20 = .ok (.aload_n 0, 1) := by decide +kernel
theorem dX12_isSame_21 : decode cX12_isSame 21 = .ok (.getfield 39, 3) := by decide +kernel
theorem dX12_isSame_24 : decode cX12_isSame 24 = .ok (.iload_n 1, 1) := by decide +kernel
theorem dX12_isSame_25 : decode cX12_isSame 25 = .ok (.iaload, 1) := by decide +kernel
theorem dX12_isSame_26 : decode cX12_isSame 26 = .ok (.if_icmp .ge 40, 3) := by decide +kernel
theorem dX12_isSame_29 : decode cX12_isSame 29 = .ok (.aload_n 0, 1) := by decide +kernel
theorem dX12_isSame_30 : decode cX12_isSame 30 = .ok (.getfield 18, 3) := by decide +kernel
theorem dX12_isSame_33 : decode cX12_isSame 33 = .ok (.aload_n 0, 1) := by decide +kernel
theorem dX12_isSame_34 : decode cX12_isSame 34 = .ok (.getfield 29, 3) := by decide +kernel
theorem dX12_isSame_37 : decode cX12_isSame 37 = .ok (.iload_n 1, 1) := by decide +kernel
theorem dX12_isSame_38 : decode cX12_isSame 38 = .ok (.iaload, 1) := by decide +kernel
theorem dX12_isSame_39 : decode cX12_isSame 39 = .ok (.iload_n 3, 1) := by decide +kernel
theorem dX12_isSame_40 : decode cX12_isSame 40 = .ok (.iadd, 1) := by decide +kernel
theorem dX12_isSame_41 : decode cX12_isSame 41 = .ok (.iaload, 1) := by decide +kernel
theorem dX12_isSame_42 : decode cX12_isSame 42 = .ok (.aload_n 0, 1) := by decide +kernel
theorem dX12_isSame_43 : decode cX12_isSame 43 = .ok (.getfield 18, 3) := by decide +kernel
theorem dX12_isSame_46 : decode cX12_isSame 46 = .ok (.aload_n 0, 1) := by decide +kernel
theorem dX12_isSame_47 : decode cX12_isSame 47 = .ok (.getfield 29, 3) := by decide +kernel
theorem dX12_isSame_50 : decode cX12_isSame 50 = .ok (.iload_n 2, 1) := by decide +kernel
theorem dX12_isSame_51 : decode cX12_isSame 51 = .ok (.iaload, 1) := by decide +kernel
theorem dX12_isSame_52 : decode cX12_isSame 52 = .ok (.iload_n 3, 1) := by decide +kernel
theorem dX12_isSame_53 : decode cX12_isSame 53 = .ok (.iadd, 1) := by decide +kernel
theorem dX12_isSame_54 : decode cX12_isSame 54 = .ok (.iaload, 1) := by decide +kernel
theorem dX12_isSame_55 : decode cX12_isSame 55 = .ok (.if_icmp .eq 5, 3) := by decide +kernel
theorem dX12_isSame_58 : decode cX12_isSame 58 = .ok (.iconst 0, 1) := by decide +kernel
theorem dX12_isSame_59 : decode cX12_isSame 59 = .ok (.ireturn, 1) := by decide +kernel
theorem dX12_isSame_60 : decode cX12_isSame 60 = .ok (.iinc 3 1, 3) := by decide +kernel
theorem dX12_isSame_63 : decode cX12_isSame 63 = .ok (.goto (-44), 3) := by decide +kernel
theorem dX12_isSame_66 : decode cX12_isSame 66 = .ok (.iconst 1, 1) := by decide +kernel
theorem dX12_isSame_67 : decode cX12_isSame 67 = .ok (.ireturn, 1) := by decide +kernel
theorem dX12_init_0 : decode cX12_init 0 = .ok (.aload_n 0, 1) := by decide +kernel
theorem dX12_init_1 : decode cX12_init 1 = .ok (.invokespecial 75, 3) := by decide +kernel
theorem dX12_init_4 : decode cX12_init 4 = .ok (.aload_n 0, 1) := by decide +kernel
theorem dX12_init_5 : decode cX12_init 5 = .ok (.sipush 2000, 3) := by decide +kernel
theorem dX12_init_8 : decode cX12_init 8 = .ok (.newarray .int, 2) := by decide +kernel
theorem dX12_init_10 : decode cX12_init 10 = .ok (.putfield 18, 3) := by decide +kernel
theorem dX12_init_13 : decode cX12_init 13 = .ok (.aload_n 0, 1) := by decide +kernel
theorem dX12_init_14 : decode cX12_init 14 = .ok (.iconst (-1), 1) := by decide +kernel
theorem dX12_init_15 : decode cX12_init 15 = .ok (.putfield 81, 3) := by decide +kernel
theorem dX12_init_18 : decode cX12_init 18 = .ok (.aload_n 0, 1) := by decide +kernel
theorem dX12_init_19 : decode cX12_init 19 = .ok (.sipush 402, 3) := by decide +kernel
theorem dX12_init_22 : decode cX12_init 22 = .ok (.newarray .int, 2) := by decide +kernel
theorem dX12_init_24 : decode cX12_init 24 = .ok (.putfield 36, 3) := by decide +kernel
theorem dX12_init_27 : decode cX12_init 27 = .ok (.aload_n 0, 1) := by decide +kernel
theorem dX12_init_28 : decode cX12_init 28 = .ok (.sipush 402, 3) := by decide +kernel
theorem dX12_init_31 : decode cX12_init 31 = .ok (.newarray .int, 2) := by decide +kernel
theorem dX12_init_33 : decode cX12_init 33 = .ok (.putfield 42, 3) := by decide +kernel
theorem dX12_init_36 : decode cX12_init 36 = .ok (.aload_n 0, 1) := by decide +kernel
theorem dX12_init_37 : decode cX12_init 37 = .ok (.sipush 402, 3) := by decide +kernel
theorem dX12_init_40 : decode cX12_init 40 = .ok (.newarray .int, 2) := by decide +kernel
theorem dX12_init_42 : decode cX12_init 42 = .ok (.putfield 29, 3) := by decide +kernel
theorem dX12_init_45 : decode cX12_init 45 = .ok (.aload_n 0, 1) := by decide +kernel
theorem dX12_init_46 : decode cX12_init 46 = .ok (.sipush 402, 3) := by decide +kernel
theorem dX12_init_49 : decode cX12_init 49 = .ok (.newarray .int, 2) := by decide +kernel
theorem dX12_init_51 : decode cX12_init 51 = .ok (.putfield 39, 3) := by decide +kernel
theorem dX12_init_54 : decode cX12_init 54 = .ok (.aload_n 0, 1) := by decide +kernel
theorem dX12_init_55 : decode cX12_init 55 = .ok (.new 84, 3) := by decide +kernel
theorem dX12_init_58 : decode cX12_init 58 = .ok (.dup, 1) := by decide +kernel
theorem dX12_init_59 : decode cX12_init 59 = .ok (.invokespecial 86, 3) := by decide +kernel
theorem dX12_init_62 : decode cX12_init 62 = .ok (.putfield 87, 3) := by decide +kernel
theorem dX12_init_65 : decode cX12_init 65 = .ok (.aload_n 0, 1) := by decide +kernel
theorem dX12_init_66 : decode cX12_init 66 = .ok (.new 84, 3) := by decide +kernel
theorem dX12_init_69 : decode cX12_init 69 = .ok (.dup, 1) := by decide +kernel
theorem dX12_init_70 : decode cX12_init 70 = .ok (.invokespecial 86, 3) := by decide +kernel
theorem dX12_init_73 : decode cX12_init 73 = .ok (.putfield 91, 3) := by decide +kernel
theorem dX12_init_76 : decode cX12_init 76 = .ok (.aload_n 0, 1) := by decide +kernel
theorem dX12_init_77 : decode cX12_init 77 = .ok (.bipush 6, 2) := by decide +kernel
theorem dX12_init_79 : decode cX12_init 79 = .ok (.newarray .int, 2) := by decide +kernel
theorem dX12_init_81 : decode cX12_init 81 = .ok (.putfield 94, 3) := by decide +kernel
theorem dX12_init_84 : decode cX12_init 84 = .ok (.aload_n 0, 1) := by decide +kernel
theorem dX12_init_85 : decode cX12_init 85 = .ok (.bipush 16, 2) := by decide +kernel
theorem dX12_init_87 : decode cX12_init 87 = .ok (.newarray .int, 2) := by decide +kernel
theorem dX12_init_89 : decode cX12_init 89 = .ok (.putfield 97, 3) := by decide +kernel
theorem dX12_init_92 : decode cX12_init 92 = .ok (.aload_n 0, 1) := by decide +kernel
theorem dX12_init_93 : decode cX12_init 93 = .ok (.bipush 6, 2) := by decide +kernel
theorem dX12_init_95 : decode cX12_init 95 = .ok (.newarray .int, 2) := by decide +kernel
theorem dX12_init_97 : decode cX12_init 97 = .ok (.putfield 100, 3) := by decide +kernel
theorem dX12_init_100 : decode cX12_init 100 = .ok (.aload_n 0, 1) := by decide +kernel
theorem dX12_init_101 : decode cX12_init 101 = .ok (.iconst 5, 1) := by decide +kernel
theorem dX12_init_102 : decode cX12_init 102 = .ok (.newarray .int, 2) := by decide +kernel
theorem dX12_init_104 : decode cX12_init 104 = .ok (.putfield 103, 3) := by decide +kernel
theorem dX12_init_107 : decode cX12_init 107 = .ok (.aload_n 0, 1) := by decide +kernel
theorem dX12_init_108 : decode cX12_init 108 = .ok (.bipush 9, 2) := by decide +kernel
theorem dX12_init_110 : decode cX12_init 110 = .ok (.newarray .int, 2) := by decide +kernel
theorem dX12_init_112 : decode cX12_init 112 = .ok (.putfield 106, 3) := by decide +kernel
theorem dX12_init_115 : decode cX12_init 115 = .ok (.aload_n 0, 1) := by decide +kernel
theorem dX12_init_116 : decode cX12_init 116 = .ok (.bipush 35, 2) := by decide +kernel
theorem dX12_init_118 : decode cX12_init 118 = .ok (.newarray .int, 2) := by decide +kernel
theorem dX12_init_120 : decode cX12_init 120 = .ok (.putfield 109, 3) := by decide +kernel
theorem dX12_init_123 : decode cX12_init 123 = .ok (.aload_n 0, 1) := by decide +kernel
theorem dX12_init_124 : decode cX12_init 124 = .ok (.bipush 35, 2) := by decide +kernel
theorem dX12_init_126 : decode cX12_init 126 = .ok (.newarray .int, 2) := by decide +kernel
theorem dX12_init_128 : decode cX12_init 128 = .ok (.putfield 112, 3) := by decide +kernel
theorem dX12_init_131 : decode cX12_init 131 = .ok (.return_, 1) := by decide +kernel
theorem dX12_fail_0 : decode cX12_fail 0 = .ok (.aload_n 0, 1) := by decide +kernel
theorem dX12_fail_1 : decode cX12_fail 1 = .ok (.getfield 115, 3) := by decide +kernel
theorem dX12_fail_4 : decode cX12_fail 4 = .ok (.iconst (-1), 1) := by decide +kernel
theorem dX12_fail_5 : decode cX12_fail 5 = .ok (.if_icmp .ne 11, 3) := by decide +kernel
theorem dX12_fail_8 : decode cX12_fail 8 = .ok (.aload_n 0, 1) := by decide +kernel
theorem dX12_fail_9 : decode cX12_fail 9 = .ok (.aload_n 0, 1) := by decide +kernel
theorem dX12_fail_10 : decode cX12_fail 10 = .ok (.getfield 118, 3) := by decide +kernel
theorem dX12_fail_13 : decode cX12_fail 13 = .ok (.putfield 115, 3) := by decide +kernel
theorem dX12_fail_16 : decode cX12_fail 16 = .ok (.return_, 1) := by decide +kernel
theorem dX12_isOk_0 : decode cX12_isOk 0 = .ok (.aload_n 0, 1) := by decide +kernel
theorem dX12_isOk_1 : decode cX12_isOk 1 = .ok (.getfield 115, 3) := by decide +kernel
theorem dX12_isOk_4 : decode cX12_isOk 4 = .ok (.iconst (-1), 1) := by decide +kernel
theorem dX12_isOk_5 : decode cX12_isOk 5 = .ok (.if_icmp .ne 7, 3) := by decide +kernel
theorem dX12_isOk_8 : decode cX12_isOk 8 = .ok (.iconst 1, 1) := by decide +kernel
theorem dX12_isOk_9 : decode cX12_isOk 9 = .ok (.goto 4, 3) := by decide +kernel
theorem dX12_isOk_12 : decode cX12_isOk 12 = .ok (.iconst 0, 1) := by decide +kernel
theorem dX12_isOk_13 : decode cX12_isOk 13 = .ok (.ireturn, 1) := by decide +kernel
theorem dX12_is_0 : decode cX12_is 0 = .ok (.aload_n 0, 1) := by decide +kernel
theorem dX12_is_1 : decode cX12_is 1 = .ok (.invokevirtual 121, 3) := by decide +kernel
theorem dX12_is_4 : decode cX12_is 4 = .ok (.ifCond .eq 33, 3) := by decide +kernel
theorem dX12_is_7 : decode cX12_is 7 = .ok (.aload_n 0, 1) := by decide +kernel
theorem dX12_is_8 : decode cX12_is 8 = .ok (.getfield 36, 3) := by decide +kernel
theorem dX12_is_11 : decode cX12_is 11 = .ok (.aload_n 0, 1) := by decide +kernel
theorem dX12_is_12 : decode cX12_is 12 = .ok (.getfield 118, 3) := by decide +kernel
theorem dX12_is_15 : decode cX12_is 15 = .ok (.iaload, 1) := by decide +kernel
theorem dX12_is_16 : decode cX12_is 16 = .ok (.iload_n 1, 1) := by decide +kernel
theorem dX12_is_17 : decode cX12_is 17 = .ok (.if_icmp .ne 20, 3) := by decide +kernel
theorem dX12_is_20 : decode cX12_is 20 = .ok (.aload_n 0, 1) := by decide +kernel
theorem dX12_is_21 : decode cX12_is 21 = .ok (.getfield 42, 3) := by decide +kernel
theorem dX12_is_24 : decode cX12_is 24 = .ok (.aload_n 0, 1) := by decide +kernel
theorem dX12_is_25 : decode cX12_is 25 = .ok (.getfield 118, 3) := by decide +kernel
theorem dX12_is_28 : decode cX12_is 28 = .ok (.iaload, 1) := by decide +kernel
theorem dX12_is_29 : decode cX12_is 29 = .ok (.iload_n 2, 1) := by decide +kernel
theorem dX12_is_30 : decode cX12_is 30 = .ok (.if_icmp .ne 7, 3) := by decide +kernel
theorem dX12_is_33 : decode cX12_is 33 = .ok (.iconst 1, 1) := by decide +kernel
theorem dX12_is_34 : decode cX12_is 34 = .ok (.goto 4, 3) := by decide +kernel
theorem dX12_is_37 : decode cX12_is 37 = .ok (.iconst 0, 1) := by decide +kernel
theorem dX12_is_38 : decode cX12_is 38 = .ok (.ireturn, 1) := by decide +kernel
theorem dX12_take_0 : decode cX12_take 0 = .ok (.aload_n 0, 1) := by decide +kernel
theorem dX12_take_1 : decode cX12_take 1 = .ok (.iload_n 1, 1) := by decide +kernel
theorem dX12_take_2 : decode cX12_take 2 = .ok (.iload_n 2, 1) := by decide +kernel
theorem dX12_take_3 : decode cX12_take 3 = .ok (.invokevirtual 125, 3) := by decide +kernel
theorem dX12_take_6 : decode cX12_take 6 = .ok (.ifCond .eq 16, 3) := by decide +kernel
theorem dX12_take_9 : decode cX12_take 9 = .ok (.aload_n 0, 1) := by decide +kernel
theorem dX12_take_10 : decode cX12_take 10 = .ok (.dup, 1) := by decide +kernel
theorem dX12_take_11 : decode cX12_take 11 = .ok (.getfield 118, 3) := by decide +kernel
theorem dX12_take_14 : decode cX12_take 14 = .ok (.iconst 1, 1) := by decide +kernel
theorem dX12_take_15 : decode cX12_take 15 = .ok (.iadd, 1) := by decide +kernel
theorem dX12_take_16 : decode cX12_take 16 = .ok (.putfield 118, 3) := by decide +kernel
theorem dX12_take_19 : decode cX12_take 19 = .ok (.goto 7, 3) := by decide +kernel
theorem dX12_take_22 : decode cX12_take 22 = .ok (.aload_n 0, 1) := by decide +kernel
theorem dX12_take_23 : decode cX12_take 23 = .ok (.invokevirtual 129, 3) := by decide +kernel
theorem dX12_take_26 : decode cX12_take 26 = .ok (.return_, 1) := by decide +kernel
theorem dX12_tell_0 : decode cX12_tell 0 = .ok (.aload_n 0, 1) := by decide +kernel
theorem dX12_tell_1 : decode cX12_tell 1 = .ok (.getfield 132, 3) := by decide +kernel
theorem dX12_tell_4 : decode cX12_tell 4 = .ok (.ifCond .eq 20, 3) := by decide +kernel
theorem dX12_tell_7 : decode cX12_tell 7 = .ok (.aload_n 0, 1) := by decide +kernel
theorem dX12_tell_8 : decode cX12_tell 8 = .ok (.getfield 135, 3) := by decide +kernel
theorem dX12_tell_11 : decode cX12_tell 11 = .ok (.iload_n 2, 1) := by decide +kernel
theorem dX12_tell_12 : decode cX12_tell 12 = .ok (.if_icmp .ne 11, 3) := by decide +kernel
theorem dX12_tell_15 : decode cX12_tell 15 = .ok (.aload_n 0, 1) := by decide +kernel
theorem dX12_tell_16 : decode cX12_tell 16 = .ok (.getfield 132, 3) := by decide +kernel
theorem dX12_tell_19 : decode cX12_tell 19 = .ok (.iload_n 1, 1) := by decide +kernel
theorem dX12_tell_20 : decode cX12_tell 20 = .ok (.if_icmp .gt 4, 3) := by decide +kernel
theorem dX12_tell_23 : decode cX12_tell 23 = .ok (.return_, 1) := by decide +kernel
theorem dX12_tell_24 : decode cX12_tell 24 = .ok (.aload_n 0, 1) := by decide +kernel
theorem dX12_tell_25 : decode cX12_tell 25 = .ok (.iload_n 1, 1) := by decide +kernel
theorem dX12_tell_26 : decode cX12_tell 26 = .ok (.putfield 132, 3) := by decide +kernel
theorem dX12_tell_29 : decode cX12_tell 29 = .ok (.aload_n 0, 1) := by decide +kernel
theorem dX12_tell_30 : decode cX12_tell 30 = .ok (.iload_n 2, 1) := by decide +kernel
theorem dX12_tell_31 : decode cX12_tell 31 = .ok (.putfield 135, 3) := by decide +kernel
theorem dX12_tell_34 : decode cX12_tell 34 = .ok (.return_, 1) := by decide +kernel
theorem dX12_deeper_0 : decode cX12_deeper 0 = .ok (.aload_n 0, 1) := by decide +kernel
theorem dX12_deeper_1 : decode cX12_deeper 1 = .ok (.getfield 138, 3) := by decide +kernel
theorem dX12_deeper_4 : decode cX12_deeper 4 = .ok (.bipush 8, 2) := by decide +kernel
theorem dX12_deeper_6 : decode cX12_deeper 6 = .ok (.if_icmp .ne 7, 3) := by decide +kernel
theorem dX12_deeper_9 : decode cX12_deeper 9 = .ok (.aload_n 0, 1) := by decide +kernel
theorem dX12_deeper_10 : decode cX12_deeper 10 = .ok (.invokevirtual 129, 3) := by decide +kernel
theorem dX12_deeper_13 : decode cX12_deeper 13 = .ok (.aload_n 0, 1) := by decide +kernel
theorem dX12_deeper_14 : decode cX12_deeper 14 = .ok (.dup, 1) := by decide +kernel
theorem dX12_deeper_15 : decode cX12_deeper 15 = .ok (.getfield 138, 3) := by decide +kernel
theorem dX12_deeper_18 : decode cX12_deeper 18 = .ok (.iconst 1, 1) := by decide +kernel
theorem dX12_deeper_19 : decode cX12_deeper 19 = .ok (.iadd, 1) := by decide +kernel
theorem dX12_deeper_20 : decode cX12_deeper 20 = .ok (.putfield 138, 3) := by decide +kernel
theorem dX12_deeper_23 : decode cX12_deeper 23 = .ok (.return_, 1) := by decide +kernel
theorem dX12_name_0 : decode cX12_name 0 = .ok (.aload_n 0, 1) := by decide +kernel
theorem dX12_name_1 : decode cX12_name 1 = .ok (.invokevirtual 121, 3) := by decide +kernel
theorem dX12_name_4 : decode cX12_name 4 = .ok (.ifCond .eq 33, 3) := by decide +kernel
theorem dX12_name_7 : decode cX12_name 7 = .ok (.aload_n 0, 1) := by decide +kernel
theorem dX12_name_8 : decode cX12_name 8 = .ok (.getfield 36, 3) := by decide +kernel
theorem dX12_name_11 : decode cX12_name 11 = .ok (.aload_n 0, 1) := by decide +kernel
theorem dX12_name_12 : decode cX12_name 12 = .ok (.getfield 118, 3) := by decide +kernel
theorem dX12_name_15 : decode cX12_name 15 = .ok (.iaload, 1) := by decide +kernel
theorem dX12_name_16 : decode cX12_name 16 = .ok (.iconst 1, 1) := by decide +kernel
theorem dX12_name_17 : decode cX12_name 17 = .ok (.if_icmp .ne 20, 3) := by decide +kernel
theorem dX12_name_20 : decode cX12_name 20 = .ok (.aload_n 0, 1) := by decide +kernel
theorem dX12_name_21 : decode cX12_name 21 = .ok (.dup, 1) := by decide +kernel
theorem dX12_name_22 : decode cX12_name 22 = .ok (.getfield 118, 3) := by decide +kernel
theorem dX12_name_25 : decode cX12_name 25 = .ok (.iconst 1, 1) := by decide +kernel
theorem dX12_name_26 : decode cX12_name 26 = .ok (.iadd, 1) := by decide +kernel
theorem dX12_name_27 : decode cX12_name 27 = .ok (.putfield 118, 3) := by decide +kernel
theorem dX12_name_30 : decode cX12_name 30 = .ok (.aload_n 0, 1) := by decide +kernel
theorem dX12_name_31 : decode cX12_name 31 = .ok (.getfield 118, 3) := by decide +kernel
theorem dX12_name_34 : decode cX12_name 34 = .ok (.iconst 1, 1) := by decide +kernel
theorem dX12_name_35 : decode cX12_name 35 = .ok (.isub, 1) := by decide +kernel
theorem dX12_name_36 : decode cX12_name 36 = .ok (.ireturn, 1) := by decide +kernel
theorem dX12_name_37 : decode cX12_name 37 = .ok (.aload_n 0, 1) := by decide +kernel
theorem dX12_name_38 : decode cX12_name 38 = .ok (.invokevirtual 129, 3) := by decide +kernel
theorem dX12_name_41 : decode cX12_name 41 = .ok (.iconst 0, 1) := by decide +kernel
theorem dX12_name_42 : decode cX12_name 42 = .ok (.ireturn, 1) := by decide +kernel
theorem dX12_find_0 : decode cX12_find 0 = .ok (.iconst 0, 1) := by decide +kernel
theorem dX12_find_1 : decode cX12_find 1 = .ok (.istore 4, 2) := by decide +kernel
theorem dX12_find_3 : decode cX12_find 3 = .ok (.iload 4, 2) := by decide +kernel
theorem dX12_find_5 : decode cX12_find 5 = .ok (.iload_n 2, 1) := by decide +kernel
theorem dX12_find_6 : decode cX12_find 6 = .ok (.if_icmp .ge 24, 3) := by decide +kernel
theorem dX12_find_9 : decode cX12_find 9 = .ok (.aload_n 0, 1) := by decide +kernel
theorem dX12_find_10 : decode cX12_find 10 = .ok (.aload_n 1, 1) := by decide +kernel
theorem dX12_find_11 : decode cX12_find 11 = .ok (.iload 4, 2) := by decide +kernel
theorem dX12_find_13 : decode cX12_find 13 = .ok (.iaload, 1) := by decide +kernel
theorem dX12_find_14 : decode cX12_find 14 = .ok (.iload_n 3, 1) := by decide +kernel
theorem dX12_find_15 : decode cX12_find 15 = .ok (.invokevirtual 141, 3) := by decide +kernel
theorem dX12_find_18 : decode cX12_find 18 = .ok (.ifCond .eq 6, 3) := by decide +kernel
theorem dX12_find_21 : decode cX12_find 21 = .ok (.iload 4, 2) := by decide +kernel
theorem dX12_find_23 : decode cX12_find 23 = .ok (.ireturn, 1) := by decide +kernel
theorem dX12_find_24 : decode cX12_find 24 = .ok (.iinc 4 1, 3) := by decide +kernel
theorem dX12_find_27 : decode cX12_find 27 = .ok (.goto (-24), 3) := by decide +kernel
theorem dX12_find_30 : decode cX12_find 30 = .ok (.iconst (-1), 1) := by decide +kernel
theorem dX12_find_31 : decode cX12_find 31 = .ok (.ireturn, 1) := by decide +kernel
theorem dX12_known_0 : decode cX12_known 0 = .ok (.aload_n 0, 1) := by decide +kernel
theorem dX12_known_1 : decode cX12_known 1 = .ok (.invokevirtual 144, 3) := by decide +kernel
theorem dX12_known_4 : decode cX12_known 4 = .ok (.istore_n 3, 1) := by decide +kernel
theorem dX12_known_5 : decode cX12_known 5 = .ok (.aload_n 0, 1) := by decide +kernel
theorem dX12_known_6 : decode cX12_known 6 = .ok (.invokevirtual 121, 3) := by decide +kernel
theorem dX12_known_9 : decode cX12_known 9 = .ok (.ifCond .ne 5, 3) := by decide +kernel
theorem dX12_known_12 : decode cX12_known 12 = .ok (.iconst 0, 1) := by decide +kernel
theorem dX12_known_13 : decode cX12_known 13 = .ok (.ireturn, 1) := by decide +kernel
theorem dX12_known_14 : decode cX12_known 14 = .ok (.aload_n 0, 1) := by decide +kernel
theorem dX12_known_15 : decode cX12_known 15 = .ok (.aload_n 1, 1) := by decide +kernel
theorem dX12_known_16 : decode cX12_known 16 = .ok (.iload_n 2, 1) := by decide +kernel
theorem dX12_known_17 : decode cX12_known 17 = .ok (.iload_n 3, 1) := by decide +kernel
theorem dX12_known_18 : decode cX12_known 18 = .ok (.invokevirtual 147, 3) := by decide +kernel
theorem dX12_known_21 : decode cX12_known 21 = .ok (.istore 4, 2) := by decide +kernel
theorem dX12_known_23 : decode cX12_known 23 = .ok (.iload 4, 2) := by decide +kernel
theorem dX12_known_25 : decode cX12_known 25 = .ok (.iconst (-1), 1) := by decide +kernel
theorem dX12_known_26 : decode cX12_known 26 = .ok (.if_icmp .ne 9, 3) := by decide +kernel
theorem dX12_known_29 : decode cX12_known 29 = .ok (.aload_n 0, 1) := by decide +kernel
theorem dX12_known_30 : decode cX12_known 30 = .ok (.iconst 3, 1) := by decide +kernel
theorem dX12_known_31 : decode cX12_known 31 = .ok (.iload_n 3, 1) := by decide +kernel
theorem dX12_known_32 : decode cX12_known 32 = .ok (.invokevirtual 151, 3) := by decide +kernel
theorem dX12_known_35 : decode cX12_known 35 = .ok (.iload 4, 2) := by decide +kernel
theorem dX12_known_37 : decode cX12_known 37 = .ok (.ireturn, 1) := by decide +kernel
theorem dX12_knownColour_0 : decode cX12_knownColour 0 = .ok (.aload_n 0, 1) := by decide +kernel
theorem dX12_knownColour_1 : decode cX12_knownColour 1 = .ok (.aload_n 0, 1) := by decide +kernel
theorem dX12_knownColour_2 : decode cX12_knownColour 2 = .ok (.getfield 94, 3) := by decide +kernel
theorem dX12_knownColour_5 : decode cX12_knownColour 5 = .ok (.aload_n 0, 1) := by decide +kernel
theorem dX12_knownColour_6 : decode cX12_knownColour 6 = .ok (.getfield 91, 3) := by decide +kernel
theorem dX12_knownColour_9 : decode cX12_knownColour 9 = .ok (.getfield 154, 3) := by decide +kernel
theorem dX12_knownColour_12 : decode cX12_knownColour 12 = .ok (.invokevirtual 157, 3) := by decide +kernel
theorem dX12_knownColour_15 : decode cX12_knownColour 15 = .ok (.ireturn, 1) := by decide +kernel
theorem dX12_knownCord_0 : decode cX12_knownCord 0 = .ok (.aload_n 0, 1) := by decide +kernel
theorem dX12_knownCord_1 : decode cX12_knownCord 1 = .ok (.aload_n 0, 1) := by decide +kernel
theorem dX12_knownCord_2 : decode cX12_knownCord 2 = .ok (.getfield 97, 3) := by decide +kernel
theorem dX12_knownCord_5 : decode cX12_knownCord 5 = .ok (.aload_n 0, 1) := by decide +kernel
theorem dX12_knownCord_6 : decode cX12_knownCord 6 = .ok (.getfield 91, 3) := by decide +kernel
theorem dX12_knownCord_9 : decode cX12_knownCord 9 = .ok (.getfield 161, 3) := by decide +kernel
theorem dX12_knownCord_12 : decode cX12_knownCord 12 = .ok (.invokevirtual 157, 3) := by decide +kernel
theorem dX12_knownCord_15 : decode cX12_knownCord 15 = .ok (.ireturn, 1) := by decide +kernel
theorem dX12_knownTop_0 : decode cX12_knownTop 0 = .ok (.aload_n 0, 1) := by decide +kernel
theorem dX12_knownTop_1 : decode cX12_knownTop 1 = .ok (.aload_n 0, 1) := by decide +kernel
theorem dX12_knownTop_2 : decode cX12_knownTop 2 = .ok (.getfield 100, 3) := by decide +kernel
theorem dX12_knownTop_5 : decode cX12_knownTop 5 = .ok (.aload_n 0, 1) := by decide +kernel
theorem dX12_knownTop_6 : decode cX12_knownTop 6 = .ok (.getfield 91, 3) := by decide +kernel
theorem dX12_knownTop_9 : decode cX12_knownTop 9 = .ok (.getfield 164, 3) := by decide +kernel
theorem dX12_knownTop_12 : decode cX12_knownTop 12 = .ok (.invokevirtual 157, 3) := by decide +kernel
theorem dX12_knownTop_15 : decode cX12_knownTop 15 = .ok (.ireturn, 1) := by decide +kernel
theorem dX12_knownKeeper_0 : decode cX12_knownKeeper 0 = .ok (.aload_n 0, 1) := by decide +kernel
theorem dX12_knownKeeper_1 : decode cX12_knownKeeper 1 = .ok (.aload_n 0, 1) := by decide +kernel
theorem dX12_knownKeeper_2 : decode cX12_knownKeeper 2 = .ok (.getfield 103, 3) := by decide +kernel
theorem dX12_knownKeeper_5 : decode cX12_knownKeeper 5 = .ok (.aload_n 0, 1) := by decide +kernel
theorem dX12_knownKeeper_6 : decode cX12_knownKeeper 6 = .ok (.getfield 91, 3) := by decide +kernel
theorem dX12_knownKeeper_9 : decode cX12_knownKeeper 9 = .ok (.getfield 167, 3) := by decide +kernel
theorem dX12_knownKeeper_12 : decode cX12_knownKeeper 12 = .ok (.invokevirtual 157, 3) := by decide +kernel
theorem dX12_knownKeeper_15 : decode cX12_knownKeeper 15 = .ok (.ireturn, 1) := by decide +kernel
theorem dX12_fresh_0 : decode cX12_fresh 0 = .ok (.aload_n 0, 1) := by decide +kernel
theorem dX12_fresh_1 : decode cX12_fresh 1 = .ok (.invokevirtual 144, 3) := by decide +kernel
theorem dX12_fresh_4 : decode cX12_fresh 4 = .ok (.istore 4, 2) := by decide +kernel
theorem dX12_fresh_6 : decode cX12_fresh 6 = .ok (.aload_n 0, 1) := by decide +kernel
theorem dX12_fresh_7 : decode cX12_fresh 7 = .ok (.invokevirtual 121, 3) := by decide +kernel
theorem dX12_fresh_10 : decode cX12_fresh 10 = .ok (.ifCond .ne 5, 3) := by decide +kernel
theorem dX12_fresh_13 : decode cX12_fresh 13 = .ok (.iconst 0, 1) := by decide +kernel
theorem dX12_fresh_14 : decode cX12_fresh 14 = .ok (.ireturn, 1) := by decide +kernel
theorem dX12_fresh_15 : decode cX12_fresh 15 = .ok (.aload_n 0, 1) := by decide +kernel
theorem dX12_fresh_16 : decode cX12_fresh 16 = .ok (.aload_n 1, 1) := by decide +kernel
theorem dX12_fresh_17 : decode cX12_fresh 17 = .ok (.iload_n 2, 1) := by decide +kernel
theorem dX12_fresh_18 : decode cX12_fresh 18 = .ok (.iload 4, 2) := by decide +kernel
theorem dX12_fresh_20 : decode cX12_fresh 20 = .ok (.invokevirtual 147, 3) := by decide +kernel
theorem dX12_fresh_23 : decode cX12_fresh 23 = .ok (.iconst (-1), 1) := by decide +kernel
theorem dX12_fresh_24 : decode cX12_fresh 24 = .ok (.if_icmp .eq 10, 3) := by decide +kernel
theorem dX12_fresh_27 : decode cX12_fresh 27 = .ok (.aload_n 0, 1) := by decide +kernel
theorem dX12_fresh_28 : decode cX12_fresh 28 = .ok (.iconst 2, 1) := by decide +kernel
theorem dX12_fresh_29 : decode cX12_fresh 29 = .ok (.iload 4, 2) := by decide +kernel
theorem dX12_fresh_31 : decode cX12_fresh 31 = .ok (.invokevirtual 151, 3) := by decide +kernel
theorem dX12_fresh_34 : decode cX12_fresh 34 = .ok (.iload_n 2, 1) := by decide +kernel
theorem dX12_fresh_35 : decode cX12_fresh 35 = .ok (.iload_n 3, 1) := by decide +kernel
theorem dX12_fresh_36 : decode cX12_fresh 36 = .ok (.if_icmp .ne 10, 3) := by decide +kernel
theorem dX12_fresh_39 : decode cX12_fresh 39 = .ok (.aload_n 0, 1) := by decide +kernel
theorem dX12_fresh_40 : decode cX12_fresh 40 = .ok (.iconst 4, 1) := by decide +kernel
theorem dX12_fresh_41 : decode cX12_fresh 41 = .ok (.iload 4, 2) := by decide +kernel
theorem dX12_fresh_43 : decode cX12_fresh 43 = .ok (.invokevirtual 151, 3) := by decide +kernel
theorem dX12_fresh_46 : decode cX12_fresh 46 = .ok (.iload 4, 2) := by decide +kernel
theorem dX12_fresh_48 : decode cX12_fresh 48 = .ok (.ireturn, 1) := by decide +kernel
theorem dX12_number_0 : decode cX12_number 0 = .ok (.aload_n 0, 1) := by decide +kernel
theorem dX12_number_1 : decode cX12_number 1 = .ok (.invokevirtual 121, 3) := by decide +kernel
theorem dX12_number_4 : decode cX12_number 4 = .ok (.ifCond .eq 16, 3) := by decide +kernel
theorem dX12_number_7 : decode cX12_number 7 = .ok (.aload_n 0, 1) := by decide +kernel
theorem dX12_number_8 : decode cX12_number 8 = .ok (.getfield 36, 3) := by decide +kernel
theorem dX12_number_11 : decode cX12_number 11 = .ok (.aload_n 0, 1) := by decide +kernel
theorem dX12_number_12 : decode cX12_number 12 = .ok (.getfield 118, 3) := by decide +kernel
theorem dX12_number_15 : decode cX12_number 15 = .ok (.iaload, 1) := by decide +kernel
theorem dX12_number_16 : decode cX12_number 16 = .ok (.iconst 3, 1) := by decide +kernel
theorem dX12_number_17 : decode cX12_number 17 = .ok (.if_icmp .eq 9, 3) := by decide +kernel
theorem dX12_number_20 : decode cX12_number 20 = .ok (.aload_n 0, 1) := by decide +kernel
theorem dX12_number_21 : decode cX12_number 21 = .ok (.invokevirtual 129, 3) := by decide +kernel
theorem dX12_number_24 : decode cX12_number 24 = .ok (.iconst 0, 1) := by decide +kernel
theorem dX12_number_25 : decode cX12_number 25 = .ok (.ireturn, 1) := by decide +kernel
theorem dX12_number_26 : decode cX12_number 26 = .ok (.aload_n 0, 1) := by decide +kernel
theorem dX12_number_27 : decode cX12_number 27 = .ok (.getfield 42, 3) := by decide +kernel
theorem dX12_number_30 : decode cX12_number 30 = .ok (.aload_n 0, 1) := by decide +kernel
theorem dX12_number_31 : decode cX12_number 31 = .ok (.getfield 118, 3) := by decide +kernel
theorem dX12_number_34 : decode cX12_number 34 = .ok (.iaload, 1) := by decide +kernel
theorem dX12_number_35 : decode cX12_number 35 = .ok (.iload_n 1, 1) := by decide +kernel
theorem dX12_number_36 : decode cX12_number 36 = .ok (.iload_n 2, 1) := by decide +kernel
theorem dX12_number_37 : decode cX12_number 37 = .ok (.invokestatic 22, 3) := by decide +kernel
theorem dX12_number_40 : decode cX12_number 40 = .ok (.ifCond .ne 12, 3) := by decide +kernel
theorem dX12_number_43 : decode cX12_number 43 = .ok (.aload_n 0, 1) := by decide +kernel
theorem dX12_number_44 : decode cX12_number 44 = .ok (.iconst 5, 1) := by decide +kernel
theorem dX12_number_45 : decode cX12_number 45 = .ok (.aload_n 0, 1) := by decide +kernel
theorem dX12_number_46 : decode cX12_number 46 = .ok (.getfield 118, 3) := by decide +kernel
theorem dX12_number_49 : decode cX12_number 49 = .ok (.invokevirtual 151, 3) := by decide +kernel
theorem dX12_number_52 : decode cX12_number 52 = .ok (.aload_n 0, 1) := by decide +kernel
theorem dX12_number_53 : decode cX12_number 53 = .ok (.dup, 1) := by decide +kernel
theorem dX12_number_54 : decode cX12_number 54 = .ok (.getfield 118, 3) := by decide +kernel
theorem dX12_number_57 : decode cX12_number 57 = .ok (.iconst 1, 1) := by decide +kernel
theorem dX12_number_58 : decode cX12_number 58 = .ok (.iadd, 1) := by decide +kernel
theorem dX12_number_59 : decode cX12_number 59 = .ok (.putfield 118, 3) := by decide +kernel
theorem dX12_number_62 : decode cX12_number 62 = .ok (.aload_n 0, 1) := by decide +kernel
theorem dX12_number_63 : decode cX12_number 63 = .ok (.getfield 42, 3) := by decide +kernel
theorem dX12_number_66 : decode cX12_number 66 = .ok (.aload_n 0, 1) := by decide +kernel
theorem dX12_number_67 : decode cX12_number 67 = .ok (.getfield 118, 3) := by decide +kernel
theorem dX12_number_70 : decode cX12_number 70 = .ok (.iconst 1, 1) := by decide +kernel
theorem dX12_number_71 : decode cX12_number 71 = .ok (.isub, 1) := by decide +kernel
theorem dX12_number_72 : decode cX12_number 72 = .ok (.iaload, 1) := by decide +kernel
theorem dX12_number_73 : decode cX12_number 73 = .ok (.ireturn, 1) := by decide +kernel
theorem dX12_sum_0 : decode cX12_sum 0 = .ok (.aload_n 0, 1) := by decide +kernel
theorem dX12_sum_1 : decode cX12_sum 1 = .ok (.invokevirtual 170, 3) := by decide +kernel
theorem dX12_sum_4 : decode cX12_sum 4 = .ok (.istore_n 1, 1) := by decide +kernel
theorem dX12_sum_5 : decode cX12_sum 5 = .ok (.aload_n 0, 1) := by decide +kernel
theorem dX12_sum_6 : decode cX12_sum 6 = .ok (.iconst 4, 1) := by decide +kernel
theorem dX12_sum_7 : decode cX12_sum 7 = .ok (.bipush 43, 2) := by decide +kernel
theorem dX12_sum_9 : decode cX12_sum 9 = .ok (.invokevirtual 125, 3) := by decide +kernel
theorem dX12_sum_12 : decode cX12_sum 12 = .ok (.ifCond .ne 13, 3) := by decide +kernel
theorem dX12_sum_15 : decode cX12_sum 15 = .ok (.aload_n 0, 1) := by decide +kernel
theorem dX12_sum_16 : decode cX12_sum 16 = .ok (.iconst 4, 1) := by decide +kernel
theorem dX12_sum_17 : decode cX12_sum 17 = .ok (.bipush 45, 2) := by decide +kernel
theorem dX12_sum_19 : decode cX12_sum 19 = .ok (.invokevirtual 125, 3) := by decide +kernel
theorem dX12_sum_22 : decode cX12_sum 22 = .ok (.ifCond .eq 40, 3) := by decide +kernel
theorem dX12_sum_25 : decode cX12_sum 25 = .ok (.aload_n 0, 1) := by decide +kernel
theorem dX12_sum_26 : decode cX12_sum 26 = .ok (.getfield 42, 3) := by decide +kernel
theorem dX12_sum_29 : decode cX12_sum 29 = .ok (.aload_n 0, 1) := by decide +kernel
theorem dX12_sum_30 : decode cX12_sum 30 = .ok (.getfield 118, 3) := by decide +kernel
theorem dX12_sum_33 : decode cX12_sum 33 = .ok (.iaload, 1) := by decide +kernel
theorem dX12_sum_34 : decode cX12_sum 34 = .ok (.istore_n 2, 1) := by decide +kernel
theorem dX12_sum_35 : decode cX12_sum 35 = .ok (.aload_n 0, 1) := by decide +kernel
theorem dX12_sum_36 : decode cX12_sum 36 = .ok (.dup, 1) := by decide +kernel
theorem dX12_sum_37 : decode cX12_sum 37 = .ok (.getfield 118, 3) := by decide +kernel
theorem dX12_sum_40 : decode cX12_sum 40 = .ok (.iconst 1, 1) := by decide +kernel
theorem dX12_sum_41 : decode cX12_sum 41 = .ok (.iadd, 1) := by decide +kernel
theorem dX12_sum_42 : decode cX12_sum 42 = .ok (.putfield 118, 3) := by decide +kernel
theorem dX12_sum_45 : decode cX12_sum 45 = .ok (.aload_n 0, 1) := by decide +kernel
theorem dX12_sum_46 : decode cX12_sum 46 = .ok (.getfield 91, 3) := by decide +kernel
theorem dX12_sum_49 : decode cX12_sum 49 = .ok (.iload_n 2, 1) := by decide +kernel
theorem dX12_sum_50 : decode cX12_sum 50 = .ok (.iload_n 1, 1) := by decide +kernel
theorem dX12_sum_51 : decode cX12_sum 51 = .ok (.aload_n 0, 1) := by decide +kernel
theorem dX12_sum_52 : decode cX12_sum 52 = .ok (.invokevirtual 170, 3) := by decide +kernel
theorem dX12_sum_55 : decode cX12_sum 55 = .ok (.invokevirtual 173, 3) := by decide +kernel
theorem dX12_sum_58 : decode cX12_sum 58 = .ok (.istore_n 1, 1) := by decide +kernel
theorem dX12_sum_59 : decode cX12_sum 59 = .ok (.goto (-54), 3) := by decide +kernel
theorem dX12_sum_62 : decode cX12_sum 62 = .ok (.iload_n 1, 1) := by decide +kernel
theorem dX12_sum_63 : decode cX12_sum 63 = .ok (.ireturn, 1) := by decide +kernel
theorem dX12_product_0 : decode cX12_product 0 = .ok (.aload_n 0, 1) := by decide +kernel
theorem dX12_product_1 : decode cX12_product 1 = .ok (.invokevirtual 177, 3) := by decide +kernel
theorem dX12_product_4 : decode cX12_product 4 = .ok (.istore_n 1, 1) := by decide +kernel
theorem dX12_product_5 : decode cX12_product 5 = .ok (.aload_n 0, 1) := by decide +kernel
theorem dX12_product_6 : decode cX12_product 6 = .ok (.iconst 4, 1) := by decide +kernel
theorem dX12_product_7 : decode cX12_product 7 = .ok (.bipush 42, 2) := by decide +kernel
theorem dX12_product_9 : decode cX12_product 9 = .ok (.invokevirtual 125, 3) := by decide +kernel
theorem dX12_product_12 : decode cX12_product 12 = .ok (.ifCond .ne 13, 3) := by decide +kernel
theorem dX12_product_15 : decode cX12_product 15 = .ok (.aload_n 0, 1) := by decide +kernel
theorem dX12_product_16 : decode cX12_product 16 = .ok (.iconst 4, 1) := by decide +kernel
theorem dX12_product_17 : decode cX12_product 17 = .ok (.bipush 47, 2) := by decide +kernel
theorem dX12_product_19 : decode cX12_product 19 = .ok (.invokevirtual 125, 3) := by decide +kernel
theorem dX12_product_22 : decode cX12_product 22 = .ok (.ifCond .eq 40, 3) := by decide +kernel
theorem dX12_product_25 : decode cX12_product 25 = .ok (.aload_n 0, 1) := by decide +kernel
theorem dX12_product_26 : decode cX12_product 26 = .ok (.getfield 42, 3) := by decide +kernel
theorem dX12_product_29 : decode cX12_product 29 = .ok (.aload_n 0, 1) := by decide +kernel
theorem dX12_product_30 : decode cX12_product 30 = .ok (.getfield 118, 3) := by decide +kernel
theorem dX12_product_33 : decode cX12_product 33 = .ok (.iaload, 1) := by decide +kernel
theorem dX12_product_34 : decode cX12_product 34 = .ok (.istore_n 2, 1) := by decide +kernel
theorem dX12_product_35 : decode cX12_product 35 = .ok (.aload_n 0, 1) := by decide +kernel
theorem dX12_product_36 : decode cX12_product 36 = .ok (.dup, 1) := by decide +kernel
theorem dX12_product_37 : decode cX12_product 37 = .ok (.getfield 118, 3) := by decide +kernel
theorem dX12_product_40 : decode cX12_product 40 = .ok (.iconst 1, 1) := by decide +kernel
theorem dX12_product_41 : decode cX12_product 41 = .ok (.iadd, 1) := by decide +kernel
theorem dX12_product_42 : decode cX12_product 42 = .ok (.putfield 118, 3) := by decide +kernel
theorem dX12_product_45 : decode cX12_product 45 = .ok (.aload_n 0, 1) := by decide +kernel
theorem dX12_product_46 : decode cX12_product 46 = .ok (.getfield 91, 3) := by decide +kernel
theorem dX12_product_49 : decode cX12_product 49 = .ok (.iload_n 2, 1) := by decide +kernel
theorem dX12_product_50 : decode cX12_product 50 = .ok (.iload_n 1, 1) := by decide +kernel
theorem dX12_product_51 : decode cX12_product 51 = .ok (.aload_n 0, 1) := by decide +kernel
theorem dX12_product_52 : decode cX12_product 52 = .ok (.invokevirtual 177, 3) := by decide +kernel
theorem dX12_product_55 : decode cX12_product 55 = .ok (.invokevirtual 173, 3) := by decide +kernel
theorem dX12_product_58 : decode cX12_product 58 = .ok (.istore_n 1, 1) := by decide +kernel
theorem dX12_product_59 : decode cX12_product 59 = .ok (.goto (-54), 3) := by decide +kernel
theorem dX12_product_62 : decode cX12_product 62 = .ok (.iload_n 1, 1) := by decide +kernel
theorem dX12_product_63 : decode cX12_product 63 = .ok (.ireturn, 1) := by decide +kernel
theorem dX12_one_0 : decode cX12_one 0 = .ok (.aload_n 0, 1) := by decide +kernel
theorem dX12_one_1 : decode cX12_one 1 = .ok (.invokevirtual 121, 3) := by decide +kernel
theorem dX12_one_4 : decode cX12_one 4 = .ok (.ifCond .ne 5, 3) := by decide +kernel
theorem dX12_one_7 : decode cX12_one 7 = .ok (.iconst 0, 1) := by decide +kernel
theorem dX12_one_8 : decode cX12_one 8 = .ok (.ireturn, 1) := by decide +kernel
theorem dX12_one_9 : decode cX12_one 9 = .ok (.aload_n 0, 1) := by decide +kernel
theorem dX12_one_10 : decode cX12_one 10 = .ok (.getfield 36, 3) := by decide +kernel
theorem dX12_one_13 : decode cX12_one 13 = .ok (.aload_n 0, 1) := by decide +kernel
theorem dX12_one_14 : decode cX12_one 14 = .ok (.getfield 118, 3) := by decide +kernel
theorem dX12_one_17 : decode cX12_one 17 = .ok (.iaload, 1) := by decide +kernel
theorem dX12_one_18 : decode cX12_one 18 = .ok (.iconst 3, 1) := by decide +kernel
theorem dX12_one_19 : decode cX12_one 19 = .ok (.if_icmp .ne 21, 3) := by decide +kernel
theorem dX12_one_22 : decode cX12_one 22 = .ok (.aload_n 0, 1) := by decide +kernel
theorem dX12_one_23 : decode cX12_one 23 = .ok (.getfield 91, 3) := by decide +kernel
theorem dX12_one_26 : decode cX12_one 26 = .ok (.bipush 35, 2) := by decide +kernel
theorem dX12_one_28 : decode cX12_one 28 = .ok (.aload_n 0, 1) := by decide +kernel
theorem dX12_one_29 : decode cX12_one 29 = .ok (.iconst 0, 1) := by decide +kernel
theorem dX12_one_30 : decode cX12_one 30 = .ok (.ldc 180, 2) := by decide +kernel
theorem dX12_one_32 : decode cX12_one 32 = .ok (.invokevirtual 181, 3) := by decide +kernel
theorem dX12_one_35 : decode cX12_one 35 = .ok (.iconst 0, 1) := by decide +kernel
theorem dX12_one_36 : decode cX12_one 36 = .ok (.invokevirtual 173, 3) := by decide +kernel
theorem dX12_one_39 : decode cX12_one 39 = .ok (.ireturn, 1) := by decide +kernel
theorem dX12_one_40 : decode cX12_one 40 = .ok (.aload_n 0, 1) := by decide +kernel
theorem dX12_one_41 : decode cX12_one 41 = .ok (.iconst 2, 1) := by decide +kernel
theorem dX12_one_42 : decode cX12_one 42 = .ok (.bipush 16, 2) := by decide +kernel
theorem dX12_one_44 : decode cX12_one 44 = .ok (.invokevirtual 125, 3) := by decide +kernel
theorem dX12_one_47 : decode cX12_one 47 = .ok (.ifCond .eq 25, 3) := by decide +kernel
theorem dX12_one_50 : decode cX12_one 50 = .ok (.aload_n 0, 1) := by decide +kernel
theorem dX12_one_51 : decode cX12_one 51 = .ok (.dup, 1) := by decide +kernel
theorem dX12_one_52 : decode cX12_one 52 = .ok (.getfield 118, 3) := by decide +kernel
theorem dX12_one_55 : decode cX12_one 55 = .ok (.iconst 1, 1) := by decide +kernel
theorem dX12_one_56 : decode cX12_one 56 = .ok (.iadd, 1) := by decide +kernel
theorem dX12_one_57 : decode cX12_one 57 = .ok (.putfield 118, 3) := by decide +kernel
theorem dX12_one_60 : decode cX12_one 60 = .ok (.aload_n 0, 1) := by decide +kernel
theorem dX12_one_61 : decode cX12_one 61 = .ok (.getfield 91, 3) := by decide +kernel
theorem dX12_one_64 : decode cX12_one 64 = .ok (.bipush 16, 2) := by decide +kernel
theorem dX12_one_66 : decode cX12_one 66 = .ok (.iconst 0, 1) := by decide +kernel
theorem dX12_one_67 : decode cX12_one 67 = .ok (.iconst 0, 1) := by decide +kernel
theorem dX12_one_68 : decode cX12_one 68 = .ok (.invokevirtual 173, 3) := by decide +kernel
theorem dX12_one_71 : decode cX12_one 71 = .ok (.ireturn, 1) := by decide +kernel
theorem dX12_one_72 : decode cX12_one 72 = .ok (.aload_n 0, 1) := by decide +kernel
theorem dX12_one_73 : decode cX12_one 73 = .ok (.iconst 2, 1) := by decide +kernel
theorem dX12_one_74 : decode cX12_one 74 = .ok (.bipush 17, 2) := by decide +kernel
theorem dX12_one_76 : decode cX12_one 76 = .ok (.invokevirtual 125, 3) := by decide +kernel
theorem dX12_one_79 : decode cX12_one 79 = .ok (.ifCond .ne 23, 3) := by decide +kernel
theorem dX12_one_82 : decode cX12_one 82 = .ok (.aload_n 0, 1) := by decide +kernel
theorem dX12_one_83 : decode cX12_one 83 = .ok (.iconst 2, 1) := by decide +kernel
theorem dX12_one_84 : decode cX12_one 84 = .ok (.bipush 18, 2) := by decide +kernel
theorem dX12_one_86 : decode cX12_one 86 = .ok (.invokevirtual 125, 3) := by decide +kernel
theorem dX12_one_89 : decode cX12_one 89 = .ok (.ifCond .ne 13, 3) := by decide +kernel
theorem dX12_one_92 : decode cX12_one 92 = .ok (.aload_n 0, 1) := by decide +kernel
theorem dX12_one_93 : decode cX12_one 93 = .ok (.iconst 2, 1) := by decide +kernel
theorem dX12_one_94 : decode cX12_one 94 = .ok (.bipush 19, 2) := by decide +kernel
theorem dX12_one_96 : decode cX12_one 96 = .ok (.invokevirtual 125, 3) := by decide +kernel
theorem dX12_one_99 : decode cX12_one 99 = .ok (.ifCond .eq 37, 3) := by decide +kernel
theorem dX12_one_102 : decode cX12_one 102 = .ok (.aload_n 0, 1) := by decide +kernel
theorem dX12_one_103 : decode cX12_one 103 = .ok (.getfield 42, 3) := by decide +kernel
theorem dX12_one_106 : decode cX12_one 106 = .ok (.aload_n 0, 1) := by decide +kernel
theorem dX12_one_107 : decode cX12_one 107 = .ok (.getfield 118, 3) := by decide +kernel
theorem dX12_one_110 : decode cX12_one 110 = .ok (.iaload, 1) := by decide +kernel
theorem dX12_one_111 : decode cX12_one 111 = .ok (.istore_n 1, 1) := by decide +kernel
theorem dX12_one_112 : decode cX12_one 112 = .ok (.aload_n 0, 1) := by decide +kernel
theorem dX12_one_113 : decode cX12_one 113 = .ok (.dup, 1) := by decide +kernel
theorem dX12_one_114 : decode cX12_one 114 = .ok (.getfield 118, 3) := by decide +kernel
theorem dX12_one_117 : decode cX12_one 117 = .ok (.iconst 1, 1) := by decide +kernel
theorem dX12_one_118 : decode cX12_one 118 = .ok (.iadd, 1) := by decide +kernel
theorem dX12_one_119 : decode cX12_one 119 = .ok (.putfield 118, 3) := by decide +kernel
theorem dX12_one_122 : decode cX12_one 122 = .ok (.aload_n 0, 1) := by decide +kernel
theorem dX12_one_123 : decode cX12_one 123 = .ok (.getfield 91, 3) := by decide +kernel
theorem dX12_one_126 : decode cX12_one 126 = .ok (.iload_n 1, 1) := by decide +kernel
theorem dX12_one_127 : decode cX12_one 127 = .ok (.aload_n 0, 1) := by decide +kernel
theorem dX12_one_128 : decode cX12_one 128 = .ok (.invokevirtual 185, 3) := by decide +kernel
theorem dX12_one_131 : decode cX12_one 131 = .ok (.iconst 0, 1) := by decide +kernel
theorem dX12_one_132 : decode cX12_one 132 = .ok (.invokevirtual 173, 3) := by decide +kernel
theorem dX12_one_135 : decode cX12_one 135 = .ok (.ireturn, 1) := by decide +kernel
theorem dX12_one_136 : decode cX12_one 136 = .ok (.aload_n 0, 1) := by decide +kernel
theorem dX12_one_137 : decode cX12_one 137 = .ok (.iconst 2, 1) := by decide +kernel
theorem dX12_one_138 : decode cX12_one 138 = .ok (.bipush 20, 2) := by decide +kernel
theorem dX12_one_140 : decode cX12_one 140 = .ok (.invokevirtual 125, 3) := by decide +kernel
theorem dX12_one_143 : decode cX12_one 143 = .ok (.ifCond .eq 28, 3) := by decide +kernel
theorem dX12_one_146 : decode cX12_one 146 = .ok (.aload_n 0, 1) := by decide +kernel
theorem dX12_one_147 : decode cX12_one 147 = .ok (.dup, 1) := by decide +kernel
theorem dX12_one_148 : decode cX12_one 148 = .ok (.getfield 118, 3) := by decide +kernel
theorem dX12_one_151 : decode cX12_one 151 = .ok (.iconst 1, 1) := by decide +kernel
theorem dX12_one_152 : decode cX12_one 152 = .ok (.iadd, 1) := by decide +kernel
theorem dX12_one_153 : decode cX12_one 153 = .ok (.putfield 118, 3) := by decide +kernel
theorem dX12_one_156 : decode cX12_one 156 = .ok (.aload_n 0, 1) := by decide +kernel
theorem dX12_one_157 : decode cX12_one 157 = .ok (.getfield 91, 3) := by decide +kernel
theorem dX12_one_160 : decode cX12_one 160 = .ok (.bipush 20, 2) := by decide +kernel
theorem dX12_one_162 : decode cX12_one 162 = .ok (.aload_n 0, 1) := by decide +kernel
theorem dX12_one_163 : decode cX12_one 163 = .ok (.invokevirtual 188, 3) := by decide +kernel
theorem dX12_one_166 : decode cX12_one 166 = .ok (.iconst 0, 1) := by decide +kernel
theorem dX12_one_167 : decode cX12_one 167 = .ok (.invokevirtual 173, 3) := by decide +kernel
theorem dX12_one_170 : decode cX12_one 170 = .ok (.ireturn, 1) := by decide +kernel
theorem dX12_one_171 : decode cX12_one 171 = .ok (.aload_n 0, 1) := by decide +kernel
theorem dX12_one_172 : decode cX12_one 172 = .ok (.iconst 2, 1) := by decide +kernel
theorem dX12_one_173 : decode cX12_one 173 = .ok (.bipush 21, 2) := by decide +kernel
theorem dX12_one_175 : decode cX12_one 175 = .ok (.invokevirtual 125, 3) := by decide +kernel
theorem dX12_one_178 : decode cX12_one 178 = .ok (.ifCond .eq 28, 3) := by decide +kernel
theorem dX12_one_181 : decode cX12_one 181 = .ok (.aload_n 0, 1) := by decide +kernel
theorem dX12_one_182 : decode cX12_one 182 = .ok (.dup, 1) := by decide +kernel
theorem dX12_one_183 : decode cX12_one 183 = .ok (.getfield 118, 3) := by decide +kernel
theorem dX12_one_186 : decode cX12_one 186 = .ok (.iconst 1, 1) := by decide +kernel
theorem dX12_one_187 : decode cX12_one 187 = .ok (.iadd, 1) := by decide +kernel
theorem dX12_one_188 : decode cX12_one 188 = .ok (.putfield 118, 3) := by decide +kernel
theorem dX12_one_191 : decode cX12_one 191 = .ok (.aload_n 0, 1) := by decide +kernel
theorem dX12_one_192 : decode cX12_one 192 = .ok (.getfield 91, 3) := by decide +kernel
theorem dX12_one_195 : decode cX12_one 195 = .ok (.bipush 21, 2) := by decide +kernel
theorem dX12_one_197 : decode cX12_one 197 = .ok (.aload_n 0, 1) := by decide +kernel
theorem dX12_one_198 : decode cX12_one 198 = .ok (.invokevirtual 191, 3) := by decide +kernel
theorem dX12_one_201 : decode cX12_one 201 = .ok (.iconst 0, 1) := by decide +kernel
theorem dX12_one_202 : decode cX12_one 202 = .ok (.invokevirtual 173, 3) := by decide +kernel
theorem dX12_one_205 : decode cX12_one 205 = .ok (.ireturn, 1) := by decide +kernel
theorem dX12_one_206 : decode cX12_one 206 = .ok (.aload_n 0, 1) := by decide +kernel
theorem dX12_one_207 : decode cX12_one 207 = .ok (.iconst 4, 1) := by decide +kernel
theorem dX12_one_208 : decode cX12_one 208 = .ok (.bipush 45, 2) := by decide +kernel
theorem dX12_one_210 : decode cX12_one 210 = .ok (.invokevirtual 125, 3) := by decide +kernel
theorem dX12_one_213 : decode cX12_one 213 = .ok (.ifCond .eq 44, 3) := by decide +kernel
theorem dX12_one_216 : decode cX12_one 216 = .ok (.aload_n 0, 1) := by decide +kernel
theorem dX12_one_217 : decode cX12_one 217 = .ok (.invokevirtual 194, 3) := by decide +kernel
theorem dX12_one_220 : decode cX12_one 220 = .ok (.aload_n 0, 1) := by decide +kernel
theorem dX12_one_221 : decode cX12_one 221 = .ok (.dup, 1) := by decide +kernel
theorem dX12_one_222 : decode cX12_one 222 = .ok (.getfield 118, 3) := by decide +kernel
theorem dX12_one_225 : decode cX12_one 225 = .ok (.iconst 1, 1) := by decide +kernel
theorem dX12_one_226 : decode cX12_one 226 = .ok (.iadd, 1) := by decide +kernel
theorem dX12_one_227 : decode cX12_one 227 = .ok (.putfield 118, 3) := by decide +kernel
theorem dX12_one_230 : decode cX12_one 230 = .ok (.aload_n 0, 1) := by decide +kernel
theorem dX12_one_231 : decode cX12_one 231 = .ok (.getfield 91, 3) := by decide +kernel
theorem dX12_one_234 : decode cX12_one 234 = .ok (.bipush 110, 2) := by decide +kernel
theorem dX12_one_236 : decode cX12_one 236 = .ok (.aload_n 0, 1) := by decide +kernel
theorem dX12_one_237 : decode cX12_one 237 = .ok (.invokevirtual 177, 3) := by decide +kernel
theorem dX12_one_240 : decode cX12_one 240 = .ok (.iconst 0, 1) := by decide +kernel
theorem dX12_one_241 : decode cX12_one 241 = .ok (.invokevirtual 173, 3) := by decide +kernel
theorem dX12_one_244 : decode cX12_one 244 = .ok (.istore_n 1, 1) := by decide +kernel
theorem dX12_one_245 : decode cX12_one 245 = .ok (.aload_n 0, 1) := by decide +kernel
theorem dX12_one_246 : decode cX12_one 246 = .ok (.dup, 1) := by decide +kernel
theorem dX12_one_247 : decode cX12_one 247 = .ok (.getfield 138, 3) := by decide +kernel
theorem dX12_one_250 : decode cX12_one 250 = .ok (.iconst 1, 1) := by decide +kernel
theorem dX12_one_251 : decode cX12_one 251 = .ok (.isub, 1) := by decide +kernel
theorem dX12_one_252 : decode cX12_one 252 = .ok (.putfield 138, 3) := by decide +kernel
theorem dX12_one_255 : decode cX12_one 255 = .ok (.iload_n 1, 1) := by decide +kernel
theorem dX12_one_256 : decode cX12_one 256 = .ok (.ireturn, 1) := by decide +kernel
theorem dX12_one_257 : decode cX12_one 257 = .ok (.aload_n 0, 1) := by decide +kernel
theorem dX12_one_258 : decode cX12_one 258 = .ok (.iconst 4, 1) := by decide +kernel
theorem dX12_one_259 : decode cX12_one 259 = .ok (.bipush 40, 2) := by decide +kernel
theorem dX12_one_261 : decode cX12_one 261 = .ok (.invokevirtual 125, 3) := by decide +kernel
theorem dX12_one_264 : decode cX12_one 264 = .ok (.ifCond .eq 8, 3) := by decide +kernel
theorem dX12_one_267 : decode cX12_one 267 = .ok (.aload_n 0, 1) := by decide +kernel
theorem dX12_one_268 : decode cX12_one 268 = .ok (.invokevirtual 197, 3) := by decide +kernel
theorem dX12_one_271 : decode cX12_one 271 = .ok (.ireturn, 1) := by decide +kernel
theorem dX12_one_272 : decode cX12_one 272 = .ok (.aload_n 0, 1) := by decide +kernel
theorem dX12_one_273 : decode cX12_one 273 = .ok (.iconst 2, 1) := by decide +kernel
theorem dX12_one_274 : decode cX12_one 274 = .ok (.bipush 26, 2) := by decide +kernel
theorem dX12_one_276 : decode cX12_one 276 = .ok (.invokevirtual 125, 3) := by decide +kernel
theorem dX12_one_279 : decode cX12_one 279 = .ok (.ifCond .ne 13, 3) := by decide +kernel
theorem dX12_one_282 : decode cX12_one 282 = .ok (.aload_n 0, 1) := by decide +kernel
theorem dX12_one_283 : decode cX12_one 283 = .ok (.iconst 2, 1) := by decide +kernel
theorem dX12_one_284 : decode cX12_one 284 = .ok (.bipush 27, 2) := by decide +kernel
theorem dX12_one_286 : decode cX12_one 286 = .ok (.invokevirtual 125, 3) := by decide +kernel
theorem dX12_one_289 : decode cX12_one 289 = .ok (.ifCond .eq 17, 3) := by decide +kernel
theorem dX12_one_292 : decode cX12_one 292 = .ok (.aload_n 0, 1) := by decide +kernel
theorem dX12_one_293 : decode cX12_one 293 = .ok (.aload_n 0, 1) := by decide +kernel
theorem dX12_one_294 : decode cX12_one 294 = .ok (.getfield 42, 3) := by decide +kernel
theorem dX12_one_297 : decode cX12_one 297 = .ok (.aload_n 0, 1) := by decide +kernel
theorem dX12_one_298 : decode cX12_one 298 = .ok (.getfield 118, 3) := by decide +kernel
theorem dX12_one_301 : decode cX12_one 301 = .ok (.iaload, 1) := by decide +kernel
theorem dX12_one_302 : decode cX12_one 302 = .ok (.invokevirtual 200, 3) := by decide +kernel
theorem dX12_one_305 : decode cX12_one 305 = .ok (.ireturn, 1) := by decide +kernel
theorem dX12_one_306 : decode cX12_one 306 = .ok (.aload_n 0, 1) := by decide +kernel
theorem dX12_one_307 : decode cX12_one 307 = .ok (.invokevirtual 129, 3) := by decide +kernel
theorem dX12_one_310 : decode cX12_one 310 = .ok (.iconst 0, 1) := by decide +kernel
theorem dX12_one_311 : decode cX12_one 311 = .ok (.ireturn, 1) := by decide +kernel
theorem dX12_inner_0 : decode cX12_inner 0 = .ok (.aload_n 0, 1) := by decide +kernel
theorem dX12_inner_1 : decode cX12_inner 1 = .ok (.invokevirtual 194, 3) := by decide +kernel
theorem dX12_inner_4 : decode cX12_inner 4 = .ok (.aload_n 0, 1) := by decide +kernel
theorem dX12_inner_5 : decode cX12_inner 5 = .ok (.dup, 1) := by decide +kernel
theorem dX12_inner_6 : decode cX12_inner 6 = .ok (.getfield 118, 3) := by decide +kernel
theorem dX12_inner_9 : decode cX12_inner 9 = .ok (.iconst 1, 1) := by decide +kernel
theorem dX12_inner_10 : decode cX12_inner 10 = .ok (.iadd, 1) := by decide +kernel
theorem dX12_inner_11 : decode cX12_inner 11 = .ok (.putfield 118, 3) := by decide +kernel
theorem dX12_inner_14 : decode cX12_inner 14 = .ok (.aload_n 0, 1) := by decide +kernel
theorem dX12_inner_15 : decode cX12_inner 15 = .ok (.invokevirtual 203, 3) := by decide +kernel
theorem dX12_inner_18 : decode cX12_inner 18 = .ok (.istore_n 1, 1) := by decide +kernel
theorem dX12_inner_19 : decode cX12_inner 19 = .ok (.aload_n 0, 1) := by decide +kernel
theorem dX12_inner_20 : decode cX12_inner 20 = .ok (.iconst 4, 1) := by decide +kernel
theorem dX12_inner_21 : decode cX12_inner 21 = .ok (.bipush 41, 2) := by decide +kernel
theorem dX12_inner_23 : decode cX12_inner 23 = .ok (.invokevirtual 206, 3) := by decide +kernel
theorem dX12_inner_26 : decode cX12_inner 26 = .ok (.aload_n 0, 1) := by decide +kernel
theorem dX12_inner_27 : decode cX12_inner 27 = .ok (.dup, 1) := by decide +kernel
theorem dX12_inner_28 : decode cX12_inner 28 = .ok (.getfield 138, 3) := by decide +kernel
theorem dX12_inner_31 : decode cX12_inner 31 = .ok (.iconst 1, 1) := by decide +kernel
theorem dX12_inner_32 : decode cX12_inner 32 = .ok (.isub, 1) := by decide +kernel
theorem dX12_inner_33 : decode cX12_inner 33 = .ok (.putfield 138, 3) := by decide +kernel
theorem dX12_inner_36 : decode cX12_inner 36 = .ok (.iload_n 1, 1) := by decide +kernel
theorem dX12_inner_37 : decode cX12_inner 37 = .ok (.ireturn, 1) := by decide +kernel
theorem dX12_both_0 : decode cX12_both 0 = .ok (.aload_n 0, 1) := by decide +kernel
theorem dX12_both_1 : decode cX12_both 1 = .ok (.dup, 1) := by decide +kernel
theorem dX12_both_2 : decode cX12_both 2 = .ok (.getfield 118, 3) := by decide +kernel
theorem dX12_both_5 : decode cX12_both 5 = .ok (.iconst 1, 1) := by decide +kernel
theorem dX12_both_6 : decode cX12_both 6 = .ok (.iadd, 1) := by decide +kernel
theorem dX12_both_7 : decode cX12_both 7 = .ok (.putfield 118, 3) := by decide +kernel
theorem dX12_both_10 : decode cX12_both 10 = .ok (.aload_n 0, 1) := by decide +kernel
theorem dX12_both_11 : decode cX12_both 11 = .ok (.iconst 4, 1) := by decide +kernel
theorem dX12_both_12 : decode cX12_both 12 = .ok (.bipush 40, 2) := by decide +kernel
theorem dX12_both_14 : decode cX12_both 14 = .ok (.invokevirtual 125, 3) := by decide +kernel
theorem dX12_both_17 : decode cX12_both 17 = .ok (.ifCond .ne 9, 3) := by decide +kernel
theorem dX12_both_20 : decode cX12_both 20 = .ok (.aload_n 0, 1) := by decide +kernel
theorem dX12_both_21 : decode cX12_both 21 = .ok (.invokevirtual 129, 3) := by decide +kernel
theorem dX12_both_24 : decode cX12_both 24 = .ok (.iconst 0, 1) := by decide +kernel
theorem dX12_both_25 : decode cX12_both 25 = .ok (.ireturn, 1) := by decide +kernel
theorem dX12_both_26 : decode cX12_both 26 = .ok (.aload_n 0, 1) := by decide +kernel
theorem dX12_both_27 : decode cX12_both 27 = .ok (.invokevirtual 194, 3) := by decide +kernel
theorem dX12_both_30 : decode cX12_both 30 = .ok (.aload_n 0, 1) := by decide +kernel
theorem dX12_both_31 : decode cX12_both 31 = .ok (.dup, 1) := by decide +kernel
theorem dX12_both_32 : decode cX12_both 32 = .ok (.getfield 118, 3) := by decide +kernel
theorem dX12_both_35 : decode cX12_both 35 = .ok (.iconst 1, 1) := by decide +kernel
theorem dX12_both_36 : decode cX12_both 36 = .ok (.iadd, 1) := by decide +kernel
theorem dX12_both_37 : decode cX12_both 37 = .ok (.putfield 118, 3) := by decide +kernel
theorem dX12_both_40 : decode cX12_both 40 = .ok (.aload_n 0, 1) := by decide +kernel
theorem dX12_both_41 : decode cX12_both 41 = .ok (.invokevirtual 203, 3) := by decide +kernel
theorem dX12_both_44 : decode cX12_both 44 = .ok (.istore_n 2, 1) := by decide +kernel
theorem dX12_both_45 : decode cX12_both 45 = .ok (.aload_n 0, 1) := by decide +kernel
theorem dX12_both_46 : decode cX12_both 46 = .ok (.iconst 4, 1) := by decide +kernel
theorem dX12_both_47 : decode cX12_both 47 = .ok (.bipush 44, 2) := by decide +kernel
theorem dX12_both_49 : decode cX12_both 49 = .ok (.invokevirtual 206, 3) := by decide +kernel
theorem dX12_both_52 : decode cX12_both 52 = .ok (.aload_n 0, 1) := by decide +kernel
theorem dX12_both_53 : decode cX12_both 53 = .ok (.invokevirtual 203, 3) := by decide +kernel
theorem dX12_both_56 : decode cX12_both 56 = .ok (.istore_n 3, 1) := by decide +kernel
theorem dX12_both_57 : decode cX12_both 57 = .ok (.aload_n 0, 1) := by decide +kernel
theorem dX12_both_58 : decode cX12_both 58 = .ok (.iconst 4, 1) := by decide +kernel
theorem dX12_both_59 : decode cX12_both 59 = .ok (.bipush 41, 2) := by decide +kernel
theorem dX12_both_61 : decode cX12_both 61 = .ok (.invokevirtual 206, 3) := by decide +kernel
theorem dX12_both_64 : decode cX12_both 64 = .ok (.aload_n 0, 1) := by decide +kernel
theorem dX12_both_65 : decode cX12_both 65 = .ok (.dup, 1) := by decide +kernel
theorem dX12_both_66 : decode cX12_both 66 = .ok (.getfield 138, 3) := by decide +kernel
theorem dX12_both_69 : decode cX12_both 69 = .ok (.iconst 1, 1) := by decide +kernel
theorem dX12_both_70 : decode cX12_both 70 = .ok (.isub, 1) := by decide +kernel
theorem dX12_both_71 : decode cX12_both 71 = .ok (.putfield 138, 3) := by decide +kernel
theorem dX12_both_74 : decode cX12_both 74 = .ok (.aload_n 0, 1) := by decide +kernel
theorem dX12_both_75 : decode cX12_both 75 = .ok (.getfield 91, 3) := by decide +kernel
theorem dX12_both_78 : decode cX12_both 78 = .ok (.iload_n 1, 1) := by decide +kernel
theorem dX12_both_79 : decode cX12_both 79 = .ok (.iload_n 2, 1) := by decide +kernel
theorem dX12_both_80 : decode cX12_both 80 = .ok (.iload_n 3, 1) := by decide +kernel
theorem dX12_both_81 : decode cX12_both 81 = .ok (.invokevirtual 173, 3) := by decide +kernel
theorem dX12_both_84 : decode cX12_both 84 = .ok (.ireturn, 1) := by decide +kernel
theorem dX12_test_0 : decode cX12_test 0 = .ok (.aload_n 0, 1) := by decide +kernel
theorem dX12_test_1 : decode cX12_test 1 = .ok (.invokevirtual 209, 3) := by decide +kernel
theorem dX12_test_4 : decode cX12_test 4 = .ok (.istore_n 1, 1) := by decide +kernel
theorem dX12_test_5 : decode cX12_test 5 = .ok (.aload_n 0, 1) := by decide +kernel
theorem dX12_test_6 : decode cX12_test 6 = .ok (.iconst 2, 1) := by decide +kernel
theorem dX12_test_7 : decode cX12_test 7 = .ok (.bipush 25, 2) := by decide +kernel
theorem dX12_test_9 : decode cX12_test 9 = .ok (.invokevirtual 125, 3) := by decide +kernel
theorem dX12_test_12 : decode cX12_test 12 = .ok (.ifCond .eq 31, 3) := by decide +kernel
theorem dX12_test_15 : decode cX12_test 15 = .ok (.aload_n 0, 1) := by decide +kernel
theorem dX12_test_16 : decode cX12_test 16 = .ok (.dup, 1) := by decide +kernel
theorem dX12_test_17 : decode cX12_test 17 = .ok (.getfield 118, 3) := by decide +kernel
theorem dX12_test_20 : decode cX12_test 20 = .ok (.iconst 1, 1) := by decide +kernel
theorem dX12_test_21 : decode cX12_test 21 = .ok (.iadd, 1) := by decide +kernel
theorem dX12_test_22 : decode cX12_test 22 = .ok (.putfield 118, 3) := by decide +kernel
theorem dX12_test_25 : decode cX12_test 25 = .ok (.aload_n 0, 1) := by decide +kernel
theorem dX12_test_26 : decode cX12_test 26 = .ok (.getfield 91, 3) := by decide +kernel
theorem dX12_test_29 : decode cX12_test 29 = .ok (.bipush 25, 2) := by decide +kernel
theorem dX12_test_31 : decode cX12_test 31 = .ok (.iload_n 1, 1) := by decide +kernel
theorem dX12_test_32 : decode cX12_test 32 = .ok (.aload_n 0, 1) := by decide +kernel
theorem dX12_test_33 : decode cX12_test 33 = .ok (.invokevirtual 209, 3) := by decide +kernel
theorem dX12_test_36 : decode cX12_test 36 = .ok (.invokevirtual 173, 3) := by decide +kernel
theorem dX12_test_39 : decode cX12_test 39 = .ok (.istore_n 1, 1) := by decide +kernel
theorem dX12_test_40 : decode cX12_test 40 = .ok (.goto (-35), 3) := by decide +kernel
theorem dX12_test_43 : decode cX12_test 43 = .ok (.iload_n 1, 1) := by decide +kernel
theorem dX12_test_44 : decode cX12_test 44 = .ok (.ireturn, 1) := by decide +kernel
theorem dX12_pair_0 : decode cX12_pair 0 = .ok (.aload_n 0, 1) := by decide +kernel
theorem dX12_pair_1 : decode cX12_pair 1 = .ok (.invokevirtual 212, 3) := by decide +kernel
theorem dX12_pair_4 : decode cX12_pair 4 = .ok (.istore_n 1, 1) := by decide +kernel
theorem dX12_pair_5 : decode cX12_pair 5 = .ok (.aload_n 0, 1) := by decide +kernel
theorem dX12_pair_6 : decode cX12_pair 6 = .ok (.iconst 2, 1) := by decide +kernel
theorem dX12_pair_7 : decode cX12_pair 7 = .ok (.bipush 24, 2) := by decide +kernel
theorem dX12_pair_9 : decode cX12_pair 9 = .ok (.invokevirtual 125, 3) := by decide +kernel
theorem dX12_pair_12 : decode cX12_pair 12 = .ok (.ifCond .eq 31, 3) := by decide +kernel
theorem dX12_pair_15 : decode cX12_pair 15 = .ok (.aload_n 0, 1) := by decide +kernel
theorem dX12_pair_16 : decode cX12_pair 16 = .ok (.dup, 1) := by decide +kernel
theorem dX12_pair_17 : decode cX12_pair 17 = .ok (.getfield 118, 3) := by decide +kernel
theorem dX12_pair_20 : decode cX12_pair 20 = .ok (.iconst 1, 1) := by decide +kernel
theorem dX12_pair_21 : decode cX12_pair 21 = .ok (.iadd, 1) := by decide +kernel
theorem dX12_pair_22 : decode cX12_pair 22 = .ok (.putfield 118, 3) := by decide +kernel
theorem dX12_pair_25 : decode cX12_pair 25 = .ok (.aload_n 0, 1) := by decide +kernel
theorem dX12_pair_26 : decode cX12_pair 26 = .ok (.getfield 91, 3) := by decide +kernel
theorem dX12_pair_29 : decode cX12_pair 29 = .ok (.bipush 24, 2) := by decide +kernel
theorem dX12_pair_31 : decode cX12_pair 31 = .ok (.iload_n 1, 1) := by decide +kernel
theorem dX12_pair_32 : decode cX12_pair 32 = .ok (.aload_n 0, 1) := by decide +kernel
theorem dX12_pair_33 : decode cX12_pair 33 = .ok (.invokevirtual 212, 3) := by decide +kernel
theorem dX12_pair_36 : decode cX12_pair 36 = .ok (.invokevirtual 173, 3) := by decide +kernel
theorem dX12_pair_39 : decode cX12_pair 39 = .ok (.istore_n 1, 1) := by decide +kernel
theorem dX12_pair_40 : decode cX12_pair 40 = .ok (.goto (-35), 3) := by decide +kernel
theorem dX12_pair_43 : decode cX12_pair 43 = .ok (.iload_n 1, 1) := by decide +kernel
theorem dX12_pair_44 : decode cX12_pair 44 = .ok (.ireturn, 1) := by decide +kernel
theorem dX12_single_0 : decode cX12_single 0 = .ok (.aload_n 0, 1) := by decide +kernel
theorem dX12_single_1 : decode cX12_single 1 = .ok (.iconst 2, 1) := by decide +kernel
theorem dX12_single_2 : decode cX12_single 2 = .ok (.bipush 23, 2) := by decide +kernel
theorem dX12_single_4 : decode cX12_single 4 = .ok (.invokevirtual 125, 3) := by decide +kernel
theorem dX12_single_7 : decode cX12_single 7 = .ok (.ifCond .eq 44, 3) := by decide +kernel
theorem dX12_single_10 : decode cX12_single 10 = .ok (.aload_n 0, 1) := by decide +kernel
theorem dX12_single_11 : decode cX12_single 11 = .ok (.invokevirtual 194, 3) := by decide +kernel
theorem dX12_single_14 : decode cX12_single 14 = .ok (.aload_n 0, 1) := by decide +kernel
theorem dX12_single_15 : decode cX12_single 15 = .ok (.dup, 1) := by decide +kernel
theorem dX12_single_16 : decode cX12_single 16 = .ok (.getfield 118, 3) := by decide +kernel
theorem dX12_single_19 : decode cX12_single 19 = .ok (.iconst 1, 1) := by decide +kernel
theorem dX12_single_20 : decode cX12_single 20 = .ok (.iadd, 1) := by decide +kernel
theorem dX12_single_21 : decode cX12_single 21 = .ok (.putfield 118, 3) := by decide +kernel
theorem dX12_single_24 : decode cX12_single 24 = .ok (.aload_n 0, 1) := by decide +kernel
theorem dX12_single_25 : decode cX12_single 25 = .ok (.getfield 91, 3) := by decide +kernel
theorem dX12_single_28 : decode cX12_single 28 = .ok (.bipush 23, 2) := by decide +kernel
theorem dX12_single_30 : decode cX12_single 30 = .ok (.aload_n 0, 1) := by decide +kernel
theorem dX12_single_31 : decode cX12_single 31 = .ok (.invokevirtual 212, 3) := by decide +kernel
theorem dX12_single_34 : decode cX12_single 34 = .ok (.iconst 0, 1) := by decide +kernel
theorem dX12_single_35 : decode cX12_single 35 = .ok (.invokevirtual 173, 3) := by decide +kernel
theorem dX12_single_38 : decode cX12_single 38 = .ok (.istore_n 1, 1) := by decide +kernel
theorem dX12_single_39 : decode cX12_single 39 = .ok (.aload_n 0, 1) := by decide +kernel
theorem dX12_single_40 : decode cX12_single 40 = .ok (.dup, 1) := by decide +kernel
theorem dX12_single_41 : decode cX12_single 41 = .ok (.getfield 138, 3) := by decide +kernel
theorem dX12_single_44 : decode cX12_single 44 = .ok (.iconst 1, 1) := by decide +kernel
theorem dX12_single_45 : decode cX12_single 45 = .ok (.isub, 1) := by decide +kernel
theorem dX12_single_46 : decode cX12_single 46 = .ok (.putfield 138, 3) := by decide +kernel
theorem dX12_single_49 : decode cX12_single 49 = .ok (.iload_n 1, 1) := by decide +kernel
theorem dX12_single_50 : decode cX12_single 50 = .ok (.ireturn, 1) := by decide +kernel
theorem dX12_single_51 : decode cX12_single 51 = .ok (.aload_n 0, 1) := by decide +kernel
theorem dX12_single_52 : decode cX12_single 52 = .ok (.iconst 4, 1) := by decide +kernel
theorem dX12_single_53 : decode cX12_single 53 = .ok (.bipush 91, 2) := by decide +kernel
theorem dX12_single_55 : decode cX12_single 55 = .ok (.invokevirtual 125, 3) := by decide +kernel
theorem dX12_single_58 : decode cX12_single 58 = .ok (.ifCond .eq 41, 3) := by decide +kernel
theorem dX12_single_61 : decode cX12_single 61 = .ok (.aload_n 0, 1) := by decide +kernel
theorem dX12_single_62 : decode cX12_single 62 = .ok (.invokevirtual 194, 3) := by decide +kernel
theorem dX12_single_65 : decode cX12_single 65 = .ok (.aload_n 0, 1) := by decide +kernel
theorem dX12_single_66 : decode cX12_single 66 = .ok (.dup, 1) := by decide +kernel
theorem dX12_single_67 : decode cX12_single 67 = .ok (.getfield 118, 3) := by decide +kernel
theorem dX12_single_70 : decode cX12_single 70 = .ok (.iconst 1, 1) := by decide +kernel
theorem dX12_single_71 : decode cX12_single 71 = .ok (.iadd, 1) := by decide +kernel
theorem dX12_single_72 : decode cX12_single 72 = .ok (.putfield 118, 3) := by decide +kernel
theorem dX12_single_75 : decode cX12_single 75 = .ok (.aload_n 0, 1) := by decide +kernel
theorem dX12_single_76 : decode cX12_single 76 = .ok (.invokevirtual 215, 3) := by decide +kernel
theorem dX12_single_79 : decode cX12_single 79 = .ok (.istore_n 1, 1) := by decide +kernel
theorem dX12_single_80 : decode cX12_single 80 = .ok (.aload_n 0, 1) := by decide +kernel
theorem dX12_single_81 : decode cX12_single 81 = .ok (.iconst 4, 1) := by decide +kernel
theorem dX12_single_82 : decode cX12_single 82 = .ok (.bipush 93, 2) := by decide +kernel
theorem dX12_single_84 : decode cX12_single 84 = .ok (.invokevirtual 206, 3) := by decide +kernel
theorem dX12_single_87 : decode cX12_single 87 = .ok (.aload_n 0, 1) := by decide +kernel
theorem dX12_single_88 : decode cX12_single 88 = .ok (.dup, 1) := by decide +kernel
theorem dX12_single_89 : decode cX12_single 89 = .ok (.getfield 138, 3) := by decide +kernel
theorem dX12_single_92 : decode cX12_single 92 = .ok (.iconst 1, 1) := by decide +kernel
theorem dX12_single_93 : decode cX12_single 93 = .ok (.isub, 1) := by decide +kernel
theorem dX12_single_94 : decode cX12_single 94 = .ok (.putfield 138, 3) := by decide +kernel
theorem dX12_single_97 : decode cX12_single 97 = .ok (.iload_n 1, 1) := by decide +kernel
theorem dX12_single_98 : decode cX12_single 98 = .ok (.ireturn, 1) := by decide +kernel
theorem dX12_single_99 : decode cX12_single 99 = .ok (.aload_n 0, 1) := by decide +kernel
theorem dX12_single_100 : decode cX12_single 100 = .ok (.iconst 2, 1) := by decide +kernel
theorem dX12_single_101 : decode cX12_single 101 = .ok (.bipush 22, 2) := by decide +kernel
theorem dX12_single_103 : decode cX12_single 103 = .ok (.invokevirtual 125, 3) := by decide +kernel
theorem dX12_single_106 : decode cX12_single 106 = .ok (.ifCond .eq 28, 3) := by decide +kernel
theorem dX12_single_109 : decode cX12_single 109 = .ok (.aload_n 0, 1) := by decide +kernel
theorem dX12_single_110 : decode cX12_single 110 = .ok (.dup, 1) := by decide +kernel
theorem dX12_single_111 : decode cX12_single 111 = .ok (.getfield 118, 3) := by decide +kernel
theorem dX12_single_114 : decode cX12_single 114 = .ok (.iconst 1, 1) := by decide +kernel
theorem dX12_single_115 : decode cX12_single 115 = .ok (.iadd, 1) := by decide +kernel
theorem dX12_single_116 : decode cX12_single 116 = .ok (.putfield 118, 3) := by decide +kernel
theorem dX12_single_119 : decode cX12_single 119 = .ok (.aload_n 0, 1) := by decide +kernel
theorem dX12_single_120 : decode cX12_single 120 = .ok (.getfield 91, 3) := by decide +kernel
theorem dX12_single_123 : decode cX12_single 123 = .ok (.bipush 22, 2) := by decide +kernel
theorem dX12_single_125 : decode cX12_single 125 = .ok (.aload_n 0, 1) := by decide +kernel
theorem dX12_single_126 : decode cX12_single 126 = .ok (.invokevirtual 188, 3) := by decide +kernel
theorem dX12_single_129 : decode cX12_single 129 = .ok (.iconst 0, 1) := by decide +kernel
theorem dX12_single_130 : decode cX12_single 130 = .ok (.invokevirtual 173, 3) := by decide +kernel
theorem dX12_single_133 : decode cX12_single 133 = .ok (.ireturn, 1) := by decide +kernel
theorem dX12_single_134 : decode cX12_single 134 = .ok (.aload_n 0, 1) := by decide +kernel
theorem dX12_single_135 : decode cX12_single 135 = .ok (.invokevirtual 203, 3) := by decide +kernel
theorem dX12_single_138 : decode cX12_single 138 = .ok (.istore_n 1, 1) := by decide +kernel
theorem dX12_single_139 : decode cX12_single 139 = .ok (.aload_n 0, 1) := by decide +kernel
theorem dX12_single_140 : decode cX12_single 140 = .ok (.iconst 4, 1) := by decide +kernel
theorem dX12_single_141 : decode cX12_single 141 = .ok (.bipush 60, 2) := by decide +kernel
theorem dX12_single_143 : decode cX12_single 143 = .ok (.invokevirtual 125, 3) := by decide +kernel
theorem dX12_single_146 : decode cX12_single 146 = .ok (.ifCond .ne 49, 3) := by decide +kernel
theorem dX12_single_149 : decode cX12_single 149 = .ok (.aload_n 0, 1) := by decide +kernel
theorem dX12_single_150 : decode cX12_single 150 = .ok (.iconst 4, 1) := by decide +kernel
theorem dX12_single_151 : decode cX12_single 151 = .ok (.bipush 62, 2) := by decide +kernel
theorem dX12_single_153 : decode cX12_single 153 = .ok (.invokevirtual 125, 3) := by decide +kernel
theorem dX12_single_156 : decode cX12_single 156 = .ok (.ifCond .ne 39, 3) := by decide +kernel
theorem dX12_single_159 : decode cX12_single 159 = .ok (.aload_n 0, 1) := by decide +kernel
theorem dX12_single_160 : decode cX12_single 160 = .ok (.iconst 4, 1) := by decide +kernel
theorem dX12_single_161 : decode cX12_single 161 = .ok (.bipush 61, 2) := by decide +kernel
theorem dX12_single_163 : decode cX12_single 163 = .ok (.invokevirtual 125, 3) := by decide +kernel
theorem dX12_single_166 : decode cX12_single 166 = .ok (.ifCond .ne 29, 3) := by decide +kernel
theorem dX12_single_169 : decode cX12_single 169 = .ok (.aload_n 0, 1) := by decide +kernel
theorem dX12_single_170 : decode cX12_single 170 = .ok (.iconst 4, 1) := by decide +kernel
theorem dX12_single_171 : decode cX12_single 171 = .ok (.bipush 108, 2) := by decide +kernel
theorem dX12_single_173 : decode cX12_single 173 = .ok (.invokevirtual 125, 3) := by decide +kernel
theorem dX12_single_176 : decode cX12_single 176 = .ok (.ifCond .ne 19, 3) := by decide +kernel
theorem dX12_single_179 : decode cX12_single 179 = .ok (.aload_n 0, 1) := by decide +kernel
theorem dX12_single_180 : decode cX12_single 180 = .ok (.iconst 4, 1) := by decide +kernel
theorem dX12_single_181 : decode cX12_single 181 = .ok (.bipush 103, 2) := by decide +kernel
theorem dX12_single_183 : decode cX12_single 183 = .ok (.invokevirtual 125, 3) := by decide +kernel
theorem dX12_single_186 : decode cX12_single 186 = .ok (.ifCond .ne 9, 3) := by decide +kernel
theorem dX12_single_189 : decode cX12_single 189 = .ok (.aload_n 0, 1) := by decide +kernel
theorem dX12_single_190 : decode cX12_single 190 = .ok (.invokevirtual 129, 3) := by decide +kernel
theorem dX12_single_193 : decode cX12_single 193 = .ok (.iconst 0, 1) := by decide +kernel
theorem dX12_single_194 : decode cX12_single 194 = .ok (.ireturn, 1) := by decide +kernel
theorem dX12_single_195 : decode cX12_single 195 = .ok (.aload_n 0, 1) := by decide +kernel
theorem dX12_single_196 : decode cX12_single 196 = .ok (.getfield 42, 3) := by decide +kernel
theorem dX12_single_199 : decode cX12_single 199 = .ok (.aload_n 0, 1) := by decide +kernel
theorem dX12_single_200 : decode cX12_single 200 = .ok (.getfield 118, 3) := by decide +kernel
theorem dX12_single_203 : decode cX12_single 203 = .ok (.iaload, 1) := by decide +kernel
theorem dX12_single_204 : decode cX12_single 204 = .ok (.istore_n 2, 1) := by decide +kernel
theorem dX12_single_205 : decode cX12_single 205 = .ok (.aload_n 0, 1) := by decide +kernel
theorem dX12_single_206 : decode cX12_single 206 = .ok (.dup, 1) := by decide +kernel
theorem dX12_single_207 : decode cX12_single 207 = .ok (.getfield 118, 3) := by decide +kernel
theorem dX12_single_210 : decode cX12_single 210 = .ok (.iconst 1, 1) := by decide +kernel
theorem dX12_single_211 : decode cX12_single 211 = .ok (.iadd, 1) := by decide +kernel
theorem dX12_single_212 : decode cX12_single 212 = .ok (.putfield 118, 3) := by decide +kernel
theorem dX12_single_215 : decode cX12_single 215 = .ok (.aload_n 0, 1) := by decide +kernel
theorem dX12_single_216 : decode cX12_single 216 = .ok (.getfield 91, 3) := by decide +kernel
theorem dX12_single_219 : decode cX12_single 219 = .ok (.iload_n 2, 1) := by decide +kernel
theorem dX12_single_220 : decode cX12_single 220 = .ok (.iload_n 1, 1) := by decide +kernel
theorem dX12_single_221 : decode cX12_single 221 = .ok (.aload_n 0, 1) := by decide +kernel
theorem dX12_single_222 : decode cX12_single 222 = .ok (.invokevirtual 203, 3) := by decide +kernel
theorem dX12_single_225 : decode cX12_single 225 = .ok (.invokevirtual 173, 3) := by decide +kernel
theorem dX12_single_228 : decode cX12_single 228 = .ok (.ireturn, 1) := by decide +kernel
theorem dX12_line_0 : decode cX12_line 0 = .ok (.aload_n 0, 1) := by decide +kernel
theorem dX12_line_1 : decode cX12_line 1 = .ok (.iconst 2, 1) := by decide +kernel
theorem dX12_line_2 : decode cX12_line 2 = .ok (.iconst 0, 1) := by decide +kernel
theorem dX12_line_3 : decode cX12_line 3 = .ok (.invokevirtual 125, 3) := by decide +kernel
theorem dX12_line_6 : decode cX12_line 6 = .ok (.ifCond .eq 10, 3) := by decide +kernel
theorem dX12_line_9 : decode cX12_line 9 = .ok (.aload_n 0, 1) := by decide +kernel
theorem dX12_line_10 : decode cX12_line 10 = .ok (.invokevirtual 218, 3) := by decide +kernel
theorem dX12_line_13 : decode cX12_line 13 = .ok (.goto 93, 3) := by decide +kernel
theorem dX12_line_16 : decode cX12_line 16 = .ok (.aload_n 0, 1) := by decide +kernel
theorem dX12_line_17 : decode cX12_line 17 = .ok (.iconst 2, 1) := by decide +kernel
theorem dX12_line_18 : decode cX12_line 18 = .ok (.iconst 2, 1) := by decide +kernel
theorem dX12_line_19 : decode cX12_line 19 = .ok (.invokevirtual 125, 3) := by decide +kernel
theorem dX12_line_22 : decode cX12_line 22 = .ok (.ifCond .eq 10, 3) := by decide +kernel
theorem dX12_line_25 : decode cX12_line 25 = .ok (.aload_n 0, 1) := by decide +kernel
theorem dX12_line_26 : decode cX12_line 26 = .ok (.invokevirtual 221, 3) := by decide +kernel
theorem dX12_line_29 : decode cX12_line 29 = .ok (.goto 77, 3) := by decide +kernel
theorem dX12_line_32 : decode cX12_line 32 = .ok (.aload_n 0, 1) := by decide +kernel
theorem dX12_line_33 : decode cX12_line 33 = .ok (.iconst 2, 1) := by decide +kernel
theorem dX12_line_34 : decode cX12_line 34 = .ok (.bipush 7, 2) := by decide +kernel
theorem dX12_line_36 : decode cX12_line 36 = .ok (.invokevirtual 125, 3) := by decide +kernel
theorem dX12_line_39 : decode cX12_line 39 = .ok (.ifCond .eq 10, 3) := by decide +kernel
theorem dX12_line_42 : decode cX12_line 42 = .ok (.aload_n 0, 1) := by decide +kernel
theorem dX12_line_43 : decode cX12_line 43 = .ok (.invokevirtual 224, 3) := by decide +kernel
theorem dX12_line_46 : decode cX12_line 46 = .ok (.goto 60, 3) := by decide +kernel
theorem dX12_line_49 : decode cX12_line 49 = .ok (.aload_n 0, 1) := by decide +kernel
theorem dX12_line_50 : decode cX12_line 50 = .ok (.iconst 2, 1) := by decide +kernel
theorem dX12_line_51 : decode cX12_line 51 = .ok (.bipush 9, 2) := by decide +kernel
theorem dX12_line_53 : decode cX12_line 53 = .ok (.invokevirtual 125, 3) := by decide +kernel
theorem dX12_line_56 : decode cX12_line 56 = .ok (.ifCond .eq 10, 3) := by decide +kernel
theorem dX12_line_59 : decode cX12_line 59 = .ok (.aload_n 0, 1) := by decide +kernel
theorem dX12_line_60 : decode cX12_line 60 = .ok (.invokevirtual 227, 3) := by decide +kernel
theorem dX12_line_63 : decode cX12_line 63 = .ok (.goto 43, 3) := by decide +kernel
theorem dX12_line_66 : decode cX12_line 66 = .ok (.aload_n 0, 1) := by decide +kernel
theorem dX12_line_67 : decode cX12_line 67 = .ok (.iconst 2, 1) := by decide +kernel
theorem dX12_line_68 : decode cX12_line 68 = .ok (.bipush 11, 2) := by decide +kernel
theorem dX12_line_70 : decode cX12_line 70 = .ok (.invokevirtual 125, 3) := by decide +kernel
theorem dX12_line_73 : decode cX12_line 73 = .ok (.ifCond .ne 13, 3) := by decide +kernel
theorem dX12_line_76 : decode cX12_line 76 = .ok (.aload_n 0, 1) := by decide +kernel
theorem dX12_line_77 : decode cX12_line 77 = .ok (.iconst 2, 1) := by decide +kernel
theorem dX12_line_78 : decode cX12_line 78 = .ok (.bipush 14, 2) := by decide +kernel
theorem dX12_line_80 : decode cX12_line 80 = .ok (.invokevirtual 125, 3) := by decide +kernel
theorem dX12_line_83 : decode cX12_line 83 = .ok (.ifCond .eq 19, 3) := by decide +kernel
theorem dX12_line_86 : decode cX12_line 86 = .ok (.aload_n 0, 1) := by decide +kernel
theorem dX12_line_87 : decode cX12_line 87 = .ok (.aload_n 0, 1) := by decide +kernel
theorem dX12_line_88 : decode cX12_line 88 = .ok (.getfield 42, 3) := by decide +kernel
theorem dX12_line_91 : decode cX12_line 91 = .ok (.aload_n 0, 1) := by decide +kernel
theorem dX12_line_92 : decode cX12_line 92 = .ok (.getfield 118, 3) := by decide +kernel
theorem dX12_line_95 : decode cX12_line 95 = .ok (.iaload, 1) := by decide +kernel
theorem dX12_line_96 : decode cX12_line 96 = .ok (.invokevirtual 230, 3) := by decide +kernel
theorem dX12_line_99 : decode cX12_line 99 = .ok (.goto 7, 3) := by decide +kernel
theorem dX12_line_102 : decode cX12_line 102 = .ok (.aload_n 0, 1) := by decide +kernel
theorem dX12_line_103 : decode cX12_line 103 = .ok (.invokevirtual 129, 3) := by decide +kernel
theorem dX12_line_106 : decode cX12_line 106 = .ok (.aload_n 0, 1) := by decide +kernel
theorem dX12_line_107 : decode cX12_line 107 = .ok (.iconst 4, 1) := by decide +kernel
theorem dX12_line_108 : decode cX12_line 108 = .ok (.bipush 59, 2) := by decide +kernel
theorem dX12_line_110 : decode cX12_line 110 = .ok (.invokevirtual 206, 3) := by decide +kernel
theorem dX12_line_113 : decode cX12_line 113 = .ok (.return_, 1) := by decide +kernel
theorem dX12_readColour_0 : decode cX12_readColour 0 = .ok (.aload_n 0, 1) := by decide +kernel
theorem dX12_readColour_1 : decode cX12_readColour 1 = .ok (.dup, 1) := by decide +kernel
theorem dX12_readColour_2 : decode cX12_readColour 2 = .ok (.getfield 118, 3) := by decide +kernel
theorem dX12_readColour_5 : decode cX12_readColour 5 = .ok (.iconst 1, 1) := by decide +kernel
theorem dX12_readColour_6 : decode cX12_readColour 6 = .ok (.iadd, 1) := by decide +kernel
theorem dX12_readColour_7 : decode cX12_readColour 7 = .ok (.putfield 118, 3) := by decide +kernel
theorem dX12_readColour_10 : decode cX12_readColour 10 = .ok (.aload_n 0, 1) := by decide +kernel
theorem dX12_readColour_11 : decode cX12_readColour 11 = .ok (.aload_n 0, 1) := by decide +kernel
theorem dX12_readColour_12 : decode cX12_readColour 12 = .ok (.getfield 94, 3) := by decide +kernel
theorem dX12_readColour_15 : decode cX12_readColour 15 = .ok (.aload_n 0, 1) := by decide +kernel
theorem dX12_readColour_16 : decode cX12_readColour 16 = .ok (.getfield 91, 3) := by decide +kernel
theorem dX12_readColour_19 : decode cX12_readColour 19 = .ok (.getfield 154, 3) := by decide +kernel
theorem dX12_readColour_22 : decode cX12_readColour 22 = .ok (.bipush 6, 2) := by decide +kernel
theorem dX12_readColour_24 : decode cX12_readColour 24 = .ok (.invokevirtual 233, 3) := by decide +kernel
theorem dX12_readColour_27 : decode cX12_readColour 27 = .ok (.istore_n 1, 1) := by decide +kernel
theorem dX12_readColour_28 : decode cX12_readColour 28 = .ok (.aload_n 0, 1) := by decide +kernel
theorem dX12_readColour_29 : decode cX12_readColour 29 = .ok (.iconst 2, 1) := by decide +kernel
theorem dX12_readColour_30 : decode cX12_readColour 30 = .ok (.iconst 1, 1) := by decide +kernel
theorem dX12_readColour_31 : decode cX12_readColour 31 = .ok (.invokevirtual 206, 3) := by decide +kernel
theorem dX12_readColour_34 : decode cX12_readColour 34 = .ok (.aload_n 0, 1) := by decide +kernel
theorem dX12_readColour_35 : decode cX12_readColour 35 = .ok (.iconst 0, 1) := by decide +kernel
theorem dX12_readColour_36 : decode cX12_readColour 36 = .ok (.bipush 99, 2) := by decide +kernel
theorem dX12_readColour_38 : decode cX12_readColour 38 = .ok (.invokevirtual 181, 3) := by decide +kernel
theorem dX12_readColour_41 : decode cX12_readColour 41 = .ok (.istore_n 2, 1) := by decide +kernel
theorem dX12_readColour_42 : decode cX12_readColour 42 = .ok (.aload_n 0, 1) := by decide +kernel
theorem dX12_readColour_43 : decode cX12_readColour 43 = .ok (.getfield 91, 3) := by decide +kernel
theorem dX12_readColour_46 : decode cX12_readColour 46 = .ok (.getfield 154, 3) := by decide +kernel
theorem dX12_readColour_49 : decode cX12_readColour 49 = .ok (.bipush 6, 2) := by decide +kernel
theorem dX12_readColour_51 : decode cX12_readColour 51 = .ok (.if_icmp .ne 4, 3) := by decide +kernel
theorem dX12_readColour_54 : decode cX12_readColour 54 = .ok (.return_, 1) := by decide +kernel
theorem dX12_readColour_55 : decode cX12_readColour 55 = .ok (.aload_n 0, 1) := by decide +kernel
theorem dX12_readColour_56 : decode cX12_readColour 56 = .ok (.getfield 94, 3) := by decide +kernel
theorem dX12_readColour_59 : decode cX12_readColour 59 = .ok (.aload_n 0, 1) := by decide +kernel
theorem dX12_readColour_60 : decode cX12_readColour 60 = .ok (.getfield 91, 3) := by decide +kernel
theorem dX12_readColour_63 : decode cX12_readColour 63 = .ok (.getfield 154, 3) := by decide +kernel
theorem dX12_readColour_66 : decode cX12_readColour 66 = .ok (.iload_n 1, 1) := by decide +kernel
theorem dX12_readColour_67 : decode cX12_readColour 67 = .ok (.iastore, 1) := by decide +kernel
theorem dX12_readColour_68 : decode cX12_readColour 68 = .ok (.aload_n 0, 1) := by decide +kernel
theorem dX12_readColour_69 : decode cX12_readColour 69 = .ok (.getfield 91, 3) := by decide +kernel
theorem dX12_readColour_72 : decode cX12_readColour 72 = .ok (.getfield 236, 3) := by decide +kernel
theorem dX12_readColour_75 : decode cX12_readColour 75 = .ok (.aload_n 0, 1) := by decide +kernel
theorem dX12_readColour_76 : decode cX12_readColour 76 = .ok (.getfield 91, 3) := by decide +kernel
theorem dX12_readColour_79 : decode cX12_readColour 79 = .ok (.getfield 154, 3) := by decide +kernel
theorem dX12_readColour_82 : decode cX12_readColour 82 = .ok (.iload_n 2, 1) := by decide +kernel
theorem dX12_readColour_83 : decode cX12_readColour 83 = .ok (.iastore, 1) := by decide +kernel
theorem dX12_readColour_84 : decode cX12_readColour 84 = .ok (.aload_n 0, 1) := by decide +kernel
theorem dX12_readColour_85 : decode cX12_readColour 85 = .ok (.getfield 91, 3) := by decide +kernel
theorem dX12_readColour_88 : decode cX12_readColour 88 = .ok (.dup, 1) := by decide +kernel
theorem dX12_readColour_89 : decode cX12_readColour 89 = .ok (.getfield 154, 3) := by decide +kernel
theorem dX12_readColour_92 : decode cX12_readColour 92 = .ok (.iconst 1, 1) := by decide +kernel
theorem dX12_readColour_93 : decode cX12_readColour 93 = .ok (.iadd, 1) := by decide +kernel
theorem dX12_readColour_94 : decode cX12_readColour 94 = .ok (.putfield 154, 3) := by decide +kernel
theorem dX12_readColour_97 : decode cX12_readColour 97 = .ok (.return_, 1) := by decide +kernel
theorem dX12_readCord_0 : decode cX12_readCord 0 = .ok (.aload_n 0, 1) := by decide +kernel
theorem dX12_readCord_1 : decode cX12_readCord 1 = .ok (.dup, 1) := by decide +kernel
theorem dX12_readCord_2 : decode cX12_readCord 2 = .ok (.getfield 118, 3) := by decide +kernel
theorem dX12_readCord_5 : decode cX12_readCord 5 = .ok (.iconst 1, 1) := by decide +kernel
theorem dX12_readCord_6 : decode cX12_readCord 6 = .ok (.iadd, 1) := by decide +kernel
theorem dX12_readCord_7 : decode cX12_readCord 7 = .ok (.putfield 118, 3) := by decide +kernel
theorem dX12_readCord_10 : decode cX12_readCord 10 = .ok (.aload_n 0, 1) := by decide +kernel
theorem dX12_readCord_11 : decode cX12_readCord 11 = .ok (.aload_n 0, 1) := by decide +kernel
theorem dX12_readCord_12 : decode cX12_readCord 12 = .ok (.getfield 97, 3) := by decide +kernel
theorem dX12_readCord_15 : decode cX12_readCord 15 = .ok (.aload_n 0, 1) := by decide +kernel
theorem dX12_readCord_16 : decode cX12_readCord 16 = .ok (.getfield 91, 3) := by decide +kernel
theorem dX12_readCord_19 : decode cX12_readCord 19 = .ok (.getfield 161, 3) := by decide +kernel
theorem dX12_readCord_22 : decode cX12_readCord 22 = .ok (.bipush 16, 2) := by decide +kernel
theorem dX12_readCord_24 : decode cX12_readCord 24 = .ok (.invokevirtual 233, 3) := by decide +kernel
theorem dX12_readCord_27 : decode cX12_readCord 27 = .ok (.istore_n 1, 1) := by decide +kernel
theorem dX12_readCord_28 : decode cX12_readCord 28 = .ok (.aload_n 0, 1) := by decide +kernel
theorem dX12_readCord_29 : decode cX12_readCord 29 = .ok (.iconst 2, 1) := by decide +kernel
theorem dX12_readCord_30 : decode cX12_readCord 30 = .ok (.iconst 3, 1) := by decide +kernel
theorem dX12_readCord_31 : decode cX12_readCord 31 = .ok (.invokevirtual 206, 3) := by decide +kernel
theorem dX12_readCord_34 : decode cX12_readCord 34 = .ok (.aload_n 0, 1) := by decide +kernel
theorem dX12_readCord_35 : decode cX12_readCord 35 = .ok (.invokevirtual 239, 3) := by decide +kernel
theorem dX12_readCord_38 : decode cX12_readCord 38 = .ok (.istore_n 2, 1) := by decide +kernel
theorem dX12_readCord_39 : decode cX12_readCord 39 = .ok (.aload_n 0, 1) := by decide +kernel
theorem dX12_readCord_40 : decode cX12_readCord 40 = .ok (.iconst 2, 1) := by decide +kernel
theorem dX12_readCord_41 : decode cX12_readCord 41 = .ok (.iconst 4, 1) := by decide +kernel
theorem dX12_readCord_42 : decode cX12_readCord 42 = .ok (.invokevirtual 206, 3) := by decide +kernel
theorem dX12_readCord_45 : decode cX12_readCord 45 = .ok (.iconst (-1), 1) := by decide +kernel
theorem dX12_readCord_46 : decode cX12_readCord 46 = .ok (.istore_n 3, 1) := by decide +kernel
theorem dX12_readCord_47 : decode cX12_readCord 47 = .ok (.aload_n 0, 1) := by decide +kernel
theorem dX12_readCord_48 : decode cX12_readCord 48 = .ok (.iconst 2, 1) := by decide +kernel
theorem dX12_readCord_49 : decode cX12_readCord 49 = .ok (.iconst 5, 1) := by decide +kernel
theorem dX12_readCord_50 : decode cX12_readCord 50 = .ok (.invokevirtual 125, 3) := by decide +kernel
theorem dX12_readCord_53 : decode cX12_readCord 53 = .ok (.ifCond .eq 16, 3) := by decide +kernel
theorem dX12_readCord_56 : decode cX12_readCord 56 = .ok (.aload_n 0, 1) := by decide +kernel
theorem dX12_readCord_57 : decode cX12_readCord 57 = .ok (.dup, 1) := by decide +kernel
theorem dX12_readCord_58 : decode cX12_readCord 58 = .ok (.getfield 118, 3) := by decide +kernel
theorem dX12_readCord_61 : decode cX12_readCord 61 = .ok (.iconst 1, 1) := by decide +kernel
theorem dX12_readCord_62 : decode cX12_readCord 62 = .ok (.iadd, 1) := by decide +kernel
theorem dX12_readCord_63 : decode cX12_readCord 63 = .ok (.putfield 118, 3) := by decide +kernel
theorem dX12_readCord_66 : decode cX12_readCord 66 = .ok (.goto 8, 3) := by decide +kernel
theorem dX12_readCord_69 : decode cX12_readCord 69 = .ok (.aload_n 0, 1) := by decide +kernel
theorem dX12_readCord_70 : decode cX12_readCord 70 = .ok (.invokevirtual 242, 3) := by decide +kernel
theorem dX12_readCord_73 : decode cX12_readCord 73 = .ok (.istore_n 3, 1) := by decide +kernel
theorem dX12_readCord_74 : decode cX12_readCord 74 = .ok (.iconst 0, 1) := by decide +kernel
theorem dX12_readCord_75 : decode cX12_readCord 75 = .ok (.istore 4, 2) := by decide +kernel
theorem dX12_readCord_77 : decode cX12_readCord 77 = .ok (.aload_n 0, 1) := by decide +kernel
theorem dX12_readCord_78 : decode cX12_readCord 78 = .ok (.iconst 2, 1) := by decide +kernel
theorem dX12_readCord_79 : decode cX12_readCord 79 = .ok (.bipush 6, 2) := by decide +kernel
theorem dX12_readCord_81 : decode cX12_readCord 81 = .ok (.invokevirtual 125, 3) := by decide +kernel
theorem dX12_readCord_84 : decode cX12_readCord 84 = .ok (.ifCond .eq 23, 3) := by decide +kernel
theorem dX12_readCord_87 : decode cX12_readCord 87 = .ok (.aload_n 0, 1) := by decide +kernel
theorem dX12_readCord_88 : decode cX12_readCord 88 = .ok (.dup, 1) := by decide +kernel
theorem dX12_readCord_89 : decode cX12_readCord 89 = .ok (.getfield 118, 3) := by decide +kernel
theorem dX12_readCord_92 : decode cX12_readCord 92 = .ok (.iconst 1, 1) := by decide +kernel
theorem dX12_readCord_93 : decode cX12_readCord 93 = .ok (.iadd, 1) := by decide +kernel
theorem dX12_readCord_94 : decode cX12_readCord 94 = .ok (.putfield 118, 3) := by decide +kernel
theorem dX12_readCord_97 : decode cX12_readCord 97 = .ok (.aload_n 0, 1) := by decide +kernel
theorem dX12_readCord_98 : decode cX12_readCord 98 = .ok (.iconst 0, 1) := by decide +kernel
theorem dX12_readCord_99 : decode cX12_readCord 99 = .ok (.sipush 9999, 3) := by decide +kernel
theorem dX12_readCord_102 : decode cX12_readCord 102 = .ok (.invokevirtual 181, 3) := by decide +kernel
theorem dX12_readCord_105 : decode cX12_readCord 105 = .ok (.istore 4, 2) := by decide +kernel
theorem dX12_readCord_107 : decode cX12_readCord 107 = .ok (.aload_n 0, 1) := by decide +kernel
theorem dX12_readCord_108 : decode cX12_readCord 108 = .ok (.getfield 91, 3) := by decide +kernel
theorem dX12_readCord_111 : decode cX12_readCord 111 = .ok (.getfield 161, 3) := by decide +kernel
theorem dX12_readCord_114 : decode cX12_readCord 114 = .ok (.bipush 16, 2) := by decide +kernel
theorem dX12_readCord_116 : decode cX12_readCord 116 = .ok (.if_icmp .ne 4, 3) := by decide +kernel
theorem dX12_readCord_119 : decode cX12_readCord 119 = .ok (.return_, 1) := by decide +kernel
theorem dX12_readCord_120 : decode cX12_readCord 120 = .ok (.aload_n 0, 1) := by decide +kernel
theorem dX12_readCord_121 : decode cX12_readCord 121 = .ok (.getfield 97, 3) := by decide +kernel
theorem dX12_readCord_124 : decode cX12_readCord 124 = .ok (.aload_n 0, 1) := by decide +kernel
theorem dX12_readCord_125 : decode cX12_readCord 125 = .ok (.getfield 91, 3) := by decide +kernel
theorem dX12_readCord_128 : decode cX12_readCord 128 = .ok (.getfield 161, 3) := by decide +kernel
theorem dX12_readCord_131 : decode cX12_readCord 131 = .ok (.iload_n 1, 1) := by decide +kernel
theorem dX12_readCord_132 : decode cX12_readCord 132 = .ok (.iastore, 1) := by decide +kernel
theorem dX12_readCord_133 : decode cX12_readCord 133 = .ok (.aload_n 0, 1) := by decide +kernel
theorem dX12_readCord_134 : decode cX12_readCord 134 = .ok (.getfield 91, 3) := by decide +kernel
theorem dX12_readCord_137 : decode cX12_readCord 137 = .ok (.getfield 245, 3) := by decide +kernel
theorem dX12_readCord_140 : decode cX12_readCord 140 = .ok (.aload_n 0, 1) := by decide +kernel
theorem dX12_readCord_141 : decode cX12_readCord 141 = .ok (.getfield 91, 3) := by decide +kernel
theorem dX12_readCord_144 : decode cX12_readCord 144 = .ok (.getfield 161, 3) := by decide +kernel
theorem dX12_readCord_147 : decode cX12_readCord 147 = .ok (.iload_n 2, 1) := by decide +kernel
theorem dX12_readCord_148 : decode cX12_readCord 148 = .ok (.iastore, 1) := by decide +kernel
theorem dX12_readCord_149 : decode cX12_readCord 149 = .ok (.aload_n 0, 1) := by decide +kernel
theorem dX12_readCord_150 : decode cX12_readCord 150 = .ok (.getfield 91, 3) := by decide +kernel
theorem dX12_readCord_153 : decode cX12_readCord 153 = .ok (.getfield 248, 3) := by decide +kernel
theorem dX12_readCord_156 : decode cX12_readCord 156 = .ok (.aload_n 0, 1) := by decide +kernel
theorem dX12_readCord_157 : decode cX12_readCord 157 = .ok (.getfield 91, 3) := by decide +kernel
theorem dX12_readCord_160 : decode cX12_readCord 160 = .ok (.getfield 161, 3) := by decide +kernel
theorem dX12_readCord_163 : decode cX12_readCord 163 = .ok (.iload_n 3, 1) := by decide +kernel
theorem dX12_readCord_164 : decode cX12_readCord 164 = .ok (.iastore, 1) := by decide +kernel
theorem dX12_readCord_165 : decode cX12_readCord 165 = .ok (.aload_n 0, 1) := by decide +kernel
theorem dX12_readCord_166 : decode cX12_readCord 166 = .ok (.getfield 91, 3) := by decide +kernel
theorem dX12_readCord_169 : decode cX12_readCord 169 = .ok (.getfield 251, 3) := by decide +kernel
theorem dX12_readCord_172 : decode cX12_readCord 172 = .ok (.aload_n 0, 1) := by decide +kernel
theorem dX12_readCord_173 : decode cX12_readCord 173 = .ok (.getfield 91, 3) := by decide +kernel
theorem dX12_readCord_176 : decode cX12_readCord 176 = .ok (.getfield 161, 3) := by decide +kernel
theorem dX12_readCord_179 : decode cX12_readCord 179 = .ok (.iload 4, 2) := by decide +kernel
theorem dX12_readCord_181 : decode cX12_readCord 181 = .ok (.iastore, 1) := by decide +kernel
theorem dX12_readCord_182 : decode cX12_readCord 182 = .ok (.aload_n 0, 1) := by decide +kernel
theorem dX12_readCord_183 : decode cX12_readCord 183 = .ok (.getfield 91, 3) := by decide +kernel
theorem dX12_readCord_186 : decode cX12_readCord 186 = .ok (.dup, 1) := by decide +kernel
theorem dX12_readCord_187 : decode cX12_readCord 187 = .ok (.getfield 161, 3) := by decide +kernel
theorem dX12_readCord_190 : decode cX12_readCord 190 = .ok (.iconst 1, 1) := by decide +kernel
theorem dX12_readCord_191 : decode cX12_readCord 191 = .ok (.iadd, 1) := by decide +kernel
theorem dX12_readCord_192 : decode cX12_readCord 192 = .ok (.putfield 161, 3) := by decide +kernel
theorem dX12_readCord_195 : decode cX12_readCord 195 = .ok (.return_, 1) := by decide +kernel
theorem dX12_readAbove_0 : decode cX12_readAbove 0 = .ok (.aload_n 0, 1) := by decide +kernel
theorem dX12_readAbove_1 : decode cX12_readAbove 1 = .ok (.getfield 118, 3) := by decide +kernel
theorem dX12_readAbove_4 : decode cX12_readAbove 4 = .ok (.istore_n 1, 1) := by decide +kernel
theorem dX12_readAbove_5 : decode cX12_readAbove 5 = .ok (.aload_n 0, 1) := by decide +kernel
theorem dX12_readAbove_6 : decode cX12_readAbove 6 = .ok (.invokevirtual 185, 3) := by decide +kernel
theorem dX12_readAbove_9 : decode cX12_readAbove 9 = .ok (.istore_n 2, 1) := by decide +kernel
theorem dX12_readAbove_10 : decode cX12_readAbove 10 = .ok (.aload_n 0, 1) := by decide +kernel
theorem dX12_readAbove_11 : decode cX12_readAbove 11 = .ok (.invokevirtual 121, 3) := by decide +kernel
theorem dX12_readAbove_14 : decode cX12_readAbove 14 = .ok (.ifCond .eq 26, 3) := by decide +kernel
theorem dX12_readAbove_17 : decode cX12_readAbove 17 = .ok (.iload_n 2, 1) := by decide +kernel
theorem dX12_readAbove_18 : decode cX12_readAbove 18 = .ok (.iconst (-1), 1) := by decide +kernel
theorem dX12_readAbove_19 : decode cX12_readAbove 19 = .ok (.if_icmp .eq 21, 3) := by decide +kernel
theorem dX12_readAbove_22 : decode cX12_readAbove 22 = .ok (.aload_n 0, 1) := by decide +kernel
theorem dX12_readAbove_23 : decode cX12_readAbove 23 = .ok (.getfield 91, 3) := by decide +kernel
theorem dX12_readAbove_26 : decode cX12_readAbove 26 = .ok (.iload_n 2, 1) := by decide +kernel
theorem dX12_readAbove_27 : decode cX12_readAbove 27 = .ok (.invokevirtual 254, 3) := by decide +kernel
theorem dX12_readAbove_30 : decode cX12_readAbove 30 = .ok (.iconst 4, 1) := by decide +kernel
theorem dX12_readAbove_31 : decode cX12_readAbove 31 = .ok (.if_icmp .ne 9, 3) := by decide +kernel
theorem dX12_readAbove_34 : decode cX12_readAbove 34 = .ok (.aload_n 0, 1) := by decide +kernel
theorem dX12_readAbove_35 : decode cX12_readAbove 35 = .ok (.iconst 5, 1) := by decide +kernel
theorem dX12_readAbove_36 : decode cX12_readAbove 36 = .ok (.iload_n 1, 1) := by decide +kernel
theorem dX12_readAbove_37 : decode cX12_readAbove 37 = .ok (.invokevirtual 151, 3) := by decide +kernel
theorem dX12_readAbove_40 : decode cX12_readAbove 40 = .ok (.aload_n 0, 1) := by decide +kernel
theorem dX12_readAbove_41 : decode cX12_readAbove 41 = .ok (.invokevirtual 121, 3) := by decide +kernel
theorem dX12_readAbove_44 : decode cX12_readAbove 44 = .ok (.ifCond .eq 7, 3) := by decide +kernel
theorem dX12_readAbove_47 : decode cX12_readAbove 47 = .ok (.iload_n 2, 1) := by decide +kernel
theorem dX12_readAbove_48 : decode cX12_readAbove 48 = .ok (.goto 4, 3) := by decide +kernel
theorem dX12_readAbove_51 : decode cX12_readAbove 51 = .ok (.iconst (-1), 1) := by decide +kernel
theorem dX12_readAbove_52 : decode cX12_readAbove 52 = .ok (.ireturn, 1) := by decide +kernel
theorem dX12_readTop_0 : decode cX12_readTop 0 = .ok (.aload_n 0, 1) := by decide +kernel
theorem dX12_readTop_1 : decode cX12_readTop 1 = .ok (.dup, 1) := by decide +kernel
theorem dX12_readTop_2 : decode cX12_readTop 2 = .ok (.getfield 118, 3) := by decide +kernel
theorem dX12_readTop_5 : decode cX12_readTop 5 = .ok (.iconst 1, 1) := by decide +kernel
theorem dX12_readTop_6 : decode cX12_readTop 6 = .ok (.iadd, 1) := by decide +kernel
theorem dX12_readTop_7 : decode cX12_readTop 7 = .ok (.putfield 118, 3) := by decide +kernel
theorem dX12_readTop_10 : decode cX12_readTop 10 = .ok (.aload_n 0, 1) := by decide +kernel
theorem dX12_readTop_11 : decode cX12_readTop 11 = .ok (.aload_n 0, 1) := by decide +kernel
theorem dX12_readTop_12 : decode cX12_readTop 12 = .ok (.getfield 100, 3) := by decide +kernel
theorem dX12_readTop_15 : decode cX12_readTop 15 = .ok (.aload_n 0, 1) := by decide +kernel
theorem dX12_readTop_16 : decode cX12_readTop 16 = .ok (.getfield 91, 3) := by decide +kernel
theorem dX12_readTop_19 : decode cX12_readTop 19 = .ok (.getfield 164, 3) := by decide +kernel
theorem dX12_readTop_22 : decode cX12_readTop 22 = .ok (.bipush 6, 2) := by decide +kernel
theorem dX12_readTop_24 : decode cX12_readTop 24 = .ok (.invokevirtual 233, 3) := by decide +kernel
theorem dX12_readTop_27 : decode cX12_readTop 27 = .ok (.istore_n 1, 1) := by decide +kernel
theorem dX12_readTop_28 : decode cX12_readTop 28 = .ok (.aload_n 0, 1) := by decide +kernel
theorem dX12_readTop_29 : decode cX12_readTop 29 = .ok (.iconst 2, 1) := by decide +kernel
theorem dX12_readTop_30 : decode cX12_readTop 30 = .ok (.bipush 8, 2) := by decide +kernel
theorem dX12_readTop_32 : decode cX12_readTop 32 = .ok (.invokevirtual 206, 3) := by decide +kernel
theorem dX12_readTop_35 : decode cX12_readTop 35 = .ok (.aload_n 0, 1) := by decide +kernel
theorem dX12_readTop_36 : decode cX12_readTop 36 = .ok (.getfield 91, 3) := by decide +kernel
theorem dX12_readTop_39 : decode cX12_readTop 39 = .ok (.getfield 164, 3) := by decide +kernel
theorem dX12_readTop_42 : decode cX12_readTop 42 = .ok (.bipush 6, 2) := by decide +kernel
theorem dX12_readTop_44 : decode cX12_readTop 44 = .ok (.if_icmp .ge 7, 3) := by decide +kernel
theorem dX12_readTop_47 : decode cX12_readTop 47 = .ok (.iconst 1, 1) := by decide +kernel
theorem dX12_readTop_48 : decode cX12_readTop 48 = .ok (.goto 4, 3) := by decide +kernel
theorem dX12_readTop_51 : decode cX12_readTop 51 = .ok (.iconst 0, 1) := by decide +kernel
theorem dX12_readTop_52 : decode cX12_readTop 52 = .ok (.istore_n 2, 1) := by decide +kernel
theorem dX12_readTop_53 : decode cX12_readTop 53 = .ok (.iload_n 2, 1) := by decide +kernel
theorem dX12_readTop_54 : decode cX12_readTop 54 = .ok (.ifCond .eq 16, 3) := by decide +kernel
theorem dX12_readTop_57 : decode cX12_readTop 57 = .ok (.bipush 9, 2) := by decide +kernel
theorem dX12_readTop_59 : decode cX12_readTop 59 = .ok (.aload_n 0, 1) := by decide +kernel
theorem dX12_readTop_60 : decode cX12_readTop 60 = .ok (.getfield 91, 3) := by decide +kernel
theorem dX12_readTop_63 : decode cX12_readTop 63 = .ok (.getfield 164, 3) := by decide +kernel
theorem dX12_readTop_66 : decode cX12_readTop 66 = .ok (.imul, 1) := by decide +kernel
theorem dX12_readTop_67 : decode cX12_readTop 67 = .ok (.goto 4, 3) := by decide +kernel
theorem dX12_readTop_70 : decode cX12_readTop 70 = .ok (.iconst (-1), 1) := by decide +kernel
theorem dX12_readTop_71 : decode cX12_readTop 71 = .ok (.istore_n 3, 1) := by decide +kernel
theorem dX12_readTop_72 : decode cX12_readTop 72 = .ok (.aload_n 0, 1) := by decide +kernel
theorem dX12_readTop_73 : decode cX12_readTop 73 = .ok (.iload_n 3, 1) := by decide +kernel
theorem dX12_readTop_74 : decode cX12_readTop 74 = .ok (.iconst 0, 1) := by decide +kernel
theorem dX12_readTop_75 : decode cX12_readTop 75 = .ok (.invokevirtual 257, 3) := by decide +kernel
theorem dX12_readTop_78 : decode cX12_readTop 78 = .ok (.istore 4, 2) := by decide +kernel
theorem dX12_readTop_80 : decode cX12_readTop 80 = .ok (.aload_n 0, 1) := by decide +kernel
theorem dX12_readTop_81 : decode cX12_readTop 81 = .ok (.iload_n 3, 1) := by decide +kernel
theorem dX12_readTop_82 : decode cX12_readTop 82 = .ok (.iload 4, 2) := by decide +kernel
theorem dX12_readTop_84 : decode cX12_readTop 84 = .ok (.invokevirtual 257, 3) := by decide +kernel
theorem dX12_readTop_87 : decode cX12_readTop 87 = .ok (.istore 4, 2) := by decide +kernel
theorem dX12_readTop_89 : decode cX12_readTop 89 = .ok (.aload_n 0, 1) := by decide +kernel
theorem dX12_readTop_90 : decode cX12_readTop 90 = .ok (.invokevirtual 121, 3) := by decide +kernel
theorem dX12_readTop_93 : decode cX12_readTop 93 = .ok (.ifCond .eq 28, 3) := by decide +kernel
theorem dX12_readTop_96 : decode cX12_readTop 96 = .ok (.aload_n 0, 1) := by decide +kernel
theorem dX12_readTop_97 : decode cX12_readTop 97 = .ok (.getfield 36, 3) := by decide +kernel
theorem dX12_readTop_100 : decode cX12_readTop 100 = .ok (.aload_n 0, 1) := by decide +kernel
theorem dX12_readTop_101 : decode cX12_readTop 101 = .ok (.getfield 118, 3) := by decide +kernel
theorem dX12_readTop_104 : decode cX12_readTop 104 = .ok (.iaload, 1) := by decide +kernel
theorem dX12_readTop_105 : decode cX12_readTop 105 = .ok (.iconst 1, 1) := by decide +kernel
theorem dX12_readTop_106 : decode cX12_readTop 106 = .ok (.if_icmp .ne 15, 3) := by decide +kernel
theorem dX12_readTop_109 : decode cX12_readTop 109 = .ok (.aload_n 0, 1) := by decide +kernel
theorem dX12_readTop_110 : decode cX12_readTop 110 = .ok (.iload_n 3, 1) := by decide +kernel
theorem dX12_readTop_111 : decode cX12_readTop 111 = .ok (.iload 4, 2) := by decide +kernel
theorem dX12_readTop_113 : decode cX12_readTop 113 = .ok (.invokevirtual 257, 3) := by decide +kernel
theorem dX12_readTop_116 : decode cX12_readTop 116 = .ok (.istore 4, 2) := by decide +kernel
theorem dX12_readTop_118 : decode cX12_readTop 118 = .ok (.goto (-29), 3) := by decide +kernel
theorem dX12_readTop_121 : decode cX12_readTop 121 = .ok (.iload_n 2, 1) := by decide +kernel
theorem dX12_readTop_122 : decode cX12_readTop 122 = .ok (.ifCond .ne 4, 3) := by decide +kernel
theorem dX12_readTop_125 : decode cX12_readTop 125 = .ok (.return_, 1) := by decide +kernel
theorem dX12_readTop_126 : decode cX12_readTop 126 = .ok (.aload_n 0, 1) := by decide +kernel
theorem dX12_readTop_127 : decode cX12_readTop 127 = .ok (.getfield 91, 3) := by decide +kernel
theorem dX12_readTop_130 : decode cX12_readTop 130 = .ok (.getfield 260, 3) := by decide +kernel
theorem dX12_readTop_133 : decode cX12_readTop 133 = .ok (.iload_n 3, 1) := by decide +kernel
theorem dX12_readTop_134 : decode cX12_readTop 134 = .ok (.iload 4, 2) := by decide +kernel
theorem dX12_readTop_136 : decode cX12_readTop 136 = .ok (.iastore, 1) := by decide +kernel
theorem dX12_readTop_137 : decode cX12_readTop 137 = .ok (.aload_n 0, 1) := by decide +kernel
theorem dX12_readTop_138 : decode cX12_readTop 138 = .ok (.getfield 100, 3) := by decide +kernel
theorem dX12_readTop_141 : decode cX12_readTop 141 = .ok (.aload_n 0, 1) := by decide +kernel
theorem dX12_readTop_142 : decode cX12_readTop 142 = .ok (.getfield 91, 3) := by decide +kernel
theorem dX12_readTop_145 : decode cX12_readTop 145 = .ok (.getfield 164, 3) := by decide +kernel
theorem dX12_readTop_148 : decode cX12_readTop 148 = .ok (.iload_n 1, 1) := by decide +kernel
theorem dX12_readTop_149 : decode cX12_readTop 149 = .ok (.iastore, 1) := by decide +kernel
theorem dX12_readTop_150 : decode cX12_readTop 150 = .ok (.aload_n 0, 1) := by decide +kernel
theorem dX12_readTop_151 : decode cX12_readTop 151 = .ok (.getfield 91, 3) := by decide +kernel
theorem dX12_readTop_154 : decode cX12_readTop 154 = .ok (.dup, 1) := by decide +kernel
theorem dX12_readTop_155 : decode cX12_readTop 155 = .ok (.getfield 164, 3) := by decide +kernel
theorem dX12_readTop_158 : decode cX12_readTop 158 = .ok (.iconst 1, 1) := by decide +kernel
theorem dX12_readTop_159 : decode cX12_readTop 159 = .ok (.iadd, 1) := by decide +kernel
theorem dX12_readTop_160 : decode cX12_readTop 160 = .ok (.putfield 164, 3) := by decide +kernel
theorem dX12_readTop_163 : decode cX12_readTop 163 = .ok (.return_, 1) := by decide +kernel
theorem dX12_readOver_0 : decode cX12_readOver 0 = .ok (.aload_n 0, 1) := by decide +kernel
theorem dX12_readOver_1 : decode cX12_readOver 1 = .ok (.getfield 118, 3) := by decide +kernel
theorem dX12_readOver_4 : decode cX12_readOver 4 = .ok (.istore_n 3, 1) := by decide +kernel
theorem dX12_readOver_5 : decode cX12_readOver 5 = .ok (.aload_n 0, 1) := by decide +kernel
theorem dX12_readOver_6 : decode cX12_readOver 6 = .ok (.invokevirtual 185, 3) := by decide +kernel
theorem dX12_readOver_9 : decode cX12_readOver 9 = .ok (.istore 4, 2) := by decide +kernel
theorem dX12_readOver_11 : decode cX12_readOver 11 = .ok (.aload_n 0, 1) := by decide +kernel
theorem dX12_readOver_12 : decode cX12_readOver 12 = .ok (.invokevirtual 121, 3) := by decide +kernel
theorem dX12_readOver_15 : decode cX12_readOver 15 = .ok (.ifCond .ne 5, 3) := by decide +kernel
theorem dX12_readOver_18 : decode cX12_readOver 18 = .ok (.iload_n 2, 1) := by decide +kernel
theorem dX12_readOver_19 : decode cX12_readOver 19 = .ok (.ireturn, 1) := by decide +kernel
theorem dX12_readOver_20 : decode cX12_readOver 20 = .ok (.iload_n 1, 1) := by decide +kernel
theorem dX12_readOver_21 : decode cX12_readOver 21 = .ok (.iconst (-1), 1) := by decide +kernel
theorem dX12_readOver_22 : decode cX12_readOver 22 = .ok (.if_icmp .ne 10, 3) := by decide +kernel
theorem dX12_readOver_25 : decode cX12_readOver 25 = .ok (.aload_n 0, 1) := by decide +kernel
theorem dX12_readOver_26 : decode cX12_readOver 26 = .ok (.getfield 106, 3) := by decide +kernel
theorem dX12_readOver_29 : decode cX12_readOver 29 = .ok (.goto 10, 3) := by decide +kernel
theorem dX12_readOver_32 : decode cX12_readOver 32 = .ok (.aload_n 0, 1) := by decide +kernel
theorem dX12_readOver_33 : decode cX12_readOver 33 = .ok (.getfield 91, 3) := by decide +kernel
theorem dX12_readOver_36 : decode cX12_readOver 36 = .ok (.getfield 260, 3) := by decide +kernel
theorem dX12_readOver_39 : decode cX12_readOver 39 = .ok (.astore 5, 2) := by decide +kernel
theorem dX12_readOver_41 : decode cX12_readOver 41 = .ok (.iload_n 1, 1) := by decide +kernel
theorem dX12_readOver_42 : decode cX12_readOver 42 = .ok (.iconst (-1), 1) := by decide +kernel
theorem dX12_readOver_43 : decode cX12_readOver 43 = .ok (.if_icmp .ne 7, 3) := by decide +kernel
theorem dX12_readOver_46 : decode cX12_readOver 46 = .ok (.iconst 0, 1) := by decide +kernel
theorem dX12_readOver_47 : decode cX12_readOver 47 = .ok (.goto 4, 3) := by decide +kernel
theorem dX12_readOver_50 : decode cX12_readOver 50 = .ok (.iload_n 1, 1) := by decide +kernel
theorem dX12_readOver_51 : decode cX12_readOver 51 = .ok (.istore 6, 2) := by decide +kernel
theorem dX12_readOver_53 : decode cX12_readOver 53 = .ok (.iconst 1, 1) := by decide +kernel
theorem dX12_readOver_54 : decode cX12_readOver 54 = .ok (.istore 7, 2) := by decide +kernel
theorem dX12_readOver_56 : decode cX12_readOver 56 = .ok (.iload 7, 2) := by decide +kernel
theorem dX12_readOver_58 : decode cX12_readOver 58 = .ok (.iload_n 2, 1) := by decide +kernel
theorem dX12_readOver_59 : decode cX12_readOver 59 = .ok (.if_icmp .gt 34, 3) := by decide +kernel
theorem dX12_readOver_62 : decode cX12_readOver 62 = .ok (.iload 4, 2) := by decide +kernel
theorem dX12_readOver_64 : decode cX12_readOver 64 = .ok (.iconst (-1), 1) := by decide +kernel
theorem dX12_readOver_65 : decode cX12_readOver 65 = .ok (.if_icmp .eq 22, 3) := by decide +kernel
theorem dX12_readOver_68 : decode cX12_readOver 68 = .ok (.aload 5, 2) := by decide +kernel
theorem dX12_readOver_70 : decode cX12_readOver 70 = .ok (.iload 6, 2) := by decide +kernel
theorem dX12_readOver_72 : decode cX12_readOver 72 = .ok (.iload 7, 2) := by decide +kernel
theorem dX12_readOver_74 : decode cX12_readOver 74 = .ok (.iadd, 1) := by decide +kernel
theorem dX12_readOver_75 : decode cX12_readOver 75 = .ok (.iaload, 1) := by decide +kernel
theorem dX12_readOver_76 : decode cX12_readOver 76 = .ok (.iload 4, 2) := by decide +kernel
theorem dX12_readOver_78 : decode cX12_readOver 78 = .ok (.if_icmp .ne 9, 3) := by decide +kernel
theorem dX12_readOver_81 : decode cX12_readOver 81 = .ok (.aload_n 0, 1) := by decide +kernel
theorem dX12_readOver_82 : decode cX12_readOver 82 = .ok (.iconst 5, 1) := by decide +kernel
theorem dX12_readOver_83 : decode cX12_readOver 83 = .ok (.iload_n 3, 1) := by decide +kernel
theorem dX12_readOver_84 : decode cX12_readOver 84 = .ok (.invokevirtual 151, 3) := by decide +kernel
theorem dX12_readOver_87 : decode cX12_readOver 87 = .ok (.iinc 7 1, 3) := by decide +kernel
theorem dX12_readOver_90 : decode cX12_readOver 90 = .ok (.goto (-34), 3) := by decide +kernel
theorem dX12_readOver_93 : decode cX12_readOver 93 = .ok (.iload_n 2, 1) := by decide +kernel
theorem dX12_readOver_94 : decode cX12_readOver 94 = .ok (.bipush 8, 2) := by decide +kernel
theorem dX12_readOver_96 : decode cX12_readOver 96 = .ok (.if_icmp .ne 11, 3) := by decide +kernel
theorem dX12_readOver_99 : decode cX12_readOver 99 = .ok (.aload_n 0, 1) := by decide +kernel
theorem dX12_readOver_100 : decode cX12_readOver 100 = .ok (.iconst 4, 1) := by decide +kernel
theorem dX12_readOver_101 : decode cX12_readOver 101 = .ok (.iload_n 3, 1) := by decide +kernel
theorem dX12_readOver_102 : decode cX12_readOver 102 = .ok (.invokevirtual 151, 3) := by decide +kernel
theorem dX12_readOver_105 : decode cX12_readOver 105 = .ok (.iload_n 2, 1) := by decide +kernel
theorem dX12_readOver_106 : decode cX12_readOver 106 = .ok (.ireturn, 1) := by decide +kernel
theorem dX12_readOver_107 : decode cX12_readOver 107 = .ok (.aload 5, 2) := by decide +kernel
theorem dX12_readOver_109 : decode cX12_readOver 109 = .ok (.iload 6, 2) := by decide +kernel
theorem dX12_readOver_111 : decode cX12_readOver 111 = .ok (.iload_n 2, 1) := by decide +kernel
theorem dX12_readOver_112 : decode cX12_readOver 112 = .ok (.iadd, 1) := by decide +kernel
theorem dX12_readOver_113 : decode cX12_readOver 113 = .ok (.iconst 1, 1) := by decide +kernel
theorem dX12_readOver_114 : decode cX12_readOver 114 = .ok (.iadd, 1) := by decide +kernel
theorem dX12_readOver_115 : decode cX12_readOver 115 = .ok (.iload 4, 2) := by decide +kernel
theorem dX12_readOver_117 : decode cX12_readOver 117 = .ok (.iastore, 1) := by decide +kernel
theorem dX12_readOver_118 : decode cX12_readOver 118 = .ok (.iload_n 2, 1) := by decide +kernel
theorem dX12_readOver_119 : decode cX12_readOver 119 = .ok (.iconst 1, 1) := by decide +kernel
theorem dX12_readOver_120 : decode cX12_readOver 120 = .ok (.iadd, 1) := by decide +kernel
theorem dX12_readOver_121 : decode cX12_readOver 121 = .ok (.ireturn, 1) := by decide +kernel
theorem dX12_readKeeper_0 : decode cX12_readKeeper 0 = .ok (.aload_n 0, 1) := by decide +kernel
theorem dX12_readKeeper_1 : decode cX12_readKeeper 1 = .ok (.dup, 1) := by decide +kernel
theorem dX12_readKeeper_2 : decode cX12_readKeeper 2 = .ok (.getfield 118, 3) := by decide +kernel
theorem dX12_readKeeper_5 : decode cX12_readKeeper 5 = .ok (.iconst 1, 1) := by decide +kernel
theorem dX12_readKeeper_6 : decode cX12_readKeeper 6 = .ok (.iadd, 1) := by decide +kernel
theorem dX12_readKeeper_7 : decode cX12_readKeeper 7 = .ok (.putfield 118, 3) := by decide +kernel
theorem dX12_readKeeper_10 : decode cX12_readKeeper 10 = .ok (.aload_n 0, 1) := by decide +kernel
theorem dX12_readKeeper_11 : decode cX12_readKeeper 11 = .ok (.aload_n 0, 1) := by decide +kernel
theorem dX12_readKeeper_12 : decode cX12_readKeeper 12 = .ok (.getfield 103, 3) := by decide +kernel
theorem dX12_readKeeper_15 : decode cX12_readKeeper 15 = .ok (.aload_n 0, 1) := by decide +kernel
theorem dX12_readKeeper_16 : decode cX12_readKeeper 16 = .ok (.getfield 91, 3) := by decide +kernel
theorem dX12_readKeeper_19 : decode cX12_readKeeper 19 = .ok (.getfield 167, 3) := by decide +kernel
theorem dX12_readKeeper_22 : decode cX12_readKeeper 22 = .ok (.iconst 5, 1) := by decide +kernel
theorem dX12_readKeeper_23 : decode cX12_readKeeper 23 = .ok (.invokevirtual 233, 3) := by decide +kernel
theorem dX12_readKeeper_26 : decode cX12_readKeeper 26 = .ok (.istore_n 1, 1) := by decide +kernel
theorem dX12_readKeeper_27 : decode cX12_readKeeper 27 = .ok (.aload_n 0, 1) := by decide +kernel
theorem dX12_readKeeper_28 : decode cX12_readKeeper 28 = .ok (.iconst 2, 1) := by decide +kernel
theorem dX12_readKeeper_29 : decode cX12_readKeeper 29 = .ok (.bipush 10, 2) := by decide +kernel
theorem dX12_readKeeper_31 : decode cX12_readKeeper 31 = .ok (.invokevirtual 206, 3) := by decide +kernel
theorem dX12_readKeeper_34 : decode cX12_readKeeper 34 = .ok (.aload_n 0, 1) := by decide +kernel
theorem dX12_readKeeper_35 : decode cX12_readKeeper 35 = .ok (.iconst 1, 1) := by decide +kernel
theorem dX12_readKeeper_36 : decode cX12_readKeeper 36 = .ok (.bipush 9, 2) := by decide +kernel
theorem dX12_readKeeper_38 : decode cX12_readKeeper 38 = .ok (.invokevirtual 181, 3) := by decide +kernel
theorem dX12_readKeeper_41 : decode cX12_readKeeper 41 = .ok (.istore_n 2, 1) := by decide +kernel
theorem dX12_readKeeper_42 : decode cX12_readKeeper 42 = .ok (.aload_n 0, 1) := by decide +kernel
theorem dX12_readKeeper_43 : decode cX12_readKeeper 43 = .ok (.getfield 91, 3) := by decide +kernel
theorem dX12_readKeeper_46 : decode cX12_readKeeper 46 = .ok (.getfield 167, 3) := by decide +kernel
theorem dX12_readKeeper_49 : decode cX12_readKeeper 49 = .ok (.iconst 5, 1) := by decide +kernel
theorem dX12_readKeeper_50 : decode cX12_readKeeper 50 = .ok (.if_icmp .ne 4, 3) := by decide +kernel
theorem dX12_readKeeper_53 : decode cX12_readKeeper 53 = .ok (.return_, 1) := by decide +kernel
theorem dX12_readKeeper_54 : decode cX12_readKeeper 54 = .ok (.aload_n 0, 1) := by decide +kernel
theorem dX12_readKeeper_55 : decode cX12_readKeeper 55 = .ok (.getfield 103, 3) := by decide +kernel
theorem dX12_readKeeper_58 : decode cX12_readKeeper 58 = .ok (.aload_n 0, 1) := by decide +kernel
theorem dX12_readKeeper_59 : decode cX12_readKeeper 59 = .ok (.getfield 91, 3) := by decide +kernel
theorem dX12_readKeeper_62 : decode cX12_readKeeper 62 = .ok (.getfield 167, 3) := by decide +kernel
theorem dX12_readKeeper_65 : decode cX12_readKeeper 65 = .ok (.iload_n 1, 1) := by decide +kernel
theorem dX12_readKeeper_66 : decode cX12_readKeeper 66 = .ok (.iastore, 1) := by decide +kernel
theorem dX12_readKeeper_67 : decode cX12_readKeeper 67 = .ok (.aload_n 0, 1) := by decide +kernel
theorem dX12_readKeeper_68 : decode cX12_readKeeper 68 = .ok (.getfield 91, 3) := by decide +kernel
theorem dX12_readKeeper_71 : decode cX12_readKeeper 71 = .ok (.getfield 263, 3) := by decide +kernel
theorem dX12_readKeeper_74 : decode cX12_readKeeper 74 = .ok (.aload_n 0, 1) := by decide +kernel
theorem dX12_readKeeper_75 : decode cX12_readKeeper 75 = .ok (.getfield 91, 3) := by decide +kernel
theorem dX12_readKeeper_78 : decode cX12_readKeeper 78 = .ok (.getfield 167, 3) := by decide +kernel
theorem dX12_readKeeper_81 : decode cX12_readKeeper 81 = .ok (.iload_n 2, 1) := by decide +kernel
theorem dX12_readKeeper_82 : decode cX12_readKeeper 82 = .ok (.iastore, 1) := by decide +kernel
theorem dX12_readKeeper_83 : decode cX12_readKeeper 83 = .ok (.aload_n 0, 1) := by decide +kernel
theorem dX12_readKeeper_84 : decode cX12_readKeeper 84 = .ok (.getfield 91, 3) := by decide +kernel
theorem dX12_readKeeper_87 : decode cX12_readKeeper 87 = .ok (.dup, 1) := by decide +kernel
theorem dX12_readKeeper_88 : decode cX12_readKeeper 88 = .ok (.getfield 167, 3) := by decide +kernel
theorem dX12_readKeeper_91 : decode cX12_readKeeper 91 = .ok (.iconst 1, 1) := by decide +kernel
theorem dX12_readKeeper_92 : decode cX12_readKeeper 92 = .ok (.iadd, 1) := by decide +kernel
theorem dX12_readKeeper_93 : decode cX12_readKeeper 93 = .ok (.putfield 167, 3) := by decide +kernel
theorem dX12_readKeeper_96 : decode cX12_readKeeper 96 = .ok (.return_, 1) := by decide +kernel
theorem dX12_readOrder_0 : decode cX12_readOrder 0 = .ok (.aload_n 0, 1) := by decide +kernel
theorem dX12_readOrder_1 : decode cX12_readOrder 1 = .ok (.getfield 91, 3) := by decide +kernel
theorem dX12_readOrder_4 : decode cX12_readOrder 4 = .ok (.getfield 266, 3) := by decide +kernel
theorem dX12_readOrder_7 : decode cX12_readOrder 7 = .ok (.bipush 20, 2) := by decide +kernel
theorem dX12_readOrder_9 : decode cX12_readOrder 9 = .ok (.if_icmp .ne 12, 3) := by decide +kernel
theorem dX12_readOrder_12 : decode cX12_readOrder 12 = .ok (.aload_n 0, 1) := by decide +kernel
theorem dX12_readOrder_13 : decode cX12_readOrder 13 = .ok (.iconst 4, 1) := by decide +kernel
theorem dX12_readOrder_14 : decode cX12_readOrder 14 = .ok (.aload_n 0, 1) := by decide +kernel
theorem dX12_readOrder_15 : decode cX12_readOrder 15 = .ok (.getfield 118, 3) := by decide +kernel
theorem dX12_readOrder_18 : decode cX12_readOrder 18 = .ok (.invokevirtual 151, 3) := by decide +kernel
theorem dX12_readOrder_21 : decode cX12_readOrder 21 = .ok (.aload_n 0, 1) := by decide +kernel
theorem dX12_readOrder_22 : decode cX12_readOrder 22 = .ok (.dup, 1) := by decide +kernel
theorem dX12_readOrder_23 : decode cX12_readOrder 23 = .ok (.getfield 118, 3) := by decide +kernel
theorem dX12_readOrder_26 : decode cX12_readOrder 26 = .ok (.iconst 1, 1) := by decide +kernel
theorem dX12_readOrder_27 : decode cX12_readOrder 27 = .ok (.iadd, 1) := by decide +kernel
theorem dX12_readOrder_28 : decode cX12_readOrder 28 = .ok (.putfield 118, 3) := by decide +kernel
theorem dX12_readOrder_31 : decode cX12_readOrder 31 = .ok (.iload_n 1, 1) := by decide +kernel
theorem dX12_readOrder_32 : decode cX12_readOrder 32 = .ok (.bipush 11, 2) := by decide +kernel
theorem dX12_readOrder_34 : decode cX12_readOrder 34 = .ok (.if_icmp .ne 10, 3) := by decide +kernel
theorem dX12_readOrder_37 : decode cX12_readOrder 37 = .ok (.aload_n 0, 1) := by decide +kernel
theorem dX12_readOrder_38 : decode cX12_readOrder 38 = .ok (.invokevirtual 185, 3) := by decide +kernel
theorem dX12_readOrder_41 : decode cX12_readOrder 41 = .ok (.goto 7, 3) := by decide +kernel
theorem dX12_readOrder_44 : decode cX12_readOrder 44 = .ok (.aload_n 0, 1) := by decide +kernel
theorem dX12_readOrder_45 : decode cX12_readOrder 45 = .ok (.invokevirtual 188, 3) := by decide +kernel
theorem dX12_readOrder_48 : decode cX12_readOrder 48 = .ok (.istore_n 2, 1) := by decide +kernel
theorem dX12_readOrder_49 : decode cX12_readOrder 49 = .ok (.aload_n 0, 1) := by decide +kernel
theorem dX12_readOrder_50 : decode cX12_readOrder 50 = .ok (.iconst 2, 1) := by decide +kernel
theorem dX12_readOrder_51 : decode cX12_readOrder 51 = .ok (.bipush 12, 2) := by decide +kernel
theorem dX12_readOrder_53 : decode cX12_readOrder 53 = .ok (.invokevirtual 206, 3) := by decide +kernel
theorem dX12_readOrder_56 : decode cX12_readOrder 56 = .ok (.aload_n 0, 1) := by decide +kernel
theorem dX12_readOrder_57 : decode cX12_readOrder 57 = .ok (.invokevirtual 191, 3) := by decide +kernel
theorem dX12_readOrder_60 : decode cX12_readOrder 60 = .ok (.istore_n 3, 1) := by decide +kernel
theorem dX12_readOrder_61 : decode cX12_readOrder 61 = .ok (.iconst (-1), 1) := by decide +kernel
theorem dX12_readOrder_62 : decode cX12_readOrder 62 = .ok (.istore 4, 2) := by decide +kernel
theorem dX12_readOrder_64 : decode cX12_readOrder 64 = .ok (.iload_n 1, 1) := by decide +kernel
theorem dX12_readOrder_65 : decode cX12_readOrder 65 = .ok (.bipush 11, 2) := by decide +kernel
theorem dX12_readOrder_67 : decode cX12_readOrder 67 = .ok (.if_icmp .ne 16, 3) := by decide +kernel
theorem dX12_readOrder_70 : decode cX12_readOrder 70 = .ok (.aload_n 0, 1) := by decide +kernel
theorem dX12_readOrder_71 : decode cX12_readOrder 71 = .ok (.iconst 2, 1) := by decide +kernel
theorem dX12_readOrder_72 : decode cX12_readOrder 72 = .ok (.bipush 13, 2) := by decide +kernel
theorem dX12_readOrder_74 : decode cX12_readOrder 74 = .ok (.invokevirtual 206, 3) := by decide +kernel
theorem dX12_readOrder_77 : decode cX12_readOrder 77 = .ok (.aload_n 0, 1) := by decide +kernel
theorem dX12_readOrder_78 : decode cX12_readOrder 78 = .ok (.invokevirtual 203, 3) := by decide +kernel
theorem dX12_readOrder_81 : decode cX12_readOrder 81 = .ok (.istore 4, 2) := by decide +kernel
theorem dX12_readOrder_83 : decode cX12_readOrder 83 = .ok (.iconst (-1), 1) := by decide +kernel
theorem dX12_readOrder_84 : decode cX12_readOrder 84 = .ok (.istore 5, 2) := by decide +kernel
theorem dX12_readOrder_86 : decode cX12_readOrder 86 = .ok (.aload_n 0, 1) := by decide +kernel
theorem dX12_readOrder_87 : decode cX12_readOrder 87 = .ok (.iconst 2, 1) := by decide +kernel
theorem dX12_readOrder_88 : decode cX12_readOrder 88 = .ok (.bipush 15, 2) := by decide +kernel
theorem dX12_readOrder_90 : decode cX12_readOrder 90 = .ok (.invokevirtual 125, 3) := by decide +kernel
theorem dX12_readOrder_93 : decode cX12_readOrder 93 = .ok (.ifCond .eq 19, 3) := by decide +kernel
theorem dX12_readOrder_96 : decode cX12_readOrder 96 = .ok (.aload_n 0, 1) := by decide +kernel
theorem dX12_readOrder_97 : decode cX12_readOrder 97 = .ok (.dup, 1) := by decide +kernel
theorem dX12_readOrder_98 : decode cX12_readOrder 98 = .ok (.getfield 118, 3) := by decide +kernel
theorem dX12_readOrder_101 : decode cX12_readOrder 101 = .ok (.iconst 1, 1) := by decide +kernel
theorem dX12_readOrder_102 : decode cX12_readOrder 102 = .ok (.iadd, 1) := by decide +kernel
theorem dX12_readOrder_103 : decode cX12_readOrder 103 = .ok (.putfield 118, 3) := by decide +kernel
theorem dX12_readOrder_106 : decode cX12_readOrder 106 = .ok (.aload_n 0, 1) := by decide +kernel
theorem dX12_readOrder_107 : decode cX12_readOrder 107 = .ok (.invokevirtual 215, 3) := by decide +kernel
theorem dX12_readOrder_110 : decode cX12_readOrder 110 = .ok (.istore 5, 2) := by decide +kernel
theorem dX12_readOrder_112 : decode cX12_readOrder 112 = .ok (.aload_n 0, 1) := by decide +kernel
theorem dX12_readOrder_113 : decode cX12_readOrder 113 = .ok (.getfield 91, 3) := by decide +kernel
theorem dX12_readOrder_116 : decode cX12_readOrder 116 = .ok (.getfield 266, 3) := by decide +kernel
theorem dX12_readOrder_119 : decode cX12_readOrder 119 = .ok (.bipush 20, 2) := by decide +kernel
theorem dX12_readOrder_121 : decode cX12_readOrder 121 = .ok (.if_icmp .ne 4, 3) := by decide +kernel
theorem dX12_readOrder_124 : decode cX12_readOrder 124 = .ok (.return_, 1) := by decide +kernel
theorem dX12_readOrder_125 : decode cX12_readOrder 125 = .ok (.iconst 5, 1) := by decide +kernel
theorem dX12_readOrder_126 : decode cX12_readOrder 126 = .ok (.aload_n 0, 1) := by decide +kernel
theorem dX12_readOrder_127 : decode cX12_readOrder 127 = .ok (.getfield 91, 3) := by decide +kernel
theorem dX12_readOrder_130 : decode cX12_readOrder 130 = .ok (.getfield 266, 3) := by decide +kernel
theorem dX12_readOrder_133 : decode cX12_readOrder 133 = .ok (.imul, 1) := by decide +kernel
theorem dX12_readOrder_134 : decode cX12_readOrder 134 = .ok (.istore 6, 2) := by decide +kernel
theorem dX12_readOrder_136 : decode cX12_readOrder 136 = .ok (.aload_n 0, 1) := by decide +kernel
theorem dX12_readOrder_137 : decode cX12_readOrder 137 = .ok (.getfield 91, 3) := by decide +kernel
theorem dX12_readOrder_140 : decode cX12_readOrder 140 = .ok (.getfield 269, 3) := by decide +kernel
theorem dX12_readOrder_143 : decode cX12_readOrder 143 = .ok (.iload 6, 2) := by decide +kernel
theorem dX12_readOrder_145 : decode cX12_readOrder 145 = .ok (.iload_n 1, 1) := by decide +kernel
theorem dX12_readOrder_146 : decode cX12_readOrder 146 = .ok (.iastore, 1) := by decide +kernel
theorem dX12_readOrder_147 : decode cX12_readOrder 147 = .ok (.aload_n 0, 1) := by decide +kernel
theorem dX12_readOrder_148 : decode cX12_readOrder 148 = .ok (.getfield 91, 3) := by decide +kernel
theorem dX12_readOrder_151 : decode cX12_readOrder 151 = .ok (.getfield 269, 3) := by decide +kernel
theorem dX12_readOrder_154 : decode cX12_readOrder 154 = .ok (.iload 6, 2) := by decide +kernel
theorem dX12_readOrder_156 : decode cX12_readOrder 156 = .ok (.iconst 1, 1) := by decide +kernel
theorem dX12_readOrder_157 : decode cX12_readOrder 157 = .ok (.iadd, 1) := by decide +kernel
theorem dX12_readOrder_158 : decode cX12_readOrder 158 = .ok (.iload_n 2, 1) := by decide +kernel
theorem dX12_readOrder_159 : decode cX12_readOrder 159 = .ok (.iastore, 1) := by decide +kernel
theorem dX12_readOrder_160 : decode cX12_readOrder 160 = .ok (.aload_n 0, 1) := by decide +kernel
theorem dX12_readOrder_161 : decode cX12_readOrder 161 = .ok (.getfield 91, 3) := by decide +kernel
theorem dX12_readOrder_164 : decode cX12_readOrder 164 = .ok (.getfield 269, 3) := by decide +kernel
theorem dX12_readOrder_167 : decode cX12_readOrder 167 = .ok (.iload 6, 2) := by decide +kernel
theorem dX12_readOrder_169 : decode cX12_readOrder 169 = .ok (.iconst 2, 1) := by decide +kernel
theorem dX12_readOrder_170 : decode cX12_readOrder 170 = .ok (.iadd, 1) := by decide +kernel
theorem dX12_readOrder_171 : decode cX12_readOrder 171 = .ok (.iload_n 3, 1) := by decide +kernel
theorem dX12_readOrder_172 : decode cX12_readOrder 172 = .ok (.iastore, 1) := by decide +kernel
theorem dX12_readOrder_173 : decode cX12_readOrder 173 = .ok (.aload_n 0, 1) := by decide +kernel
theorem dX12_readOrder_174 : decode cX12_readOrder 174 = .ok (.getfield 91, 3) := by decide +kernel
theorem dX12_readOrder_177 : decode cX12_readOrder 177 = .ok (.getfield 269, 3) := by decide +kernel
theorem dX12_readOrder_180 : decode cX12_readOrder 180 = .ok (.iload 6, 2) := by decide +kernel
theorem dX12_readOrder_182 : decode cX12_readOrder 182 = .ok (.iconst 3, 1) := by decide +kernel
theorem dX12_readOrder_183 : decode cX12_readOrder 183 = .ok (.iadd, 1) := by decide +kernel
theorem dX12_readOrder_184 : decode cX12_readOrder 184 = .ok (.iload 4, 2) := by decide +kernel
theorem dX12_readOrder_186 : decode cX12_readOrder 186 = .ok (.iastore, 1) := by decide +kernel
theorem dX12_readOrder_187 : decode cX12_readOrder 187 = .ok (.aload_n 0, 1) := by decide +kernel
theorem dX12_readOrder_188 : decode cX12_readOrder 188 = .ok (.getfield 91, 3) := by decide +kernel
theorem dX12_readOrder_191 : decode cX12_readOrder 191 = .ok (.getfield 269, 3) := by decide +kernel
theorem dX12_readOrder_194 : decode cX12_readOrder 194 = .ok (.iload 6, 2) := by decide +kernel
theorem dX12_readOrder_196 : decode cX12_readOrder 196 = .ok (.iconst 4, 1) := by decide +kernel
theorem dX12_readOrder_197 : decode cX12_readOrder 197 = .ok (.iadd, 1) := by decide +kernel
theorem dX12_readOrder_198 : decode cX12_readOrder 198 = .ok (.iload 5, 2) := by decide +kernel
theorem dX12_readOrder_200 : decode cX12_readOrder 200 = .ok (.iastore, 1) := by decide +kernel
theorem dX12_readOrder_201 : decode cX12_readOrder 201 = .ok (.aload_n 0, 1) := by decide +kernel
theorem dX12_readOrder_202 : decode cX12_readOrder 202 = .ok (.getfield 91, 3) := by decide +kernel
theorem dX12_readOrder_205 : decode cX12_readOrder 205 = .ok (.dup, 1) := by decide +kernel
theorem dX12_readOrder_206 : decode cX12_readOrder 206 = .ok (.getfield 266, 3) := by decide +kernel
theorem dX12_readOrder_209 : decode cX12_readOrder 209 = .ok (.iconst 1, 1) := by decide +kernel
theorem dX12_readOrder_210 : decode cX12_readOrder 210 = .ok (.iadd, 1) := by decide +kernel
theorem dX12_readOrder_211 : decode cX12_readOrder 211 = .ok (.putfield 266, 3) := by decide +kernel
theorem dX12_readOrder_214 : decode cX12_readOrder 214 = .ok (.return_, 1) := by decide +kernel
theorem dX12_teach_0 : decode cX12_teach 0 = .ok (.aload_n 0, 1) := by decide +kernel
theorem dX12_teach_1 : decode cX12_teach 1 = .ok (.iconst 0, 1) := by decide +kernel
theorem dX12_teach_2 : decode cX12_teach 2 = .ok (.putfield 1, 3) := by decide +kernel
theorem dX12_teach_5 : decode cX12_teach 5 = .ok (.aload_n 0, 1) := by decide +kernel
theorem dX12_teach_6 : decode cX12_teach 6 = .ok (.invokevirtual 272, 3) := by decide +kernel
theorem dX12_teach_9 : decode cX12_teach 9 = .ok (.aload_n 0, 1) := by decide +kernel
theorem dX12_teach_10 : decode cX12_teach 10 = .ok (.getfield 91, 3) := by decide +kernel
theorem dX12_teach_13 : decode cX12_teach 13 = .ok (.invokevirtual 275, 3) := by decide +kernel
theorem dX12_teach_16 : decode cX12_teach 16 = .ok (.aload_n 0, 1) := by decide +kernel
theorem dX12_teach_17 : decode cX12_teach 17 = .ok (.iconst 0, 1) := by decide +kernel
theorem dX12_teach_18 : decode cX12_teach 18 = .ok (.putfield 118, 3) := by decide +kernel
theorem dX12_teach_21 : decode cX12_teach 21 = .ok (.aload_n 0, 1) := by decide +kernel
theorem dX12_teach_22 : decode cX12_teach 22 = .ok (.iconst 0, 1) := by decide +kernel
theorem dX12_teach_23 : decode cX12_teach 23 = .ok (.putfield 138, 3) := by decide +kernel
theorem dX12_teach_26 : decode cX12_teach 26 = .ok (.aload_n 0, 1) := by decide +kernel
theorem dX12_teach_27 : decode cX12_teach 27 = .ok (.iconst (-1), 1) := by decide +kernel
theorem dX12_teach_28 : decode cX12_teach 28 = .ok (.putfield 115, 3) := by decide +kernel
theorem dX12_teach_31 : decode cX12_teach 31 = .ok (.aload_n 0, 1) := by decide +kernel
theorem dX12_teach_32 : decode cX12_teach 32 = .ok (.iconst 0, 1) := by decide +kernel
theorem dX12_teach_33 : decode cX12_teach 33 = .ok (.putfield 132, 3) := by decide +kernel
theorem dX12_teach_36 : decode cX12_teach 36 = .ok (.aload_n 0, 1) := by decide +kernel
theorem dX12_teach_37 : decode cX12_teach 37 = .ok (.invokevirtual 121, 3) := by decide +kernel
theorem dX12_teach_40 : decode cX12_teach 40 = .ok (.ifCond .eq 22, 3) := by decide +kernel
theorem dX12_teach_43 : decode cX12_teach 43 = .ok (.aload_n 0, 1) := by decide +kernel
theorem dX12_teach_44 : decode cX12_teach 44 = .ok (.getfield 36, 3) := by decide +kernel
theorem dX12_teach_47 : decode cX12_teach 47 = .ok (.aload_n 0, 1) := by decide +kernel
theorem dX12_teach_48 : decode cX12_teach 48 = .ok (.getfield 118, 3) := by decide +kernel
theorem dX12_teach_51 : decode cX12_teach 51 = .ok (.iaload, 1) := by decide +kernel
theorem dX12_teach_52 : decode cX12_teach 52 = .ok (.ifCond .eq 10, 3) := by decide +kernel
theorem dX12_teach_55 : decode cX12_teach 55 = .ok (.aload_n 0, 1) := by decide +kernel
theorem dX12_teach_56 : decode cX12_teach 56 = .ok (.invokevirtual 278, 3) := by decide +kernel
theorem dX12_teach_59 : decode cX12_teach 59 = .ok (.goto (-23), 3) := by decide +kernel
theorem dX12_teach_62 : decode cX12_teach 62 = .ok (.aload_n 0, 1) := by decide +kernel
theorem dX12_teach_63 : decode cX12_teach 63 = .ok (.invokevirtual 121, 3) := by decide +kernel
theorem dX12_teach_66 : decode cX12_teach 66 = .ok (.ifCond .eq 10, 3) := by decide +kernel
theorem dX12_teach_69 : decode cX12_teach 69 = .ok (.aload_n 0, 1) := by decide +kernel
theorem dX12_teach_70 : decode cX12_teach 70 = .ok (.getfield 135, 3) := by decide +kernel
theorem dX12_teach_73 : decode cX12_teach 73 = .ok (.goto 7, 3) := by decide +kernel
theorem dX12_teach_76 : decode cX12_teach 76 = .ok (.aload_n 0, 1) := by decide +kernel
theorem dX12_teach_77 : decode cX12_teach 77 = .ok (.getfield 115, 3) := by decide +kernel
theorem dX12_teach_80 : decode cX12_teach 80 = .ok (.istore_n 1, 1) := by decide +kernel
theorem dX12_teach_81 : decode cX12_teach 81 = .ok (.aload_n 0, 1) := by decide +kernel
theorem dX12_teach_82 : decode cX12_teach 82 = .ok (.invokevirtual 121, 3) := by decide +kernel
theorem dX12_teach_85 : decode cX12_teach 85 = .ok (.ifCond .eq 10, 3) := by decide +kernel
theorem dX12_teach_88 : decode cX12_teach 88 = .ok (.aload_n 0, 1) := by decide +kernel
theorem dX12_teach_89 : decode cX12_teach 89 = .ok (.getfield 132, 3) := by decide +kernel
theorem dX12_teach_92 : decode cX12_teach 92 = .ok (.goto 4, 3) := by decide +kernel
theorem dX12_teach_95 : decode cX12_teach 95 = .ok (.iconst 1, 1) := by decide +kernel
theorem dX12_teach_96 : decode cX12_teach 96 = .ok (.istore_n 2, 1) := by decide +kernel
theorem dX12_teach_97 : decode cX12_teach 97 = .ok (.aload_n 0, 1) := by decide +kernel
theorem dX12_teach_98 : decode cX12_teach 98 = .ok (.iload_n 2, 1) := by decide +kernel
theorem dX12_teach_99 : decode cX12_teach 99 = .ok (.ifCond .ne 7, 3) := by decide +kernel
theorem dX12_teach_102 : decode cX12_teach 102 = .ok (.iconst (-1), 1) := by decide +kernel
theorem dX12_teach_103 : decode cX12_teach 103 = .ok (.goto 9, 3) := by decide +kernel
theorem dX12_teach_106 : decode cX12_teach 106 = .ok (.aload_n 0, 1) := by decide +kernel
theorem dX12_teach_107 : decode cX12_teach 107 = .ok (.getfield 29, 3) := by decide +kernel
theorem dX12_teach_110 : decode cX12_teach 110 = .ok (.iload_n 1, 1) := by decide +kernel
theorem dX12_teach_111 : decode cX12_teach 111 = .ok (.iaload, 1) := by decide +kernel
theorem dX12_teach_112 : decode cX12_teach 112 = .ok (.putfield 81, 3) := by decide +kernel
theorem dX12_teach_115 : decode cX12_teach 115 = .ok (.aload_n 0, 1) := by decide +kernel
theorem dX12_teach_116 : decode cX12_teach 116 = .ok (.iconst 0, 1) := by decide +kernel
theorem dX12_teach_117 : decode cX12_teach 117 = .ok (.putfield 7, 3) := by decide +kernel
theorem dX12_teach_120 : decode cX12_teach 120 = .ok (.iload_n 2, 1) := by decide +kernel
theorem dX12_teach_121 : decode cX12_teach 121 = .ok (.ifCond .ne 7, 3) := by decide +kernel
theorem dX12_teach_124 : decode cX12_teach 124 = .ok (.aload_n 0, 1) := by decide +kernel
theorem dX12_teach_125 : decode cX12_teach 125 = .ok (.invokevirtual 281, 3) := by decide +kernel
theorem dX12_teach_128 : decode cX12_teach 128 = .ok (.iload_n 2, 1) := by decide +kernel
theorem dX12_teach_129 : decode cX12_teach 129 = .ok (.ireturn, 1) := by decide +kernel
theorem dX12_change_0 : decode cX12_change 0 = .ok (.aload_n 0, 1) := by decide +kernel
theorem dX12_change_1 : decode cX12_change 1 = .ok (.getfield 87, 3) := by decide +kernel
theorem dX12_change_4 : decode cX12_change 4 = .ok (.astore_n 1, 1) := by decide +kernel
theorem dX12_change_5 : decode cX12_change 5 = .ok (.aload_n 0, 1) := by decide +kernel
theorem dX12_change_6 : decode cX12_change 6 = .ok (.aload_n 0, 1) := by decide +kernel
theorem dX12_change_7 : decode cX12_change 7 = .ok (.getfield 91, 3) := by decide +kernel
theorem dX12_change_10 : decode cX12_change 10 = .ok (.putfield 87, 3) := by decide +kernel
theorem dX12_change_13 : decode cX12_change 13 = .ok (.aload_n 0, 1) := by decide +kernel
theorem dX12_change_14 : decode cX12_change 14 = .ok (.aload_n 1, 1) := by decide +kernel
theorem dX12_change_15 : decode cX12_change 15 = .ok (.putfield 91, 3) := by decide +kernel
theorem dX12_change_18 : decode cX12_change 18 = .ok (.iconst 1, 1) := by decide +kernel
theorem dX12_change_19 : decode cX12_change 19 = .ok (.istore_n 2, 1) := by decide +kernel
theorem dX12_change_20 : decode cX12_change 20 = .ok (.iload_n 2, 1) := by decide +kernel
theorem dX12_change_21 : decode cX12_change 21 = .ok (.bipush 35, 2) := by decide +kernel
theorem dX12_change_23 : decode cX12_change 23 = .ok (.if_icmp .ge 16, 3) := by decide +kernel
theorem dX12_change_26 : decode cX12_change 26 = .ok (.aload_n 0, 1) := by decide +kernel
theorem dX12_change_27 : decode cX12_change 27 = .ok (.getfield 109, 3) := by decide +kernel
theorem dX12_change_30 : decode cX12_change 30 = .ok (.iload_n 2, 1) := by decide +kernel
theorem dX12_change_31 : decode cX12_change 31 = .ok (.iconst 0, 1) := by decide +kernel
theorem dX12_change_32 : decode cX12_change 32 = .ok (.iastore, 1) := by decide +kernel
theorem dX12_change_33 : decode cX12_change 33 = .ok (.iinc 2 1, 3) := by decide +kernel
theorem dX12_change_36 : decode cX12_change 36 = .ok (.goto (-16), 3) := by decide +kernel
theorem dX12_change_39 : decode cX12_change 39 = .ok (.iconst 0, 1) := by decide +kernel
theorem dX12_change_40 : decode cX12_change 40 = .ok (.istore_n 2, 1) := by decide +kernel
theorem dX12_change_41 : decode cX12_change 41 = .ok (.iload_n 2, 1) := by decide +kernel
theorem dX12_change_42 : decode cX12_change 42 = .ok (.aload_n 0, 1) := by decide +kernel
theorem dX12_change_43 : decode cX12_change 43 = .ok (.getfield 87, 3) := by decide +kernel
theorem dX12_change_46 : decode cX12_change 46 = .ok (.getfield 161, 3) := by decide +kernel
theorem dX12_change_49 : decode cX12_change 49 = .ok (.if_icmp .ge 26, 3) := by decide +kernel
theorem dX12_change_52 : decode cX12_change 52 = .ok (.aload_n 0, 1) := by decide +kernel
theorem dX12_change_53 : decode cX12_change 53 = .ok (.getfield 109, 3) := by decide +kernel
theorem dX12_change_56 : decode cX12_change 56 = .ok (.iconst 3, 1) := by decide +kernel
theorem dX12_change_57 : decode cX12_change 57 = .ok (.iload_n 2, 1) := by decide +kernel
theorem dX12_change_58 : decode cX12_change 58 = .ok (.iadd, 1) := by decide +kernel
theorem dX12_change_59 : decode cX12_change 59 = .ok (.aload_n 0, 1) := by decide +kernel
theorem dX12_change_60 : decode cX12_change 60 = .ok (.getfield 87, 3) := by decide +kernel
theorem dX12_change_63 : decode cX12_change 63 = .ok (.getfield 251, 3) := by decide +kernel
