theorem dX7_init_0 : decode cX7_init 0 = .ok (.aload_n 0, 1) := by decide +kernel
theorem dX7_init_1 : decode cX7_init 1 = .ok (.invokespecial 1, 3) := by decide +kernel
theorem dX7_init_4 : decode cX7_init 4 = .ok (.aload_n 0, 1) := by decide +kernel
theorem dX7_init_5 : decode cX7_init 5 = .ok (.iconst 0, 1) := by decide +kernel
theorem dX7_init_6 : decode cX7_init 6 = .ok (.putfield 7, 3) := by decide +kernel
theorem dX7_init_9 : decode cX7_init 9 = .ok (.aload_n 0, 1) := by decide +kernel
theorem dX7_init_10 : decode cX7_init 10 = .ok (.bipush 6, 2) := by decide +kernel
theorem dX7_init_12 : decode cX7_init 12 = .ok (.newarray .long, 2) := by decide +kernel
theorem dX7_init_14 : decode cX7_init 14 = .ok (.putfield 15, 3) := by decide +kernel
theorem dX7_init_17 : decode cX7_init 17 = .ok (.aload_n 0, 1) := by decide +kernel
theorem dX7_init_18 : decode cX7_init 18 = .ok (.bipush 16, 2) := by decide +kernel
theorem dX7_init_20 : decode cX7_init 20 = .ok (.newarray .long, 2) := by decide +kernel
theorem dX7_init_22 : decode cX7_init 22 = .ok (.putfield 19, 3) := by decide +kernel
theorem dX7_init_25 : decode cX7_init 25 = .ok (.aload_n 0, 1) := by decide +kernel
theorem dX7_init_26 : decode cX7_init 26 = .ok (.bipush 6, 2) := by decide +kernel
theorem dX7_init_28 : decode cX7_init 28 = .ok (.newarray .long, 2) := by decide +kernel
theorem dX7_init_30 : decode cX7_init 30 = .ok (.putfield 22, 3) := by decide +kernel
theorem dX7_init_33 : decode cX7_init 33 = .ok (.aload_n 0, 1) := by decide +kernel
theorem dX7_init_34 : decode cX7_init 34 = .ok (.iconst 5, 1) := by decide +kernel
theorem dX7_init_35 : decode cX7_init 35 = .ok (.newarray .long, 2) := by decide +kernel
theorem dX7_init_37 : decode cX7_init 37 = .ok (.putfield 25, 3) := by decide +kernel
theorem dX7_init_40 : decode cX7_init 40 = .ok (.aload_n 0, 1) := by decide +kernel
theorem dX7_init_41 : decode cX7_init 41 = .ok (.bipush 16, 2) := by decide +kernel
theorem dX7_init_43 : decode cX7_init 43 = .ok (.newarray .int, 2) := by decide +kernel
theorem dX7_init_45 : decode cX7_init 45 = .ok (.putfield 28, 3) := by decide +kernel
theorem dX7_init_48 : decode cX7_init 48 = .ok (.aload_n 0, 1) := by decide +kernel
theorem dX7_init_49 : decode cX7_init 49 = .ok (.sipush 401, 3) := by decide +kernel
theorem dX7_init_52 : decode cX7_init 52 = .ok (.newarray .int, 2) := by decide +kernel
theorem dX7_init_54 : decode cX7_init 54 = .ok (.putfield 34, 3) := by decide +kernel
theorem dX7_init_57 : decode cX7_init 57 = .ok (.aload_n 0, 1) := by decide +kernel
theorem dX7_init_58 : decode cX7_init 58 = .ok (.bipush 48, 2) := by decide +kernel
theorem dX7_init_60 : decode cX7_init 60 = .ok (.putfield 39, 3) := by decide +kernel
theorem dX7_init_63 : decode cX7_init 63 = .ok (.aload_n 0, 1) := by decide +kernel
theorem dX7_init_64 : decode cX7_init 64 = .ok (.bipush 48, 2) := by decide +kernel
theorem dX7_init_66 : decode cX7_init 66 = .ok (.putfield 42, 3) := by decide +kernel
theorem dX7_init_69 : decode cX7_init 69 = .ok (.return_, 1) := by decide +kernel
theorem dX7_firstFault_0 : decode cX7_firstFault 0 = .ok (.aload_n 3, 1) := by decide +kernel
theorem dX7_firstFault_1 : decode cX7_firstFault 1 = .ok (.invokevirtual 45, 3) := by decide +kernel
theorem dX7_firstFault_4 : decode cX7_firstFault 4 = .ok (.aload_n 0, 1) := by decide +kernel
theorem dX7_firstFault_5 : decode cX7_firstFault 5 = .ok (.iconst 0, 1) := by decide +kernel
theorem dX7_firstFault_6 : decode cX7_firstFault 6 = .ok (.putfield 7, 3) := by decide +kernel
theorem dX7_firstFault_9 : decode cX7_firstFault 9 = .ok (.iconst 0, 1) := by decide +kernel
theorem dX7_firstFault_10 : decode cX7_firstFault 10 = .ok (.istore 4, 2) := by decide +kernel
theorem dX7_firstFault_12 : decode cX7_firstFault 12 = .ok (.iload 4, 2) := by decide +kernel
theorem dX7_firstFault_14 : decode cX7_firstFault 14 = .ok (.aload_n 1, 1) := by decide +kernel
theorem dX7_firstFault_15 : decode cX7_firstFault 15 = .ok (.invokevirtual 48, 3) := by decide +kernel
theorem dX7_firstFault_18 : decode cX7_firstFault 18 = .ok (.if_icmp .ge 154, 3) := by decide +kernel
theorem dX7_firstFault_21 : decode cX7_firstFault 21 = .ok (.iload 4, 2) := by decide +kernel
theorem dX7_firstFault_23 : decode cX7_firstFault 23 = .ok (.sipush 400, 3) := by decide +kernel
theorem dX7_firstFault_26 : decode cX7_firstFault 26 = .ok (.if_icmp .ge 146, 3) := by decide +kernel
theorem dX7_firstFault_29 : decode cX7_firstFault 29 = .ok (.aload_n 1, 1) := by decide +kernel
theorem dX7_firstFault_30 : decode cX7_firstFault 30 = .ok (.getfield 52, 3) := by decide +kernel
theorem dX7_firstFault_33 : decode cX7_firstFault 33 = .ok (.iload 4, 2) := by decide +kernel
theorem dX7_firstFault_35 : decode cX7_firstFault 35 = .ok (.iaload, 1) := by decide +kernel
theorem dX7_firstFault_36 : decode cX7_firstFault 36 = .ok (.istore 5, 2) := by decide +kernel
theorem dX7_firstFault_38 : decode cX7_firstFault 38 = .ok (.iload 5, 2) := by decide +kernel
theorem dX7_firstFault_40 : decode cX7_firstFault 40 = .ok (.bipush 28, 2) := by decide +kernel
theorem dX7_firstFault_42 : decode cX7_firstFault 42 = .ok (.if_icmp .ne 48, 3) := by decide +kernel
theorem dX7_firstFault_45 : decode cX7_firstFault 45 = .ok (.aload_n 0, 1) := by decide +kernel
theorem dX7_firstFault_46 : decode cX7_firstFault 46 = .ok (.getfield 34, 3) := by decide +kernel
theorem dX7_firstFault_49 : decode cX7_firstFault 49 = .ok (.iload 4, 2) := by decide +kernel
theorem dX7_firstFault_51 : decode cX7_firstFault 51 = .ok (.aload_n 0, 1) := by decide +kernel
theorem dX7_firstFault_52 : decode cX7_firstFault 52 = .ok (.aload_n 3, 1) := by decide +kernel
theorem dX7_firstFault_53 : decode cX7_firstFault 53 = .ok (.aload_n 1, 1) := by decide +kernel
theorem dX7_firstFault_54 : decode cX7_firstFault 54 = .ok (.getfield 55, 3) := by decide +kernel
theorem dX7_firstFault_57 : decode cX7_firstFault 57 = .ok (.iload 4, 2) := by decide +kernel
theorem dX7_firstFault_59 : decode cX7_firstFault 59 = .ok (.laload, 1) := by decide +kernel
theorem dX7_firstFault_60 : decode cX7_firstFault 60 = .ok (.invokevirtual 58, 3) := by decide +kernel
theorem dX7_firstFault_63 : decode cX7_firstFault 63 = .ok (.iastore, 1) := by decide +kernel
theorem dX7_firstFault_64 : decode cX7_firstFault 64 = .ok (.aload_n 0, 1) := by decide +kernel
theorem dX7_firstFault_65 : decode cX7_firstFault 65 = .ok (.aload_n 0, 1) := by decide +kernel
theorem dX7_firstFault_66 : decode cX7_firstFault 66 = .ok (.aload_n 3, 1) := by decide +kernel
theorem dX7_firstFault_67 : decode cX7_firstFault 67 = .ok (.aload_n 0, 1) := by decide +kernel
theorem dX7_firstFault_68 : decode cX7_firstFault 68 = .ok (.getfield 34, 3) := by decide +kernel
theorem dX7_firstFault_71 : decode cX7_firstFault 71 = .ok (.iload 4, 2) := by decide +kernel
theorem dX7_firstFault_73 : decode cX7_firstFault 73 = .ok (.iaload, 1) := by decide +kernel
theorem dX7_firstFault_74 : decode cX7_firstFault 74 = .ok (.aload_n 1, 1) := by decide +kernel
theorem dX7_firstFault_75 : decode cX7_firstFault 75 = .ok (.getfield 55, 3) := by decide +kernel
theorem dX7_firstFault_78 : decode cX7_firstFault 78 = .ok (.iload 4, 2) := by decide +kernel
theorem dX7_firstFault_80 : decode cX7_firstFault 80 = .ok (.laload, 1) := by decide +kernel
theorem dX7_firstFault_81 : decode cX7_firstFault 81 = .ok (.invokevirtual 62, 3) := by decide +kernel
theorem dX7_firstFault_84 : decode cX7_firstFault 84 = .ok (.putfield 7, 3) := by decide +kernel
theorem dX7_firstFault_87 : decode cX7_firstFault 87 = .ok (.goto 69, 3) := by decide +kernel
theorem dX7_firstFault_90 : decode cX7_firstFault 90 = .ok (.iload 5, 2) := by decide +kernel
theorem dX7_firstFault_92 : decode cX7_firstFault 92 = .ok (.bipush 29, 2) := by decide +kernel
theorem dX7_firstFault_94 : decode cX7_firstFault 94 = .ok (.if_icmp .ne 21, 3) := by decide +kernel
theorem dX7_firstFault_97 : decode cX7_firstFault 97 = .ok (.aload_n 0, 1) := by decide +kernel
theorem dX7_firstFault_98 : decode cX7_firstFault 98 = .ok (.aload_n 0, 1) := by decide +kernel
theorem dX7_firstFault_99 : decode cX7_firstFault 99 = .ok (.aload_n 3, 1) := by decide +kernel
theorem dX7_firstFault_100 : decode cX7_firstFault 100 = .ok (.aload_n 1, 1) := by decide +kernel
theorem dX7_firstFault_101 : decode cX7_firstFault 101 = .ok (.iload 4, 2) := by decide +kernel
theorem dX7_firstFault_103 : decode cX7_firstFault 103 = .ok (.invokevirtual 66, 3) := by decide +kernel
theorem dX7_firstFault_106 : decode cX7_firstFault 106 = .ok (.invokevirtual 70, 3) := by decide +kernel
theorem dX7_firstFault_109 : decode cX7_firstFault 109 = .ok (.putfield 7, 3) := by decide +kernel
theorem dX7_firstFault_112 : decode cX7_firstFault 112 = .ok (.goto 44, 3) := by decide +kernel
theorem dX7_firstFault_115 : decode cX7_firstFault 115 = .ok (.iload 5, 2) := by decide +kernel
theorem dX7_firstFault_117 : decode cX7_firstFault 117 = .ok (.bipush 34, 2) := by decide +kernel
theorem dX7_firstFault_119 : decode cX7_firstFault 119 = .ok (.if_icmp .ne 15, 3) := by decide +kernel
theorem dX7_firstFault_122 : decode cX7_firstFault 122 = .ok (.aload_n 0, 1) := by decide +kernel
theorem dX7_firstFault_123 : decode cX7_firstFault 123 = .ok (.aload_n 3, 1) := by decide +kernel
theorem dX7_firstFault_124 : decode cX7_firstFault 124 = .ok (.aload_n 2, 1) := by decide +kernel
theorem dX7_firstFault_125 : decode cX7_firstFault 125 = .ok (.iload 4, 2) := by decide +kernel
theorem dX7_firstFault_127 : decode cX7_firstFault 127 = .ok (.iaload, 1) := by decide +kernel
theorem dX7_firstFault_128 : decode cX7_firstFault 128 = .ok (.invokevirtual 74, 3) := by decide +kernel
theorem dX7_firstFault_131 : decode cX7_firstFault 131 = .ok (.goto 25, 3) := by decide +kernel
theorem dX7_firstFault_134 : decode cX7_firstFault 134 = .ok (.iload 5, 2) := by decide +kernel
theorem dX7_firstFault_136 : decode cX7_firstFault 136 = .ok (.bipush 28, 2) := by decide +kernel
theorem dX7_firstFault_138 : decode cX7_firstFault 138 = .ok (.if_icmp .ge 18, 3) := by decide +kernel
theorem dX7_firstFault_141 : decode cX7_firstFault 141 = .ok (.aload_n 0, 1) := by decide +kernel
theorem dX7_firstFault_142 : decode cX7_firstFault 142 = .ok (.aload_n 0, 1) := by decide +kernel
theorem dX7_firstFault_143 : decode cX7_firstFault 143 = .ok (.aload_n 3, 1) := by decide +kernel
theorem dX7_firstFault_144 : decode cX7_firstFault 144 = .ok (.iload 5, 2) := by decide +kernel
theorem dX7_firstFault_146 : decode cX7_firstFault 146 = .ok (.aload_n 2, 1) := by decide +kernel
theorem dX7_firstFault_147 : decode cX7_firstFault 147 = .ok (.iload 4, 2) := by decide +kernel
theorem dX7_firstFault_149 : decode cX7_firstFault 149 = .ok (.iaload, 1) := by decide +kernel
theorem dX7_firstFault_150 : decode cX7_firstFault 150 = .ok (.invokevirtual 78, 3) := by decide +kernel
theorem dX7_firstFault_153 : decode cX7_firstFault 153 = .ok (.putfield 7, 3) := by decide +kernel
theorem dX7_firstFault_156 : decode cX7_firstFault 156 = .ok (.aload_n 0, 1) := by decide +kernel
theorem dX7_firstFault_157 : decode cX7_firstFault 157 = .ok (.getfield 7, 3) := by decide +kernel
theorem dX7_firstFault_160 : decode cX7_firstFault 160 = .ok (.ifCond .eq 6, 3) := by decide +kernel
theorem dX7_firstFault_163 : decode cX7_firstFault 163 = .ok (.iload 4, 2) := by decide +kernel
theorem dX7_firstFault_165 : decode cX7_firstFault 165 = .ok (.ireturn, 1) := by decide +kernel
theorem dX7_firstFault_166 : decode cX7_firstFault 166 = .ok (.iinc 4 1, 3) := by decide +kernel
theorem dX7_firstFault_169 : decode cX7_firstFault 169 = .ok (.goto (-157), 3) := by decide +kernel
theorem dX7_firstFault_172 : decode cX7_firstFault 172 = .ok (.aload_n 0, 1) := by decide +kernel
theorem dX7_firstFault_173 : decode cX7_firstFault 173 = .ok (.aload_n 3, 1) := by decide +kernel
theorem dX7_firstFault_174 : decode cX7_firstFault 174 = .ok (.getfield 82, 3) := by decide +kernel
theorem dX7_firstFault_177 : decode cX7_firstFault 177 = .ok (.invokevirtual 86, 3) := by decide +kernel
theorem dX7_firstFault_180 : decode cX7_firstFault 180 = .ok (.iconst (-1), 1) := by decide +kernel
theorem dX7_firstFault_181 : decode cX7_firstFault 181 = .ok (.ireturn, 1) := by decide +kernel
theorem dX7_errorOfKeyword_0 : decode cX7_errorOfKeyword 0 = .ok (.aload_n 0, 1) := by decide +kernel
theorem dX7_errorOfKeyword_1 : decode cX7_errorOfKeyword 1 = .ok (.iload_n 2, 1) := by decide +kernel
theorem dX7_errorOfKeyword_2 : decode cX7_errorOfKeyword 2 = .ok (.putfield 42, 3) := by decide +kernel
theorem dX7_errorOfKeyword_5 : decode cX7_errorOfKeyword 5 = .ok (.iload_n 2, 1) := by decide +kernel
theorem dX7_errorOfKeyword_6 : decode cX7_errorOfKeyword 6 = .ok (.ifCond .eq 32, 3) := by decide +kernel
theorem dX7_errorOfKeyword_9 : decode cX7_errorOfKeyword 9 = .ok (.iload_n 2, 1) := by decide +kernel
theorem dX7_errorOfKeyword_10 : decode cX7_errorOfKeyword 10 = .ok (.iconst 2, 1) := by decide +kernel
theorem dX7_errorOfKeyword_11 : decode cX7_errorOfKeyword 11 = .ok (.if_icmp .eq 27, 3) := by decide +kernel
theorem dX7_errorOfKeyword_14 : decode cX7_errorOfKeyword 14 = .ok (.iload_n 2, 1) := by decide +kernel
theorem dX7_errorOfKeyword_15 : decode cX7_errorOfKeyword 15 = .ok (.bipush 7, 2) := by decide +kernel
theorem dX7_errorOfKeyword_17 : decode cX7_errorOfKeyword 17 = .ok (.if_icmp .eq 21, 3) := by decide +kernel
theorem dX7_errorOfKeyword_20 : decode cX7_errorOfKeyword 20 = .ok (.iload_n 2, 1) := by decide +kernel
theorem dX7_errorOfKeyword_21 : decode cX7_errorOfKeyword 21 = .ok (.bipush 9, 2) := by decide +kernel
theorem dX7_errorOfKeyword_23 : decode cX7_errorOfKeyword 23 = .ok (.if_icmp .eq 15, 3) := by decide +kernel
theorem dX7_errorOfKeyword_26 : decode cX7_errorOfKeyword 26 = .ok (.iload_n 2, 1) := by decide +kernel
theorem dX7_errorOfKeyword_27 : decode cX7_errorOfKeyword 27 = .ok (.bipush 11, 2) := by decide +kernel
theorem dX7_errorOfKeyword_29 : decode cX7_errorOfKeyword 29 = .ok (.if_icmp .eq 9, 3) := by decide +kernel
theorem dX7_errorOfKeyword_32 : decode cX7_errorOfKeyword 32 = .ok (.iload_n 2, 1) := by decide +kernel
theorem dX7_errorOfKeyword_33 : decode cX7_errorOfKeyword 33 = .ok (.bipush 14, 2) := by decide +kernel
theorem dX7_errorOfKeyword_35 : decode cX7_errorOfKeyword 35 = .ok (.if_icmp .ne 7, 3) := by decide +kernel
theorem dX7_errorOfKeyword_38 : decode cX7_errorOfKeyword 38 = .ok (.iconst 1, 1) := by decide +kernel
theorem dX7_errorOfKeyword_39 : decode cX7_errorOfKeyword 39 = .ok (.goto 4, 3) := by decide +kernel
theorem dX7_errorOfKeyword_42 : decode cX7_errorOfKeyword 42 = .ok (.iconst 0, 1) := by decide +kernel
theorem dX7_errorOfKeyword_43 : decode cX7_errorOfKeyword 43 = .ok (.istore 4, 2) := by decide +kernel
theorem dX7_errorOfKeyword_45 : decode cX7_errorOfKeyword 45 = .ok (.iload 4, 2) := by decide +kernel
theorem dX7_errorOfKeyword_47 : decode cX7_errorOfKeyword 47 = .ok (.ifCond .eq 8, 3) := by decide +kernel
theorem dX7_errorOfKeyword_50 : decode cX7_errorOfKeyword 50 = .ok (.aload_n 0, 1) := by decide +kernel
theorem dX7_errorOfKeyword_51 : decode cX7_errorOfKeyword 51 = .ok (.iload_n 2, 1) := by decide +kernel
theorem dX7_errorOfKeyword_52 : decode cX7_errorOfKeyword 52 = .ok (.putfield 39, 3) := by decide +kernel
theorem dX7_errorOfKeyword_55 : decode cX7_errorOfKeyword 55 = .ok (.aload_n 1, 1) := by decide +kernel
theorem dX7_errorOfKeyword_56 : decode cX7_errorOfKeyword 56 = .ok (.getfield 90, 3) := by decide +kernel
theorem dX7_errorOfKeyword_59 : decode cX7_errorOfKeyword 59 = .ok (.istore 5, 2) := by decide +kernel
theorem dX7_errorOfKeyword_61 : decode cX7_errorOfKeyword 61 = .ok (.iload_n 2, 1) := by decide +kernel
theorem dX7_errorOfKeyword_62 : decode cX7_errorOfKeyword 62 = .ok (.bipush 11, 2) := by decide +kernel
theorem dX7_errorOfKeyword_64 : decode cX7_errorOfKeyword 64 = .ok (.if_icmp .eq 9, 3) := by decide +kernel
theorem dX7_errorOfKeyword_67 : decode cX7_errorOfKeyword 67 = .ok (.iload_n 2, 1) := by decide +kernel
theorem dX7_errorOfKeyword_68 : decode cX7_errorOfKeyword 68 = .ok (.bipush 14, 2) := by decide +kernel
theorem dX7_errorOfKeyword_70 : decode cX7_errorOfKeyword 70 = .ok (.if_icmp .ne 38, 3) := by decide +kernel
theorem dX7_errorOfKeyword_73 : decode cX7_errorOfKeyword 73 = .ok (.iload 5, 2) := by decide +kernel
theorem dX7_errorOfKeyword_75 : decode cX7_errorOfKeyword 75 = .ok (.bipush 20, 2) := by decide +kernel
theorem dX7_errorOfKeyword_77 : decode cX7_errorOfKeyword 77 = .ok (.if_icmp .lt 5, 3) := by decide +kernel
theorem dX7_errorOfKeyword_80 : decode cX7_errorOfKeyword 80 = .ok (.iconst 4, 1) := by decide +kernel
theorem dX7_errorOfKeyword_81 : decode cX7_errorOfKeyword 81 = .ok (.ireturn, 1) := by decide +kernel
theorem dX7_errorOfKeyword_82 : decode cX7_errorOfKeyword 82 = .ok (.aload_n 1, 1) := by decide +kernel
theorem dX7_errorOfKeyword_83 : decode cX7_errorOfKeyword 83 = .ok (.getfield 93, 3) := by decide +kernel
theorem dX7_errorOfKeyword_86 : decode cX7_errorOfKeyword 86 = .ok (.iload 5, 2) := by decide +kernel
theorem dX7_errorOfKeyword_88 : decode cX7_errorOfKeyword 88 = .ok (.iload_n 2, 1) := by decide +kernel
theorem dX7_errorOfKeyword_89 : decode cX7_errorOfKeyword 89 = .ok (.bipush 11, 2) := by decide +kernel
theorem dX7_errorOfKeyword_91 : decode cX7_errorOfKeyword 91 = .ok (.if_icmp .ne 7, 3) := by decide +kernel
theorem dX7_errorOfKeyword_94 : decode cX7_errorOfKeyword 94 = .ok (.iconst 1, 1) := by decide +kernel
theorem dX7_errorOfKeyword_95 : decode cX7_errorOfKeyword 95 = .ok (.goto 4, 3) := by decide +kernel
theorem dX7_errorOfKeyword_98 : decode cX7_errorOfKeyword 98 = .ok (.iconst 0, 1) := by decide +kernel
theorem dX7_errorOfKeyword_99 : decode cX7_errorOfKeyword 99 = .ok (.bastore, 1) := by decide +kernel
theorem dX7_errorOfKeyword_100 : decode cX7_errorOfKeyword 100 = .ok (.aload_n 1, 1) := by decide +kernel
theorem dX7_errorOfKeyword_101 : decode cX7_errorOfKeyword 101 = .ok (.getfield 97, 3) := by decide +kernel
theorem dX7_errorOfKeyword_104 : decode cX7_errorOfKeyword 104 = .ok (.iload 5, 2) := by decide +kernel
theorem dX7_errorOfKeyword_106 : decode cX7_errorOfKeyword 106 = .ok (.iconst (-1), 1) := by decide +kernel
theorem dX7_errorOfKeyword_107 : decode cX7_errorOfKeyword 107 = .ok (.iastore, 1) := by decide +kernel
theorem dX7_errorOfKeyword_108 : decode cX7_errorOfKeyword 108 = .ok (.iload_n 2, 1) := by decide +kernel
theorem dX7_errorOfKeyword_109 : decode cX7_errorOfKeyword 109 = .ok (.bipush 15, 2) := by decide +kernel
theorem dX7_errorOfKeyword_111 : decode cX7_errorOfKeyword 111 = .ok (.if_icmp .ne 18, 3) := by decide +kernel
theorem dX7_errorOfKeyword_114 : decode cX7_errorOfKeyword 114 = .ok (.iload 5, 2) := by decide +kernel
theorem dX7_errorOfKeyword_116 : decode cX7_errorOfKeyword 116 = .ok (.bipush 20, 2) := by decide +kernel
theorem dX7_errorOfKeyword_118 : decode cX7_errorOfKeyword 118 = .ok (.if_icmp .ge 11, 3) := by decide +kernel
theorem dX7_errorOfKeyword_121 : decode cX7_errorOfKeyword 121 = .ok (.aload_n 1, 1) := by decide +kernel
theorem dX7_errorOfKeyword_122 : decode cX7_errorOfKeyword 122 = .ok (.getfield 97, 3) := by decide +kernel
theorem dX7_errorOfKeyword_125 : decode cX7_errorOfKeyword 125 = .ok (.iload 5, 2) := by decide +kernel
theorem dX7_errorOfKeyword_127 : decode cX7_errorOfKeyword 127 = .ok (.iload_n 3, 1) := by decide +kernel
theorem dX7_errorOfKeyword_128 : decode cX7_errorOfKeyword 128 = .ok (.iastore, 1) := by decide +kernel
theorem dX7_errorOfKeyword_129 : decode cX7_errorOfKeyword 129 = .ok (.iconst 0, 1) := by decide +kernel
theorem dX7_errorOfKeyword_130 : decode cX7_errorOfKeyword 130 = .ok (.ireturn, 1) := by decide +kernel
theorem dX7_errorOfNumber_0 : decode cX7_errorOfNumber 0 = .ok (.aload_n 0, 1) := by decide +kernel
theorem dX7_errorOfNumber_1 : decode cX7_errorOfNumber 1 = .ok (.getfield 42, 3) := by decide +kernel
theorem dX7_errorOfNumber_4 : decode cX7_errorOfNumber 4 = .ok (.lookupswitch 128 #[(1, 36), (6, 65), (10, 95)], 36) := by decide +kernel
theorem dX7_errorOfNumber_40 : decode cX7_errorOfNumber 40 = .ok (.iload_n 2, 1) := by decide +kernel
theorem dX7_errorOfNumber_41 : decode cX7_errorOfNumber 41 = .ok (.bipush 99, 2) := by decide +kernel
theorem dX7_errorOfNumber_43 : decode cX7_errorOfNumber 43 = .ok (.if_icmp .le 5, 3) := by decide +kernel
theorem dX7_errorOfNumber_46 : decode cX7_errorOfNumber 46 = .ok (.iconst 5, 1) := by decide +kernel
theorem dX7_errorOfNumber_47 : decode cX7_errorOfNumber 47 = .ok (.ireturn, 1) := by decide +kernel
theorem dX7_errorOfNumber_48 : decode cX7_errorOfNumber 48 = .ok (.aload_n 1, 1) := by decide +kernel
theorem dX7_errorOfNumber_49 : decode cX7_errorOfNumber 49 = .ok (.getfield 100, 3) := by decide +kernel
theorem dX7_errorOfNumber_52 : decode cX7_errorOfNumber 52 = .ok (.bipush 6, 2) := by decide +kernel
theorem dX7_errorOfNumber_54 : decode cX7_errorOfNumber 54 = .ok (.if_icmp .ge 13, 3) := by decide +kernel
theorem dX7_errorOfNumber_57 : decode cX7_errorOfNumber 57 = .ok (.aload_n 1, 1) := by decide +kernel
theorem dX7_errorOfNumber_58 : decode cX7_errorOfNumber 58 = .ok (.getfield 103, 3) := by decide +kernel
theorem dX7_errorOfNumber_61 : decode cX7_errorOfNumber 61 = .ok (.aload_n 1, 1) := by decide +kernel
theorem dX7_errorOfNumber_62 : decode cX7_errorOfNumber 62 = .ok (.getfield 100, 3) := by decide +kernel
theorem dX7_errorOfNumber_65 : decode cX7_errorOfNumber 65 = .ok (.iload_n 2, 1) := by decide +kernel
theorem dX7_errorOfNumber_66 : decode cX7_errorOfNumber 66 = .ok (.iastore, 1) := by decide +kernel
theorem dX7_errorOfNumber_67 : decode cX7_errorOfNumber 67 = .ok (.iconst 0, 1) := by decide +kernel
theorem dX7_errorOfNumber_68 : decode cX7_errorOfNumber 68 = .ok (.ireturn, 1) := by decide +kernel
theorem dX7_errorOfNumber_69 : decode cX7_errorOfNumber 69 = .ok (.iload_n 2, 1) := by decide +kernel
theorem dX7_errorOfNumber_70 : decode cX7_errorOfNumber 70 = .ok (.sipush 9999, 3) := by decide +kernel
theorem dX7_errorOfNumber_73 : decode cX7_errorOfNumber 73 = .ok (.if_icmp .le 5, 3) := by decide +kernel
theorem dX7_errorOfNumber_76 : decode cX7_errorOfNumber 76 = .ok (.iconst 5, 1) := by decide +kernel
theorem dX7_errorOfNumber_77 : decode cX7_errorOfNumber 77 = .ok (.ireturn, 1) := by decide +kernel
theorem dX7_errorOfNumber_78 : decode cX7_errorOfNumber 78 = .ok (.aload_n 1, 1) := by decide +kernel
theorem dX7_errorOfNumber_79 : decode cX7_errorOfNumber 79 = .ok (.getfield 106, 3) := by decide +kernel
theorem dX7_errorOfNumber_82 : decode cX7_errorOfNumber 82 = .ok (.bipush 16, 2) := by decide +kernel
theorem dX7_errorOfNumber_84 : decode cX7_errorOfNumber 84 = .ok (.if_icmp .ge 13, 3) := by decide +kernel
theorem dX7_errorOfNumber_87 : decode cX7_errorOfNumber 87 = .ok (.aload_n 1, 1) := by decide +kernel
theorem dX7_errorOfNumber_88 : decode cX7_errorOfNumber 88 = .ok (.getfield 109, 3) := by decide +kernel
theorem dX7_errorOfNumber_91 : decode cX7_errorOfNumber 91 = .ok (.aload_n 1, 1) := by decide +kernel
theorem dX7_errorOfNumber_92 : decode cX7_errorOfNumber 92 = .ok (.getfield 106, 3) := by decide +kernel
theorem dX7_errorOfNumber_95 : decode cX7_errorOfNumber 95 = .ok (.iload_n 2, 1) := by decide +kernel
theorem dX7_errorOfNumber_96 : decode cX7_errorOfNumber 96 = .ok (.iastore, 1) := by decide +kernel
theorem dX7_errorOfNumber_97 : decode cX7_errorOfNumber 97 = .ok (.iconst 0, 1) := by decide +kernel
theorem dX7_errorOfNumber_98 : decode cX7_errorOfNumber 98 = .ok (.ireturn, 1) := by decide +kernel
theorem dX7_errorOfNumber_99 : decode cX7_errorOfNumber 99 = .ok (.iload_n 2, 1) := by decide +kernel
theorem dX7_errorOfNumber_100 : decode cX7_errorOfNumber 100 = .ok (.iconst 1, 1) := by decide +kernel
theorem dX7_errorOfNumber_101 : decode cX7_errorOfNumber 101 = .ok (.if_icmp .lt 9, 3) := by decide +kernel
theorem dX7_errorOfNumber_104 : decode cX7_errorOfNumber 104 = .ok (.iload_n 2, 1) := by decide +kernel
theorem dX7_errorOfNumber_105 : decode cX7_errorOfNumber 105 = .ok (.bipush 9, 2) := by decide +kernel
theorem dX7_errorOfNumber_107 : decode cX7_errorOfNumber 107 = .ok (.if_icmp .le 5, 3) := by decide +kernel
theorem dX7_errorOfNumber_110 : decode cX7_errorOfNumber 110 = .ok (.iconst 5, 1) := by decide +kernel
theorem dX7_errorOfNumber_111 : decode cX7_errorOfNumber 111 = .ok (.ireturn, 1) := by decide +kernel
theorem dX7_errorOfNumber_112 : decode cX7_errorOfNumber 112 = .ok (.aload_n 1, 1) := by decide +kernel
theorem dX7_errorOfNumber_113 : decode cX7_errorOfNumber 113 = .ok (.getfield 112, 3) := by decide +kernel
theorem dX7_errorOfNumber_116 : decode cX7_errorOfNumber 116 = .ok (.iconst 5, 1) := by decide +kernel
theorem dX7_errorOfNumber_117 : decode cX7_errorOfNumber 117 = .ok (.if_icmp .ge 13, 3) := by decide +kernel
theorem dX7_errorOfNumber_120 : decode cX7_errorOfNumber 120 = .ok (.aload_n 1, 1) := by decide +kernel
theorem dX7_errorOfNumber_121 : decode cX7_errorOfNumber 121 = .ok (.getfield 115, 3) := by decide +kernel
theorem dX7_errorOfNumber_124 : decode cX7_errorOfNumber 124 = .ok (.aload_n 1, 1) := by decide +kernel
theorem dX7_errorOfNumber_125 : decode cX7_errorOfNumber 125 = .ok (.getfield 112, 3) := by decide +kernel
theorem dX7_errorOfNumber_128 : decode cX7_errorOfNumber 128 = .ok (.iload_n 2, 1) := by decide +kernel
theorem dX7_errorOfNumber_129 : decode cX7_errorOfNumber 129 = .ok (.iastore, 1) := by decide +kernel
theorem dX7_errorOfNumber_130 : decode cX7_errorOfNumber 130 = .ok (.iconst 0, 1) := by decide +kernel
theorem dX7_errorOfNumber_131 : decode cX7_errorOfNumber 131 = .ok (.ireturn, 1) := by decide +kernel
theorem dX7_errorOfNumber_132 : decode cX7_errorOfNumber 132 = .ok (.iconst 0, 1) := by decide +kernel
theorem dX7_errorOfNumber_133 : decode cX7_errorOfNumber 133 = .ok (.ireturn, 1) := by decide +kernel
theorem dX7_toldAhead_0 : decode cX7_toldAhead 0 = .ok (.aload_n 0, 1) := by decide +kernel
theorem dX7_toldAhead_1 : decode cX7_toldAhead 1 = .ok (.getfield 42, 3) := by decide +kernel
theorem dX7_toldAhead_4 : decode cX7_toldAhead 4 = .ok (.tableswitch 147 0 22 #[108, 147, 147, 108, 147, 147, 147, 121, 147, 134, 147, 147, 134, 147, 121, 147, 147, 147, 147, 147, 121, 134, 121], 108) := by decide +kernel
theorem dX7_toldAhead_112 : decode cX7_toldAhead 112 = .ok (.lload_n 2, 1) := by decide +kernel
theorem dX7_toldAhead_113 : decode cX7_toldAhead 113 = .ok (.aload_n 0, 1) := by decide +kernel
theorem dX7_toldAhead_114 : decode cX7_toldAhead 114 = .ok (.getfield 15, 3) := by decide +kernel
theorem dX7_toldAhead_117 : decode cX7_toldAhead 117 = .ok (.aload_n 1, 1) := by decide +kernel
theorem dX7_toldAhead_118 : decode cX7_toldAhead 118 = .ok (.getfield 100, 3) := by decide +kernel
theorem dX7_toldAhead_121 : decode cX7_toldAhead 121 = .ok (.invokestatic 118, 3) := by decide +kernel
theorem dX7_toldAhead_124 : decode cX7_toldAhead 124 = .ok (.ireturn, 1) := by decide +kernel
theorem dX7_toldAhead_125 : decode cX7_toldAhead 125 = .ok (.lload_n 2, 1) := by decide +kernel
theorem dX7_toldAhead_126 : decode cX7_toldAhead 126 = .ok (.aload_n 0, 1) := by decide +kernel
theorem dX7_toldAhead_127 : decode cX7_toldAhead 127 = .ok (.getfield 22, 3) := by decide +kernel
theorem dX7_toldAhead_130 : decode cX7_toldAhead 130 = .ok (.aload_n 1, 1) := by decide +kernel
theorem dX7_toldAhead_131 : decode cX7_toldAhead 131 = .ok (.getfield 122, 3) := by decide +kernel
theorem dX7_toldAhead_134 : decode cX7_toldAhead 134 = .ok (.invokestatic 118, 3) := by decide +kernel
theorem dX7_toldAhead_137 : decode cX7_toldAhead 137 = .ok (.ireturn, 1) := by decide +kernel
theorem dX7_toldAhead_138 : decode cX7_toldAhead 138 = .ok (.lload_n 2, 1) := by decide +kernel
theorem dX7_toldAhead_139 : decode cX7_toldAhead 139 = .ok (.aload_n 0, 1) := by decide +kernel
theorem dX7_toldAhead_140 : decode cX7_toldAhead 140 = .ok (.getfield 25, 3) := by decide +kernel
theorem dX7_toldAhead_143 : decode cX7_toldAhead 143 = .ok (.aload_n 1, 1) := by decide +kernel
theorem dX7_toldAhead_144 : decode cX7_toldAhead 144 = .ok (.getfield 112, 3) := by decide +kernel
theorem dX7_toldAhead_147 : decode cX7_toldAhead 147 = .ok (.invokestatic 118, 3) := by decide +kernel
theorem dX7_toldAhead_150 : decode cX7_toldAhead 150 = .ok (.ireturn, 1) := by decide +kernel
theorem dX7_toldAhead_151 : decode cX7_toldAhead 151 = .ok (.lload_n 2, 1) := by decide +kernel
theorem dX7_toldAhead_152 : decode cX7_toldAhead 152 = .ok (.aload_n 0, 1) := by decide +kernel
theorem dX7_toldAhead_153 : decode cX7_toldAhead 153 = .ok (.getfield 19, 3) := by decide +kernel
theorem dX7_toldAhead_156 : decode cX7_toldAhead 156 = .ok (.aload_n 1, 1) := by decide +kernel
theorem dX7_toldAhead_157 : decode cX7_toldAhead 157 = .ok (.getfield 106, 3) := by decide +kernel
theorem dX7_toldAhead_160 : decode cX7_toldAhead 160 = .ok (.invokestatic 118, 3) := by decide +kernel
theorem dX7_toldAhead_163 : decode cX7_toldAhead 163 = .ok (.ireturn, 1) := by decide +kernel
theorem dX7_placeOf_0 : decode cX7_placeOf 0 = .ok (.iconst 0, 1) := by decide +kernel
theorem dX7_placeOf_1 : decode cX7_placeOf 1 = .ok (.istore 4, 2) := by decide +kernel
theorem dX7_placeOf_3 : decode cX7_placeOf 3 = .ok (.iload 4, 2) := by decide +kernel
theorem dX7_placeOf_5 : decode cX7_placeOf 5 = .ok (.iload_n 3, 1) := by decide +kernel
theorem dX7_placeOf_6 : decode cX7_placeOf 6 = .ok (.if_icmp .ge 28, 3) := by decide +kernel
theorem dX7_placeOf_9 : decode cX7_placeOf 9 = .ok (.iload 4, 2) := by decide +kernel
theorem dX7_placeOf_11 : decode cX7_placeOf 11 = .ok (.aload_n 2, 1) := by decide +kernel
theorem dX7_placeOf_12 : decode cX7_placeOf 12 = .ok (.arraylength, 1) := by decide +kernel
theorem dX7_placeOf_13 : decode cX7_placeOf 13 = .ok (.if_icmp .ge 21, 3) := by decide +kernel
theorem dX7_placeOf_16 : decode cX7_placeOf 16 = .ok (.aload_n 2, 1) := by decide +kernel
theorem dX7_placeOf_17 : decode cX7_placeOf 17 = .ok (.iload 4, 2) := by decide +kernel
theorem dX7_placeOf_19 : decode cX7_placeOf 19 = .ok (.laload, 1) := by decide +kernel
theorem dX7_placeOf_20 : decode cX7_placeOf 20 = .ok (.lload_n 0, 1) := by decide +kernel
theorem dX7_placeOf_21 : decode cX7_placeOf 21 = .ok (.lcmp, 1) := by decide +kernel
theorem dX7_placeOf_22 : decode cX7_placeOf 22 = .ok (.ifCond .ne 6, 3) := by decide +kernel
theorem dX7_placeOf_25 : decode cX7_placeOf 25 = .ok (.iload 4, 2) := by decide +kernel
theorem dX7_placeOf_27 : decode cX7_placeOf 27 = .ok (.ireturn, 1) := by decide +kernel
theorem dX7_placeOf_28 : decode cX7_placeOf 28 = .ok (.iinc 4 1, 3) := by decide +kernel
theorem dX7_placeOf_31 : decode cX7_placeOf 31 = .ok (.goto (-28), 3) := by decide +kernel
theorem dX7_placeOf_34 : decode cX7_placeOf 34 = .ok (.iconst (-1), 1) := by decide +kernel
theorem dX7_placeOf_35 : decode cX7_placeOf 35 = .ok (.ireturn, 1) := by decide +kernel
theorem dX7_errorOfName_0 : decode cX7_errorOfName 0 = .ok (.aload_n 0, 1) := by decide +kernel
theorem dX7_errorOfName_1 : decode cX7_errorOfName 1 = .ok (.getfield 42, 3) := by decide +kernel
theorem dX7_errorOfName_4 : decode cX7_errorOfName 4 = .ok (.tableswitch 125 0 9 #[56, 125, 70, 125, 125, 125, 125, 78, 125, 111], 56) := by decide +kernel
theorem dX7_errorOfName_60 : decode cX7_errorOfName 60 = .ok (.iload_n 2, 1) := by decide +kernel
theorem dX7_errorOfName_61 : decode cX7_errorOfName 61 = .ok (.lload_n 3, 1) := by decide +kernel
theorem dX7_errorOfName_62 : decode cX7_errorOfName 62 = .ok (.aload_n 0, 1) := by decide +kernel
theorem dX7_errorOfName_63 : decode cX7_errorOfName 63 = .ok (.getfield 15, 3) := by decide +kernel
theorem dX7_errorOfName_66 : decode cX7_errorOfName 66 = .ok (.aload_n 1, 1) := by decide +kernel
theorem dX7_errorOfName_67 : decode cX7_errorOfName 67 = .ok (.getfield 100, 3) := by decide +kernel
theorem dX7_errorOfName_70 : decode cX7_errorOfName 70 = .ok (.invokestatic 125, 3) := by decide +kernel
theorem dX7_errorOfName_73 : decode cX7_errorOfName 73 = .ok (.ireturn, 1) := by decide +kernel
theorem dX7_errorOfName_74 : decode cX7_errorOfName 74 = .ok (.aload_n 0, 1) := by decide +kernel
theorem dX7_errorOfName_75 : decode cX7_errorOfName 75 = .ok (.aload_n 1, 1) := by decide +kernel
theorem dX7_errorOfName_76 : decode cX7_errorOfName 76 = .ok (.iload_n 2, 1) := by decide +kernel
theorem dX7_errorOfName_77 : decode cX7_errorOfName 77 = .ok (.lload_n 3, 1) := by decide +kernel
theorem dX7_errorOfName_78 : decode cX7_errorOfName 78 = .ok (.invokevirtual 129, 3) := by decide +kernel
theorem dX7_errorOfName_81 : decode cX7_errorOfName 81 = .ok (.ireturn, 1) := by decide +kernel
theorem dX7_errorOfName_82 : decode cX7_errorOfName 82 = .ok (.aload_n 1, 1) := by decide +kernel
theorem dX7_errorOfName_83 : decode cX7_errorOfName 83 = .ok (.getfield 122, 3) := by decide +kernel
theorem dX7_errorOfName_86 : decode cX7_errorOfName 86 = .ok (.bipush 6, 2) := by decide +kernel
theorem dX7_errorOfName_88 : decode cX7_errorOfName 88 = .ok (.if_icmp .ge 13, 3) := by decide +kernel
theorem dX7_errorOfName_91 : decode cX7_errorOfName 91 = .ok (.aload_n 1, 1) := by decide +kernel
theorem dX7_errorOfName_92 : decode cX7_errorOfName 92 = .ok (.getfield 132, 3) := by decide +kernel
theorem dX7_errorOfName_95 : decode cX7_errorOfName 95 = .ok (.aload_n 1, 1) := by decide +kernel
theorem dX7_errorOfName_96 : decode cX7_errorOfName 96 = .ok (.getfield 122, 3) := by decide +kernel
theorem dX7_errorOfName_99 : decode cX7_errorOfName 99 = .ok (.iconst 0, 1) := by decide +kernel
theorem dX7_errorOfName_100 : decode cX7_errorOfName 100 = .ok (.iastore, 1) := by decide +kernel
theorem dX7_errorOfName_101 : decode cX7_errorOfName 101 = .ok (.iload_n 2, 1) := by decide +kernel
theorem dX7_errorOfName_102 : decode cX7_errorOfName 102 = .ok (.lload_n 3, 1) := by decide +kernel
theorem dX7_errorOfName_103 : decode cX7_errorOfName 103 = .ok (.aload_n 0, 1) := by decide +kernel
theorem dX7_errorOfName_104 : decode cX7_errorOfName 104 = .ok (.getfield 22, 3) := by decide +kernel
theorem dX7_errorOfName_107 : decode cX7_errorOfName 107 = .ok (.aload_n 1, 1) := by decide +kernel
theorem dX7_errorOfName_108 : decode cX7_errorOfName 108 = .ok (.getfield 122, 3) := by decide +kernel
theorem dX7_errorOfName_111 : decode cX7_errorOfName 111 = .ok (.invokestatic 125, 3) := by decide +kernel
theorem dX7_errorOfName_114 : decode cX7_errorOfName 114 = .ok (.ireturn, 1) := by decide +kernel
theorem dX7_errorOfName_115 : decode cX7_errorOfName 115 = .ok (.iload_n 2, 1) := by decide +kernel
theorem dX7_errorOfName_116 : decode cX7_errorOfName 116 = .ok (.lload_n 3, 1) := by decide +kernel
theorem dX7_errorOfName_117 : decode cX7_errorOfName 117 = .ok (.aload_n 0, 1) := by decide +kernel
theorem dX7_errorOfName_118 : decode cX7_errorOfName 118 = .ok (.getfield 25, 3) := by decide +kernel
theorem dX7_errorOfName_121 : decode cX7_errorOfName 121 = .ok (.aload_n 1, 1) := by decide +kernel
theorem dX7_errorOfName_122 : decode cX7_errorOfName 122 = .ok (.getfield 112, 3) := by decide +kernel
theorem dX7_errorOfName_125 : decode cX7_errorOfName 125 = .ok (.invokestatic 125, 3) := by decide +kernel
theorem dX7_errorOfName_128 : decode cX7_errorOfName 128 = .ok (.ireturn, 1) := by decide +kernel
theorem dX7_errorOfName_129 : decode cX7_errorOfName 129 = .ok (.iload_n 2, 1) := by decide +kernel
theorem dX7_errorOfName_130 : decode cX7_errorOfName 130 = .ok (.ifCond .ge 7, 3) := by decide +kernel
theorem dX7_errorOfName_133 : decode cX7_errorOfName 133 = .ok (.iconst 3, 1) := by decide +kernel
theorem dX7_errorOfName_134 : decode cX7_errorOfName 134 = .ok (.goto 9, 3) := by decide +kernel
theorem dX7_errorOfName_137 : decode cX7_errorOfName 137 = .ok (.aload_n 0, 1) := by decide +kernel
theorem dX7_errorOfName_138 : decode cX7_errorOfName 138 = .ok (.aload_n 1, 1) := by decide +kernel
theorem dX7_errorOfName_139 : decode cX7_errorOfName 139 = .ok (.iload_n 2, 1) := by decide +kernel
theorem dX7_errorOfName_140 : decode cX7_errorOfName 140 = .ok (.invokevirtual 135, 3) := by decide +kernel
theorem dX7_errorOfName_143 : decode cX7_errorOfName 143 = .ok (.ireturn, 1) := by decide +kernel
theorem dX7_errorOfNewName_0 : decode cX7_errorOfNewName 0 = .ok (.iload_n 0, 1) := by decide +kernel
theorem dX7_errorOfNewName_1 : decode cX7_errorOfNewName 1 = .ok (.ifCond .lt 5, 3) := by decide +kernel
theorem dX7_errorOfNewName_4 : decode cX7_errorOfNewName 4 = .ok (.iconst 2, 1) := by decide +kernel
theorem dX7_errorOfNewName_5 : decode cX7_errorOfNewName 5 = .ok (.ireturn, 1) := by decide +kernel
theorem dX7_errorOfNewName_6 : decode cX7_errorOfNewName 6 = .ok (.iload 4, 2) := by decide +kernel
theorem dX7_errorOfNewName_8 : decode cX7_errorOfNewName 8 = .ok (.ifCond .lt 10, 3) := by decide +kernel
theorem dX7_errorOfNewName_11 : decode cX7_errorOfNewName 11 = .ok (.iload 4, 2) := by decide +kernel
theorem dX7_errorOfNewName_13 : decode cX7_errorOfNewName 13 = .ok (.aload_n 3, 1) := by decide +kernel
theorem dX7_errorOfNewName_14 : decode cX7_errorOfNewName 14 = .ok (.arraylength, 1) := by decide +kernel
theorem dX7_errorOfNewName_15 : decode cX7_errorOfNewName 15 = .ok (.if_icmp .lt 5, 3) := by decide +kernel
theorem dX7_errorOfNewName_18 : decode cX7_errorOfNewName 18 = .ok (.iconst 4, 1) := by decide +kernel
theorem dX7_errorOfNewName_19 : decode cX7_errorOfNewName 19 = .ok (.ireturn, 1) := by decide +kernel
theorem dX7_errorOfNewName_20 : decode cX7_errorOfNewName 20 = .ok (.aload_n 3, 1) := by decide +kernel
theorem dX7_errorOfNewName_21 : decode cX7_errorOfNewName 21 = .ok (.iload 4, 2) := by decide +kernel
theorem dX7_errorOfNewName_23 : decode cX7_errorOfNewName 23 = .ok (.lload_n 1, 1) := by decide +kernel
theorem dX7_errorOfNewName_24 : decode cX7_errorOfNewName 24 = .ok (.lastore, 1) := by decide +kernel
theorem dX7_errorOfNewName_25 : decode cX7_errorOfNewName 25 = .ok (.iconst 0, 1) := by decide +kernel
theorem dX7_errorOfNewName_26 : decode cX7_errorOfNewName 26 = .ok (.ireturn, 1) := by decide +kernel
theorem dX7_errorOfNewCord_0 : decode cX7_errorOfNewCord 0 = .ok (.aload_n 1, 1) := by decide +kernel
theorem dX7_errorOfNewCord_1 : decode cX7_errorOfNewCord 1 = .ok (.getfield 106, 3) := by decide +kernel
theorem dX7_errorOfNewCord_4 : decode cX7_errorOfNewCord 4 = .ok (.istore 5, 2) := by decide +kernel
theorem dX7_errorOfNewCord_6 : decode cX7_errorOfNewCord 6 = .ok (.iload 5, 2) := by decide +kernel
theorem dX7_errorOfNewCord_8 : decode cX7_errorOfNewCord 8 = .ok (.bipush 16, 2) := by decide +kernel
theorem dX7_errorOfNewCord_10 : decode cX7_errorOfNewCord 10 = .ok (.if_icmp .ge 27, 3) := by decide +kernel
theorem dX7_errorOfNewCord_13 : decode cX7_errorOfNewCord 13 = .ok (.aload_n 1, 1) := by decide +kernel
theorem dX7_errorOfNewCord_14 : decode cX7_errorOfNewCord 14 = .ok (.getfield 138, 3) := by decide +kernel
theorem dX7_errorOfNewCord_17 : decode cX7_errorOfNewCord 17 = .ok (.iload 5, 2) := by decide +kernel
theorem dX7_errorOfNewCord_19 : decode cX7_errorOfNewCord 19 = .ok (.iconst (-1), 1) := by decide +kernel
theorem dX7_errorOfNewCord_20 : decode cX7_errorOfNewCord 20 = .ok (.iastore, 1) := by decide +kernel
theorem dX7_errorOfNewCord_21 : decode cX7_errorOfNewCord 21 = .ok (.aload_n 1, 1) := by decide +kernel
theorem dX7_errorOfNewCord_22 : decode cX7_errorOfNewCord 22 = .ok (.getfield 109, 3) := by decide +kernel
theorem dX7_errorOfNewCord_25 : decode cX7_errorOfNewCord 25 = .ok (.iload 5, 2) := by decide +kernel
theorem dX7_errorOfNewCord_27 : decode cX7_errorOfNewCord 27 = .ok (.iconst 0, 1) := by decide +kernel
theorem dX7_errorOfNewCord_28 : decode cX7_errorOfNewCord 28 = .ok (.iastore, 1) := by decide +kernel
theorem dX7_errorOfNewCord_29 : decode cX7_errorOfNewCord 29 = .ok (.aload_n 0, 1) := by decide +kernel
theorem dX7_errorOfNewCord_30 : decode cX7_errorOfNewCord 30 = .ok (.getfield 28, 3) := by decide +kernel
theorem dX7_errorOfNewCord_33 : decode cX7_errorOfNewCord 33 = .ok (.iload 5, 2) := by decide +kernel
theorem dX7_errorOfNewCord_35 : decode cX7_errorOfNewCord 35 = .ok (.iconst 1, 1) := by decide +kernel
theorem dX7_errorOfNewCord_36 : decode cX7_errorOfNewCord 36 = .ok (.iastore, 1) := by decide +kernel
theorem dX7_errorOfNewCord_37 : decode cX7_errorOfNewCord 37 = .ok (.iload_n 2, 1) := by decide +kernel
theorem dX7_errorOfNewCord_38 : decode cX7_errorOfNewCord 38 = .ok (.lload_n 3, 1) := by decide +kernel
theorem dX7_errorOfNewCord_39 : decode cX7_errorOfNewCord 39 = .ok (.aload_n 0, 1) := by decide +kernel
theorem dX7_errorOfNewCord_40 : decode cX7_errorOfNewCord 40 = .ok (.getfield 19, 3) := by decide +kernel
theorem dX7_errorOfNewCord_43 : decode cX7_errorOfNewCord 43 = .ok (.iload 5, 2) := by decide +kernel
theorem dX7_errorOfNewCord_45 : decode cX7_errorOfNewCord 45 = .ok (.invokestatic 125, 3) := by decide +kernel
theorem dX7_errorOfNewCord_48 : decode cX7_errorOfNewCord 48 = .ok (.ireturn, 1) := by decide +kernel
theorem dX7_errorOfUse_0 : decode cX7_errorOfUse 0 = .ok (.aload_n 1, 1) := by decide +kernel
theorem dX7_errorOfUse_1 : decode cX7_errorOfUse 1 = .ok (.getfield 106, 3) := by decide +kernel
theorem dX7_errorOfUse_4 : decode cX7_errorOfUse 4 = .ok (.istore_n 3, 1) := by decide +kernel
theorem dX7_errorOfUse_5 : decode cX7_errorOfUse 5 = .ok (.aload_n 1, 1) := by decide +kernel
theorem dX7_errorOfUse_6 : decode cX7_errorOfUse 6 = .ok (.getfield 90, 3) := by decide +kernel
theorem dX7_errorOfUse_9 : decode cX7_errorOfUse 9 = .ok (.istore 4, 2) := by decide +kernel
theorem dX7_errorOfUse_11 : decode cX7_errorOfUse 11 = .ok (.aload_n 0, 1) := by decide +kernel
theorem dX7_errorOfUse_12 : decode cX7_errorOfUse 12 = .ok (.getfield 42, 3) := by decide +kernel
theorem dX7_errorOfUse_15 : decode cX7_errorOfUse 15 = .ok (.tableswitch 123 3 14 #[61, 76, 123, 123, 123, 83, 123, 123, 89, 106, 123, 89], 61) := by decide +kernel
theorem dX7_errorOfUse_76 : decode cX7_errorOfUse 76 = .ok (.iload_n 3, 1) := by decide +kernel
theorem dX7_errorOfUse_77 : decode cX7_errorOfUse 77 = .ok (.bipush 16, 2) := by decide +kernel
theorem dX7_errorOfUse_79 : decode cX7_errorOfUse 79 = .ok (.if_icmp .ge 10, 3) := by decide +kernel
theorem dX7_errorOfUse_82 : decode cX7_errorOfUse 82 = .ok (.aload_n 1, 1) := by decide +kernel
theorem dX7_errorOfUse_83 : decode cX7_errorOfUse 83 = .ok (.getfield 141, 3) := by decide +kernel
theorem dX7_errorOfUse_86 : decode cX7_errorOfUse 86 = .ok (.iload_n 3, 1) := by decide +kernel
theorem dX7_errorOfUse_87 : decode cX7_errorOfUse 87 = .ok (.iload_n 2, 1) := by decide +kernel
theorem dX7_errorOfUse_88 : decode cX7_errorOfUse 88 = .ok (.iastore, 1) := by decide +kernel
theorem dX7_errorOfUse_89 : decode cX7_errorOfUse 89 = .ok (.iconst 0, 1) := by decide +kernel
theorem dX7_errorOfUse_90 : decode cX7_errorOfUse 90 = .ok (.ireturn, 1) := by decide +kernel
theorem dX7_errorOfUse_91 : decode cX7_errorOfUse 91 = .ok (.aload_n 0, 1) := by decide +kernel
theorem dX7_errorOfUse_92 : decode cX7_errorOfUse 92 = .ok (.aload_n 1, 1) := by decide +kernel
theorem dX7_errorOfUse_93 : decode cX7_errorOfUse 93 = .ok (.iload_n 2, 1) := by decide +kernel
theorem dX7_errorOfUse_94 : decode cX7_errorOfUse 94 = .ok (.invokevirtual 144, 3) := by decide +kernel
theorem dX7_errorOfUse_97 : decode cX7_errorOfUse 97 = .ok (.ireturn, 1) := by decide +kernel
theorem dX7_errorOfUse_98 : decode cX7_errorOfUse 98 = .ok (.aload_n 1, 1) := by decide +kernel
theorem dX7_errorOfUse_99 : decode cX7_errorOfUse 99 = .ok (.iload_n 2, 1) := by decide +kernel
theorem dX7_errorOfUse_100 : decode cX7_errorOfUse 100 = .ok (.invokestatic 147, 3) := by decide +kernel
theorem dX7_errorOfUse_103 : decode cX7_errorOfUse 103 = .ok (.ireturn, 1) := by decide +kernel
theorem dX7_errorOfUse_104 : decode cX7_errorOfUse 104 = .ok (.iload 4, 2) := by decide +kernel
theorem dX7_errorOfUse_106 : decode cX7_errorOfUse 106 = .ok (.bipush 20, 2) := by decide +kernel
theorem dX7_errorOfUse_108 : decode cX7_errorOfUse 108 = .ok (.if_icmp .ge 11, 3) := by decide +kernel
theorem dX7_errorOfUse_111 : decode cX7_errorOfUse 111 = .ok (.aload_n 1, 1) := by decide +kernel
theorem dX7_errorOfUse_112 : decode cX7_errorOfUse 112 = .ok (.getfield 150, 3) := by decide +kernel
theorem dX7_errorOfUse_115 : decode cX7_errorOfUse 115 = .ok (.iload 4, 2) := by decide +kernel
theorem dX7_errorOfUse_117 : decode cX7_errorOfUse 117 = .ok (.iload_n 2, 1) := by decide +kernel
theorem dX7_errorOfUse_118 : decode cX7_errorOfUse 118 = .ok (.iastore, 1) := by decide +kernel
theorem dX7_errorOfUse_119 : decode cX7_errorOfUse 119 = .ok (.iconst 0, 1) := by decide +kernel
theorem dX7_errorOfUse_120 : decode cX7_errorOfUse 120 = .ok (.ireturn, 1) := by decide +kernel
theorem dX7_errorOfUse_121 : decode cX7_errorOfUse 121 = .ok (.iload 4, 2) := by decide +kernel
theorem dX7_errorOfUse_123 : decode cX7_errorOfUse 123 = .ok (.bipush 20, 2) := by decide +kernel
theorem dX7_errorOfUse_125 : decode cX7_errorOfUse 125 = .ok (.if_icmp .ge 11, 3) := by decide +kernel
theorem dX7_errorOfUse_128 : decode cX7_errorOfUse 128 = .ok (.aload_n 1, 1) := by decide +kernel
theorem dX7_errorOfUse_129 : decode cX7_errorOfUse 129 = .ok (.getfield 153, 3) := by decide +kernel
theorem dX7_errorOfUse_132 : decode cX7_errorOfUse 132 = .ok (.iload 4, 2) := by decide +kernel
theorem dX7_errorOfUse_134 : decode cX7_errorOfUse 134 = .ok (.iload_n 2, 1) := by decide +kernel
theorem dX7_errorOfUse_135 : decode cX7_errorOfUse 135 = .ok (.iastore, 1) := by decide +kernel
theorem dX7_errorOfUse_136 : decode cX7_errorOfUse 136 = .ok (.iconst 0, 1) := by decide +kernel
theorem dX7_errorOfUse_137 : decode cX7_errorOfUse 137 = .ok (.ireturn, 1) := by decide +kernel
theorem dX7_errorOfUse_138 : decode cX7_errorOfUse 138 = .ok (.iconst 0, 1) := by decide +kernel
theorem dX7_errorOfUse_139 : decode cX7_errorOfUse 139 = .ok (.ireturn, 1) := by decide +kernel
theorem dX7_errorOfHanging_0 : decode cX7_errorOfHanging 0 = .ok (.aload_n 1, 1) := by decide +kernel
theorem dX7_errorOfHanging_1 : decode cX7_errorOfHanging 1 = .ok (.getfield 106, 3) := by decide +kernel
theorem dX7_errorOfHanging_4 : decode cX7_errorOfHanging 4 = .ok (.istore_n 3, 1) := by decide +kernel
theorem dX7_errorOfHanging_5 : decode cX7_errorOfHanging 5 = .ok (.aload_n 1, 1) := by decide +kernel
theorem dX7_errorOfHanging_6 : decode cX7_errorOfHanging 6 = .ok (.iload_n 2, 1) := by decide +kernel
theorem dX7_errorOfHanging_7 : decode cX7_errorOfHanging 7 = .ok (.invokevirtual 156, 3) := by decide +kernel
theorem dX7_errorOfHanging_10 : decode cX7_errorOfHanging 10 = .ok (.ifCond .eq 19, 3) := by decide +kernel
theorem dX7_errorOfHanging_13 : decode cX7_errorOfHanging 13 = .ok (.iload_n 3, 1) := by decide +kernel
theorem dX7_errorOfHanging_14 : decode cX7_errorOfHanging 14 = .ok (.bipush 16, 2) := by decide +kernel
theorem dX7_errorOfHanging_16 : decode cX7_errorOfHanging 16 = .ok (.if_icmp .ge 13, 3) := by decide +kernel
theorem dX7_errorOfHanging_19 : decode cX7_errorOfHanging 19 = .ok (.aload_n 0, 1) := by decide +kernel
theorem dX7_errorOfHanging_20 : decode cX7_errorOfHanging 20 = .ok (.getfield 28, 3) := by decide +kernel
theorem dX7_errorOfHanging_23 : decode cX7_errorOfHanging 23 = .ok (.iload_n 2, 1) := by decide +kernel
theorem dX7_errorOfHanging_24 : decode cX7_errorOfHanging 24 = .ok (.iaload, 1) := by decide +kernel
theorem dX7_errorOfHanging_25 : decode cX7_errorOfHanging 25 = .ok (.iconst 4, 1) := by decide +kernel
theorem dX7_errorOfHanging_26 : decode cX7_errorOfHanging 26 = .ok (.if_icmp .lt 5, 3) := by decide +kernel
theorem dX7_errorOfHanging_29 : decode cX7_errorOfHanging 29 = .ok (.iconst 5, 1) := by decide +kernel
theorem dX7_errorOfHanging_30 : decode cX7_errorOfHanging 30 = .ok (.ireturn, 1) := by decide +kernel
theorem dX7_errorOfHanging_31 : decode cX7_errorOfHanging 31 = .ok (.aload_n 1, 1) := by decide +kernel
theorem dX7_errorOfHanging_32 : decode cX7_errorOfHanging 32 = .ok (.getfield 138, 3) := by decide +kernel
theorem dX7_errorOfHanging_35 : decode cX7_errorOfHanging 35 = .ok (.iload_n 3, 1) := by decide +kernel
theorem dX7_errorOfHanging_36 : decode cX7_errorOfHanging 36 = .ok (.iload_n 2, 1) := by decide +kernel
theorem dX7_errorOfHanging_37 : decode cX7_errorOfHanging 37 = .ok (.iastore, 1) := by decide +kernel
theorem dX7_errorOfHanging_38 : decode cX7_errorOfHanging 38 = .ok (.aload_n 0, 1) := by decide +kernel
theorem dX7_errorOfHanging_39 : decode cX7_errorOfHanging 39 = .ok (.getfield 28, 3) := by decide +kernel
theorem dX7_errorOfHanging_42 : decode cX7_errorOfHanging 42 = .ok (.iload_n 3, 1) := by decide +kernel
theorem dX7_errorOfHanging_43 : decode cX7_errorOfHanging 43 = .ok (.aload_n 0, 1) := by decide +kernel
theorem dX7_errorOfHanging_44 : decode cX7_errorOfHanging 44 = .ok (.getfield 28, 3) := by decide +kernel
theorem dX7_errorOfHanging_47 : decode cX7_errorOfHanging 47 = .ok (.iload_n 2, 1) := by decide +kernel
theorem dX7_errorOfHanging_48 : decode cX7_errorOfHanging 48 = .ok (.iaload, 1) := by decide +kernel
theorem dX7_errorOfHanging_49 : decode cX7_errorOfHanging 49 = .ok (.iconst 1, 1) := by decide +kernel
theorem dX7_errorOfHanging_50 : decode cX7_errorOfHanging 50 = .ok (.iadd, 1) := by decide +kernel
theorem dX7_errorOfHanging_51 : decode cX7_errorOfHanging 51 = .ok (.iastore, 1) := by decide +kernel
theorem dX7_errorOfHanging_52 : decode cX7_errorOfHanging 52 = .ok (.iconst 0, 1) := by decide +kernel
theorem dX7_errorOfHanging_53 : decode cX7_errorOfHanging 53 = .ok (.ireturn, 1) := by decide +kernel
theorem dX7_errorOfTopCord_0 : decode cX7_errorOfTopCord 0 = .ok (.aload_n 0, 1) := by decide +kernel
theorem dX7_errorOfTopCord_1 : decode cX7_errorOfTopCord 1 = .ok (.getfield 122, 3) := by decide +kernel
theorem dX7_errorOfTopCord_4 : decode cX7_errorOfTopCord 4 = .ok (.istore_n 2, 1) := by decide +kernel
theorem dX7_errorOfTopCord_5 : decode cX7_errorOfTopCord 5 = .ok (.iload_n 2, 1) := by decide +kernel
theorem dX7_errorOfTopCord_6 : decode cX7_errorOfTopCord 6 = .ok (.bipush 6, 2) := by decide +kernel
theorem dX7_errorOfTopCord_8 : decode cX7_errorOfTopCord 8 = .ok (.if_icmp .ge 14, 3) := by decide +kernel
theorem dX7_errorOfTopCord_11 : decode cX7_errorOfTopCord 11 = .ok (.aload_n 0, 1) := by decide +kernel
theorem dX7_errorOfTopCord_12 : decode cX7_errorOfTopCord 12 = .ok (.getfield 132, 3) := by decide +kernel
theorem dX7_errorOfTopCord_15 : decode cX7_errorOfTopCord 15 = .ok (.iload_n 2, 1) := by decide +kernel
theorem dX7_errorOfTopCord_16 : decode cX7_errorOfTopCord 16 = .ok (.iaload, 1) := by decide +kernel
theorem dX7_errorOfTopCord_17 : decode cX7_errorOfTopCord 17 = .ok (.bipush 8, 2) := by decide +kernel
theorem dX7_errorOfTopCord_19 : decode cX7_errorOfTopCord 19 = .ok (.if_icmp .lt 5, 3) := by decide +kernel
theorem dX7_errorOfTopCord_22 : decode cX7_errorOfTopCord 22 = .ok (.iconst 4, 1) := by decide +kernel
theorem dX7_errorOfTopCord_23 : decode cX7_errorOfTopCord 23 = .ok (.ireturn, 1) := by decide +kernel
theorem dX7_errorOfTopCord_24 : decode cX7_errorOfTopCord 24 = .ok (.aload_n 0, 1) := by decide +kernel
theorem dX7_errorOfTopCord_25 : decode cX7_errorOfTopCord 25 = .ok (.iload_n 2, 1) := by decide +kernel
theorem dX7_errorOfTopCord_26 : decode cX7_errorOfTopCord 26 = .ok (.iload_n 1, 1) := by decide +kernel
theorem dX7_errorOfTopCord_27 : decode cX7_errorOfTopCord 27 = .ok (.invokevirtual 160, 3) := by decide +kernel
theorem dX7_errorOfTopCord_30 : decode cX7_errorOfTopCord 30 = .ok (.ifCond .eq 5, 3) := by decide +kernel
theorem dX7_errorOfTopCord_33 : decode cX7_errorOfTopCord 33 = .ok (.iconst 5, 1) := by decide +kernel
theorem dX7_errorOfTopCord_34 : decode cX7_errorOfTopCord 34 = .ok (.ireturn, 1) := by decide +kernel
theorem dX7_errorOfTopCord_35 : decode cX7_errorOfTopCord 35 = .ok (.aload_n 0, 1) := by decide +kernel
theorem dX7_errorOfTopCord_36 : decode cX7_errorOfTopCord 36 = .ok (.getfield 164, 3) := by decide +kernel
theorem dX7_errorOfTopCord_39 : decode cX7_errorOfTopCord 39 = .ok (.iload_n 2, 1) := by decide +kernel
theorem dX7_errorOfTopCord_40 : decode cX7_errorOfTopCord 40 = .ok (.aaload, 1) := by decide +kernel
theorem dX7_errorOfTopCord_41 : decode cX7_errorOfTopCord 41 = .ok (.aload_n 0, 1) := by decide +kernel
theorem dX7_errorOfTopCord_42 : decode cX7_errorOfTopCord 42 = .ok (.getfield 132, 3) := by decide +kernel
theorem dX7_errorOfTopCord_45 : decode cX7_errorOfTopCord 45 = .ok (.iload_n 2, 1) := by decide +kernel
theorem dX7_errorOfTopCord_46 : decode cX7_errorOfTopCord 46 = .ok (.iaload, 1) := by decide +kernel
theorem dX7_errorOfTopCord_47 : decode cX7_errorOfTopCord 47 = .ok (.iload_n 1, 1) := by decide +kernel
theorem dX7_errorOfTopCord_48 : decode cX7_errorOfTopCord 48 = .ok (.iastore, 1) := by decide +kernel
theorem dX7_errorOfTopCord_49 : decode cX7_errorOfTopCord 49 = .ok (.aload_n 0, 1) := by decide +kernel
theorem dX7_errorOfTopCord_50 : decode cX7_errorOfTopCord 50 = .ok (.getfield 132, 3) := by decide +kernel
theorem dX7_errorOfTopCord_53 : decode cX7_errorOfTopCord 53 = .ok (.iload_n 2, 1) := by decide +kernel
theorem dX7_errorOfTopCord_54 : decode cX7_errorOfTopCord 54 = .ok (.dup2, 1) := by decide +kernel
theorem dX7_errorOfTopCord_55 : decode cX7_errorOfTopCord 55 = .ok (.iaload, 1) := by decide +kernel
theorem dX7_errorOfTopCord_56 : decode cX7_errorOfTopCord 56 = .ok (.iconst 1, 1) := by decide +kernel
theorem dX7_errorOfTopCord_57 : decode cX7_errorOfTopCord 57 = .ok (.iadd, 1) := by decide +kernel
theorem dX7_errorOfTopCord_58 : decode cX7_errorOfTopCord 58 = .ok (.iastore, 1) := by decide +kernel
theorem dX7_errorOfTopCord_59 : decode cX7_errorOfTopCord 59 = .ok (.iconst 0, 1) := by decide +kernel
theorem dX7_errorOfTopCord_60 : decode cX7_errorOfTopCord 60 = .ok (.ireturn, 1) := by decide +kernel
theorem dX7_endLine_0 : decode cX7_endLine 0 = .ok (.aload_n 0, 1) := by decide +kernel
theorem dX7_endLine_1 : decode cX7_endLine 1 = .ok (.getfield 39, 3) := by decide +kernel
theorem dX7_endLine_4 : decode cX7_endLine 4 = .ok (.tableswitch 108 0 9 #[56, 108, 69, 108, 108, 108, 108, 82, 108, 95], 56) := by decide +kernel
theorem dX7_endLine_60 : decode cX7_endLine 60 = .ok (.aload_n 1, 1) := by decide +kernel
theorem dX7_endLine_61 : decode cX7_endLine 61 = .ok (.dup, 1) := by decide +kernel
theorem dX7_endLine_62 : decode cX7_endLine 62 = .ok (.getfield 100, 3) := by decide +kernel
theorem dX7_endLine_65 : decode cX7_endLine 65 = .ok (.iconst 1, 1) := by decide +kernel
theorem dX7_endLine_66 : decode cX7_endLine 66 = .ok (.iadd, 1) := by decide +kernel
theorem dX7_endLine_67 : decode cX7_endLine 67 = .ok (.putfield 100, 3) := by decide +kernel
theorem dX7_endLine_70 : decode cX7_endLine 70 = .ok (.goto 47, 3) := by decide +kernel
theorem dX7_endLine_73 : decode cX7_endLine 73 = .ok (.aload_n 1, 1) := by decide +kernel
theorem dX7_endLine_74 : decode cX7_endLine 74 = .ok (.dup, 1) := by decide +kernel
theorem dX7_endLine_75 : decode cX7_endLine 75 = .ok (.getfield 106, 3) := by decide +kernel
theorem dX7_endLine_78 : decode cX7_endLine 78 = .ok (.iconst 1, 1) := by decide +kernel
theorem dX7_endLine_79 : decode cX7_endLine 79 = .ok (.iadd, 1) := by decide +kernel
theorem dX7_endLine_80 : decode cX7_endLine 80 = .ok (.putfield 106, 3) := by decide +kernel
theorem dX7_endLine_83 : decode cX7_endLine 83 = .ok (.goto 34, 3) := by decide +kernel
theorem dX7_endLine_86 : decode cX7_endLine 86 = .ok (.aload_n 1, 1) := by decide +kernel
theorem dX7_endLine_87 : decode cX7_endLine 87 = .ok (.dup, 1) := by decide +kernel
theorem dX7_endLine_88 : decode cX7_endLine 88 = .ok (.getfield 122, 3) := by decide +kernel
theorem dX7_endLine_91 : decode cX7_endLine 91 = .ok (.iconst 1, 1) := by decide +kernel
theorem dX7_endLine_92 : decode cX7_endLine 92 = .ok (.iadd, 1) := by decide +kernel
theorem dX7_endLine_93 : decode cX7_endLine 93 = .ok (.putfield 122, 3) := by decide +kernel
theorem dX7_endLine_96 : decode cX7_endLine 96 = .ok (.goto 21, 3) := by decide +kernel
theorem dX7_endLine_99 : decode cX7_endLine 99 = .ok (.aload_n 1, 1) := by decide +kernel
theorem dX7_endLine_100 : decode cX7_endLine 100 = .ok (.dup, 1) := by decide +kernel
theorem dX7_endLine_101 : decode cX7_endLine 101 = .ok (.getfield 112, 3) := by decide +kernel
theorem dX7_endLine_104 : decode cX7_endLine 104 = .ok (.iconst 1, 1) := by decide +kernel
theorem dX7_endLine_105 : decode cX7_endLine 105 = .ok (.iadd, 1) := by decide +kernel
theorem dX7_endLine_106 : decode cX7_endLine 106 = .ok (.putfield 112, 3) := by decide +kernel
theorem dX7_endLine_109 : decode cX7_endLine 109 = .ok (.goto 8, 3) := by decide +kernel
theorem dX7_endLine_112 : decode cX7_endLine 112 = .ok (.aload_n 1, 1) := by decide +kernel
theorem dX7_endLine_113 : decode cX7_endLine 113 = .ok (.iload_n 2, 1) := by decide +kernel
theorem dX7_endLine_114 : decode cX7_endLine 114 = .ok (.invokestatic 168, 3) := by decide +kernel
theorem dX7_endLine_117 : decode cX7_endLine 117 = .ok (.return_, 1) := by decide +kernel
theorem dX7_endOrder_0 : decode cX7_endOrder 0 = .ok (.aload_n 0, 1) := by decide +kernel
theorem dX7_endOrder_1 : decode cX7_endOrder 1 = .ok (.getfield 90, 3) := by decide +kernel
theorem dX7_endOrder_4 : decode cX7_endOrder 4 = .ok (.istore_n 2, 1) := by decide +kernel
theorem dX7_endOrder_5 : decode cX7_endOrder 5 = .ok (.iload_n 2, 1) := by decide +kernel
theorem dX7_endOrder_6 : decode cX7_endOrder 6 = .ok (.bipush 20, 2) := by decide +kernel
theorem dX7_endOrder_8 : decode cX7_endOrder 8 = .ok (.if_icmp .ge 37, 3) := by decide +kernel
theorem dX7_endOrder_11 : decode cX7_endOrder 11 = .ok (.aload_n 0, 1) := by decide +kernel
theorem dX7_endOrder_12 : decode cX7_endOrder 12 = .ok (.getfield 171, 3) := by decide +kernel
theorem dX7_endOrder_15 : decode cX7_endOrder 15 = .ok (.iload_n 2, 1) := by decide +kernel
theorem dX7_endOrder_16 : decode cX7_endOrder 16 = .ok (.iload_n 1, 1) := by decide +kernel
theorem dX7_endOrder_17 : decode cX7_endOrder 17 = .ok (.iastore, 1) := by decide +kernel
theorem dX7_endOrder_18 : decode cX7_endOrder 18 = .ok (.aload_n 0, 1) := by decide +kernel
theorem dX7_endOrder_19 : decode cX7_endOrder 19 = .ok (.getfield 97, 3) := by decide +kernel
theorem dX7_endOrder_22 : decode cX7_endOrder 22 = .ok (.iload_n 2, 1) := by decide +kernel
theorem dX7_endOrder_23 : decode cX7_endOrder 23 = .ok (.iaload, 1) := by decide +kernel
theorem dX7_endOrder_24 : decode cX7_endOrder 24 = .ok (.iconst (-1), 1) := by decide +kernel
theorem dX7_endOrder_25 : decode cX7_endOrder 25 = .ok (.if_icmp .ne 10, 3) := by decide +kernel
theorem dX7_endOrder_28 : decode cX7_endOrder 28 = .ok (.aload_n 0, 1) := by decide +kernel
theorem dX7_endOrder_29 : decode cX7_endOrder 29 = .ok (.getfield 97, 3) := by decide +kernel
theorem dX7_endOrder_32 : decode cX7_endOrder 32 = .ok (.iload_n 2, 1) := by decide +kernel
theorem dX7_endOrder_33 : decode cX7_endOrder 33 = .ok (.iload_n 1, 1) := by decide +kernel
theorem dX7_endOrder_34 : decode cX7_endOrder 34 = .ok (.iastore, 1) := by decide +kernel
theorem dX7_endOrder_35 : decode cX7_endOrder 35 = .ok (.aload_n 0, 1) := by decide +kernel
theorem dX7_endOrder_36 : decode cX7_endOrder 36 = .ok (.dup, 1) := by decide +kernel
theorem dX7_endOrder_37 : decode cX7_endOrder 37 = .ok (.getfield 90, 3) := by decide +kernel
theorem dX7_endOrder_40 : decode cX7_endOrder 40 = .ok (.iconst 1, 1) := by decide +kernel
theorem dX7_endOrder_41 : decode cX7_endOrder 41 = .ok (.iadd, 1) := by decide +kernel
theorem dX7_endOrder_42 : decode cX7_endOrder 42 = .ok (.putfield 90, 3) := by decide +kernel
theorem dX7_endOrder_45 : decode cX7_endOrder 45 = .ok (.return_, 1) := by decide +kernel
theorem dX7_tellCode_0 : decode cX7_tellCode 0 = .ok (.iconst 0, 1) := by decide +kernel
theorem dX7_tellCode_1 : decode cX7_tellCode 1 = .ok (.istore_n 2, 1) := by decide +kernel
theorem dX7_tellCode_2 : decode cX7_tellCode 2 = .ok (.iload_n 2, 1) := by decide +kernel
theorem dX7_tellCode_3 : decode cX7_tellCode 3 = .ok (.aload_n 1, 1) := by decide +kernel
theorem dX7_tellCode_4 : decode cX7_tellCode 4 = .ok (.invokevirtual 174, 3) := by decide +kernel
theorem dX7_tellCode_7 : decode cX7_tellCode 7 = .ok (.if_icmp .ge 71, 3) := by decide +kernel
theorem dX7_tellCode_10 : decode cX7_tellCode 10 = .ok (.iload_n 2, 1) := by decide +kernel
theorem dX7_tellCode_11 : decode cX7_tellCode 11 = .ok (.sipush 400, 3) := by decide +kernel
theorem dX7_tellCode_14 : decode cX7_tellCode 14 = .ok (.if_icmp .ge 64, 3) := by decide +kernel
theorem dX7_tellCode_17 : decode cX7_tellCode 17 = .ok (.aload_n 1, 1) := by decide +kernel
theorem dX7_tellCode_18 : decode cX7_tellCode 18 = .ok (.getfield 177, 3) := by decide +kernel
theorem dX7_tellCode_21 : decode cX7_tellCode 21 = .ok (.iload_n 2, 1) := by decide +kernel
theorem dX7_tellCode_22 : decode cX7_tellCode 22 = .ok (.iaload, 1) := by decide +kernel
theorem dX7_tellCode_23 : decode cX7_tellCode 23 = .ok (.istore_n 3, 1) := by decide +kernel
theorem dX7_tellCode_24 : decode cX7_tellCode 24 = .ok (.aload_n 1, 1) := by decide +kernel
theorem dX7_tellCode_25 : decode cX7_tellCode 25 = .ok (.getfield 180, 3) := by decide +kernel
theorem dX7_tellCode_28 : decode cX7_tellCode 28 = .ok (.iload_n 2, 1) := by decide +kernel
theorem dX7_tellCode_29 : decode cX7_tellCode 29 = .ok (.iaload, 1) := by decide +kernel
theorem dX7_tellCode_30 : decode cX7_tellCode 30 = .ok (.istore 4, 2) := by decide +kernel
theorem dX7_tellCode_32 : decode cX7_tellCode 32 = .ok (.iload_n 3, 1) := by decide +kernel
theorem dX7_tellCode_33 : decode cX7_tellCode 33 = .ok (.bipush 17, 2) := by decide +kernel
theorem dX7_tellCode_35 : decode cX7_tellCode 35 = .ok (.if_icmp .lt 37, 3) := by decide +kernel
theorem dX7_tellCode_38 : decode cX7_tellCode 38 = .ok (.iload_n 3, 1) := by decide +kernel
theorem dX7_tellCode_39 : decode cX7_tellCode 39 = .ok (.bipush 22, 2) := by decide +kernel
theorem dX7_tellCode_41 : decode cX7_tellCode 41 = .ok (.if_icmp .gt 31, 3) := by decide +kernel
theorem dX7_tellCode_44 : decode cX7_tellCode 44 = .ok (.iload 4, 2) := by decide +kernel
theorem dX7_tellCode_46 : decode cX7_tellCode 46 = .ok (.ifCond .lt 26, 3) := by decide +kernel
theorem dX7_tellCode_49 : decode cX7_tellCode 49 = .ok (.iload 4, 2) := by decide +kernel
theorem dX7_tellCode_51 : decode cX7_tellCode 51 = .ok (.aload_n 0, 1) := by decide +kernel
theorem dX7_tellCode_52 : decode cX7_tellCode 52 = .ok (.getfield 34, 3) := by decide +kernel
theorem dX7_tellCode_55 : decode cX7_tellCode 55 = .ok (.arraylength, 1) := by decide +kernel
theorem dX7_tellCode_56 : decode cX7_tellCode 56 = .ok (.if_icmp .ge 16, 3) := by decide +kernel
theorem dX7_tellCode_59 : decode cX7_tellCode 59 = .ok (.aload_n 1, 1) := by decide +kernel
theorem dX7_tellCode_60 : decode cX7_tellCode 60 = .ok (.getfield 180, 3) := by decide +kernel
theorem dX7_tellCode_63 : decode cX7_tellCode 63 = .ok (.iload_n 2, 1) := by decide +kernel
theorem dX7_tellCode_64 : decode cX7_tellCode 64 = .ok (.aload_n 0, 1) := by decide +kernel
theorem dX7_tellCode_65 : decode cX7_tellCode 65 = .ok (.getfield 34, 3) := by decide +kernel
theorem dX7_tellCode_68 : decode cX7_tellCode 68 = .ok (.iload 4, 2) := by decide +kernel
theorem dX7_tellCode_70 : decode cX7_tellCode 70 = .ok (.iaload, 1) := by decide +kernel
theorem dX7_tellCode_71 : decode cX7_tellCode 71 = .ok (.iastore, 1) := by decide +kernel
theorem dX7_tellCode_72 : decode cX7_tellCode 72 = .ok (.iinc 2 1, 3) := by decide +kernel
theorem dX7_tellCode_75 : decode cX7_tellCode 75 = .ok (.goto (-73), 3) := by decide +kernel
theorem dX7_tellCode_78 : decode cX7_tellCode 78 = .ok (.return_, 1) := by decide +kernel
theorem dX8_init_0 : decode cX8_init 0 = .ok (.aload_n 0, 1) := by decide +kernel
theorem dX8_init_1 : decode cX8_init 1 = .ok (.invokespecial 1, 3) := by decide +kernel
theorem dX8_init_4 : decode cX8_init 4 = .ok (.aload_n 0, 1) := by decide +kernel
theorem dX8_init_5 : decode cX8_init 5 = .ok (.sipush 401, 3) := by decide +kernel
theorem dX8_init_8 : decode cX8_init 8 = .ok (.newarray .int, 2) := by decide +kernel
theorem dX8_init_10 : decode cX8_init 10 = .ok (.putfield 9, 3) := by decide +kernel
theorem dX8_init_13 : decode cX8_init 13 = .ok (.aload_n 0, 1) := by decide +kernel
theorem dX8_init_14 : decode cX8_init 14 = .ok (.sipush 401, 3) := by decide +kernel
theorem dX8_init_17 : decode cX8_init 17 = .ok (.newarray .long, 2) := by decide +kernel
theorem dX8_init_19 : decode cX8_init 19 = .ok (.putfield 13, 3) := by decide +kernel
theorem dX8_init_22 : decode cX8_init 22 = .ok (.aload_n 0, 1) := by decide +kernel
theorem dX8_init_23 : decode cX8_init 23 = .ok (.sipush 401, 3) := by decide +kernel
theorem dX8_init_26 : decode cX8_init 26 = .ok (.newarray .int, 2) := by decide +kernel
theorem dX8_init_28 : decode cX8_init 28 = .ok (.putfield 17, 3) := by decide +kernel
theorem dX8_init_31 : decode cX8_init 31 = .ok (.aload_n 0, 1) := by decide +kernel
theorem dX8_init_32 : decode cX8_init 32 = .ok (.bipush 28, 2) := by decide +kernel
theorem dX8_init_34 : decode cX8_init 34 = .ok (.newarray .long, 2) := by decide +kernel
theorem dX8_init_36 : decode cX8_init 36 = .ok (.putfield 22, 3) := by decide +kernel
theorem dX8_init_39 : decode cX8_init 39 = .ok (.aload_n 0, 1) := by decide +kernel
theorem dX8_init_40 : decode cX8_init 40 = .ok (.iconst 0, 1) := by decide +kernel
theorem dX8_init_41 : decode cX8_init 41 = .ok (.putfield 25, 3) := by decide +kernel
theorem dX8_init_44 : decode cX8_init 44 = .ok (.aload_n 0, 1) := by decide +kernel
theorem dX8_init_45 : decode cX8_init 45 = .ok (.lconst 0, 1) := by decide +kernel
theorem dX8_init_46 : decode cX8_init 46 = .ok (.putfield 29, 3) := by decide +kernel
theorem dX8_init_49 : decode cX8_init 49 = .ok (.aload_n 0, 1) := by decide +kernel
theorem dX8_init_50 : decode cX8_init 50 = .ok (.iconst 0, 1) := by decide +kernel
theorem dX8_init_51 : decode cX8_init 51 = .ok (.putfield 33, 3) := by decide +kernel
theorem dX8_init_54 : decode cX8_init 54 = .ok (.iconst 0, 1) := by decide +kernel
theorem dX8_init_55 : decode cX8_init 55 = .ok (.istore_n 1, 1) := by decide +kernel
theorem dX8_init_56 : decode cX8_init 56 = .ok (.lconst 0, 1) := by decide +kernel
theorem dX8_init_57 : decode cX8_init 57 = .ok (.lstore_n 2, 1) := by decide +kernel
theorem dX8_init_58 : decode cX8_init 58 = .ok (.iconst 0, 1) := by decide +kernel
theorem dX8_init_59 : decode cX8_init 59 = .ok (.istore 4, 2) := by decide +kernel
theorem dX8_init_61 : decode cX8_init 61 = .ok (.iload 4, 2) := by decide +kernel
theorem dX8_init_63 : decode cX8_init 63 = .ok (.ldc 36, 2) := by decide +kernel
theorem dX8_init_65 : decode cX8_init 65 = .ok (.invokevirtual 38, 3) := by decide +kernel
theorem dX8_init_68 : decode cX8_init 68 = .ok (.if_icmp .ge 62, 3) := by decide +kernel
theorem dX8_init_71 : decode cX8_init 71 = .ok (.ldc 36, 2) := by decide +kernel
theorem dX8_init_73 : decode cX8_init 73 = .ok (.iload 4, 2) := by decide +kernel
theorem dX8_init_75 : decode cX8_init 75 = .ok (.invokevirtual 44, 3) := by decide +kernel
theorem dX8_init_78 : decode cX8_init 78 = .ok (.istore 5, 2) := by decide +kernel
theorem dX8_init_80 : decode cX8_init 80 = .ok (.iload 5, 2) := by decide +kernel
theorem dX8_init_82 : decode cX8_init 82 = .ok (.bipush 32, 2) := by decide +kernel
theorem dX8_init_84 : decode cX8_init 84 = .ok (.if_icmp .eq 19, 3) := by decide +kernel
theorem dX8_init_87 : decode cX8_init 87 = .ok (.lload_n 2, 1) := by decide +kernel
theorem dX8_init_88 : decode cX8_init 88 = .ok (.ldc2_w 48, 3) := by decide +kernel
theorem dX8_init_91 : decode cX8_init 91 = .ok (.lmul, 1) := by decide +kernel
theorem dX8_init_92 : decode cX8_init 92 = .ok (.iload 5, 2) := by decide +kernel
theorem dX8_init_94 : decode cX8_init 94 = .ok (.invokestatic 50, 3) := by decide +kernel
theorem dX8_init_97 : decode cX8_init 97 = .ok (.i2l, 1) := by decide +kernel
theorem dX8_init_98 : decode cX8_init 98 = .ok (.ladd, 1) := by decide +kernel
theorem dX8_init_99 : decode cX8_init 99 = .ok (.lstore_n 2, 1) := by decide +kernel
theorem dX8_init_100 : decode cX8_init 100 = .ok (.goto 24, 3) := by decide +kernel
theorem dX8_init_103 : decode cX8_init 103 = .ok (.iload_n 1, 1) := by decide +kernel
theorem dX8_init_104 : decode cX8_init 104 = .ok (.aload_n 0, 1) := by decide +kernel
theorem dX8_init_105 : decode cX8_init 105 = .ok (.getfield 22, 3) := by decide +kernel
theorem dX8_init_108 : decode cX8_init 108 = .ok (.arraylength, 1) := by decide +kernel
theorem dX8_init_109 : decode cX8_init 109 = .ok (.if_icmp .ge 15, 3) := by decide +kernel
theorem dX8_init_112 : decode cX8_init 112 = .ok (.aload_n 0, 1) := by decide +kernel
theorem dX8_init_113 : decode cX8_init 113 = .ok (.getfield 22, 3) := by decide +kernel
theorem dX8_init_116 : decode cX8_init 116 = .ok (.iload_n 1, 1) := by decide +kernel
theorem dX8_init_117 : decode cX8_init 117 = .ok (.lload_n 2, 1) := by decide +kernel
theorem dX8_init_118 : decode cX8_init 118 = .ok (.lastore, 1) := by decide +kernel
theorem dX8_init_119 : decode cX8_init 119 = .ok (.lconst 0, 1) := by decide +kernel
theorem dX8_init_120 : decode cX8_init 120 = .ok (.lstore_n 2, 1) := by decide +kernel
theorem dX8_init_121 : decode cX8_init 121 = .ok (.iinc 1 1, 3) := by decide +kernel
theorem dX8_init_124 : decode cX8_init 124 = .ok (.iinc 4 1, 3) := by decide +kernel
theorem dX8_init_127 : decode cX8_init 127 = .ok (.goto (-66), 3) := by decide +kernel
theorem dX8_init_130 : decode cX8_init 130 = .ok (.return_, 1) := by decide +kernel
theorem dX8_readAll_0 : decode cX8_readAll 0 = .ok (.aload_n 0, 1) := by decide +kernel
theorem dX8_readAll_1 : decode cX8_readAll 1 = .ok (.iconst 0, 1) := by decide +kernel
theorem dX8_readAll_2 : decode cX8_readAll 2 = .ok (.putfield 25, 3) := by decide +kernel
theorem dX8_readAll_5 : decode cX8_readAll 5 = .ok (.aload_n 0, 1) := by decide +kernel
theorem dX8_readAll_6 : decode cX8_readAll 6 = .ok (.iconst 0, 1) := by decide +kernel
theorem dX8_readAll_7 : decode cX8_readAll 7 = .ok (.putfield 33, 3) := by decide +kernel
theorem dX8_readAll_10 : decode cX8_readAll 10 = .ok (.iconst 1, 1) := by decide +kernel
theorem dX8_readAll_11 : decode cX8_readAll 11 = .ok (.istore_n 2, 1) := by decide +kernel
theorem dX8_readAll_12 : decode cX8_readAll 12 = .ok (.iconst 0, 1) := by decide +kernel
theorem dX8_readAll_13 : decode cX8_readAll 13 = .ok (.istore_n 3, 1) := by decide +kernel
theorem dX8_readAll_14 : decode cX8_readAll 14 = .ok (.iload_n 3, 1) := by decide +kernel
theorem dX8_readAll_15 : decode cX8_readAll 15 = .ok (.sipush 400, 3) := by decide +kernel
theorem dX8_readAll_18 : decode cX8_readAll 18 = .ok (.if_icmp .gt 103, 3) := by decide +kernel
theorem dX8_readAll_21 : decode cX8_readAll 21 = .ok (.iload_n 2, 1) := by decide +kernel
theorem dX8_readAll_22 : decode cX8_readAll 22 = .ok (.ifCond .eq 99, 3) := by decide +kernel
theorem dX8_readAll_25 : decode cX8_readAll 25 = .ok (.aload_n 1, 1) := by decide +kernel
theorem dX8_readAll_26 : decode cX8_readAll 26 = .ok (.aload_n 0, 1) := by decide +kernel
theorem dX8_readAll_27 : decode cX8_readAll 27 = .ok (.getfield 33, 3) := by decide +kernel
theorem dX8_readAll_30 : decode cX8_readAll 30 = .ok (.invokevirtual 54, 3) := by decide +kernel
theorem dX8_readAll_33 : decode cX8_readAll 33 = .ok (.istore 4, 2) := by decide +kernel
theorem dX8_readAll_35 : decode cX8_readAll 35 = .ok (.aload_n 0, 1) := by decide +kernel
theorem dX8_readAll_36 : decode cX8_readAll 36 = .ok (.aload_n 1, 1) := by decide +kernel
theorem dX8_readAll_37 : decode cX8_readAll 37 = .ok (.iload 4, 2) := by decide +kernel
theorem dX8_readAll_39 : decode cX8_readAll 39 = .ok (.invokevirtual 59, 3) := by decide +kernel
theorem dX8_readAll_42 : decode cX8_readAll 42 = .ok (.istore 5, 2) := by decide +kernel
theorem dX8_readAll_44 : decode cX8_readAll 44 = .ok (.iload_n 3, 1) := by decide +kernel
theorem dX8_readAll_45 : decode cX8_readAll 45 = .ok (.sipush 400, 3) := by decide +kernel
theorem dX8_readAll_48 : decode cX8_readAll 48 = .ok (.if_icmp .ne 14, 3) := by decide +kernel
theorem dX8_readAll_51 : decode cX8_readAll 51 = .ok (.iload 5, 2) := by decide +kernel
theorem dX8_readAll_53 : decode cX8_readAll 53 = .ok (.bipush 45, 2) := by decide +kernel
theorem dX8_readAll_55 : decode cX8_readAll 55 = .ok (.if_icmp .eq 7, 3) := by decide +kernel
theorem dX8_readAll_58 : decode cX8_readAll 58 = .ok (.bipush 46, 2) := by decide +kernel
theorem dX8_readAll_60 : decode cX8_readAll 60 = .ok (.istore 5, 2) := by decide +kernel
theorem dX8_readAll_62 : decode cX8_readAll 62 = .ok (.aload_n 0, 1) := by decide +kernel
theorem dX8_readAll_63 : decode cX8_readAll 63 = .ok (.getfield 9, 3) := by decide +kernel
theorem dX8_readAll_66 : decode cX8_readAll 66 = .ok (.iload_n 3, 1) := by decide +kernel
theorem dX8_readAll_67 : decode cX8_readAll 67 = .ok (.iload 5, 2) := by decide +kernel
theorem dX8_readAll_69 : decode cX8_readAll 69 = .ok (.iastore, 1) := by decide +kernel
theorem dX8_readAll_70 : decode cX8_readAll 70 = .ok (.aload_n 0, 1) := by decide +kernel
theorem dX8_readAll_71 : decode cX8_readAll 71 = .ok (.getfield 13, 3) := by decide +kernel
theorem dX8_readAll_74 : decode cX8_readAll 74 = .ok (.iload_n 3, 1) := by decide +kernel
theorem dX8_readAll_75 : decode cX8_readAll 75 = .ok (.aload_n 0, 1) := by decide +kernel
theorem dX8_readAll_76 : decode cX8_readAll 76 = .ok (.getfield 29, 3) := by decide +kernel
theorem dX8_readAll_79 : decode cX8_readAll 79 = .ok (.lastore, 1) := by decide +kernel
theorem dX8_readAll_80 : decode cX8_readAll 80 = .ok (.aload_n 0, 1) := by decide +kernel
theorem dX8_readAll_81 : decode cX8_readAll 81 = .ok (.getfield 17, 3) := by decide +kernel
theorem dX8_readAll_84 : decode cX8_readAll 84 = .ok (.iload_n 3, 1) := by decide +kernel
theorem dX8_readAll_85 : decode cX8_readAll 85 = .ok (.iload 4, 2) := by decide +kernel
theorem dX8_readAll_87 : decode cX8_readAll 87 = .ok (.iastore, 1) := by decide +kernel
theorem dX8_readAll_88 : decode cX8_readAll 88 = .ok (.aload_n 0, 1) := by decide +kernel
theorem dX8_readAll_89 : decode cX8_readAll 89 = .ok (.iload_n 3, 1) := by decide +kernel
theorem dX8_readAll_90 : decode cX8_readAll 90 = .ok (.iconst 1, 1) := by decide +kernel
theorem dX8_readAll_91 : decode cX8_readAll 91 = .ok (.iadd, 1) := by decide +kernel
theorem dX8_readAll_92 : decode cX8_readAll 92 = .ok (.putfield 25, 3) := by decide +kernel
theorem dX8_readAll_95 : decode cX8_readAll 95 = .ok (.iload 5, 2) := by decide +kernel
theorem dX8_readAll_97 : decode cX8_readAll 97 = .ok (.bipush 45, 2) := by decide +kernel
theorem dX8_readAll_99 : decode cX8_readAll 99 = .ok (.if_icmp .eq 14, 3) := by decide +kernel
theorem dX8_readAll_102 : decode cX8_readAll 102 = .ok (.iload 5, 2) := by decide +kernel
theorem dX8_readAll_104 : decode cX8_readAll 104 = .ok (.bipush 46, 2) := by decide +kernel
theorem dX8_readAll_106 : decode cX8_readAll 106 = .ok (.if_icmp .eq 7, 3) := by decide +kernel
theorem dX8_readAll_109 : decode cX8_readAll 109 = .ok (.iconst 1, 1) := by decide +kernel
theorem dX8_readAll_110 : decode cX8_readAll 110 = .ok (.goto 4, 3) := by decide +kernel
theorem dX8_readAll_113 : decode cX8_readAll 113 = .ok (.iconst 0, 1) := by decide +kernel
theorem dX8_readAll_114 : decode cX8_readAll 114 = .ok (.istore_n 2, 1) := by decide +kernel
theorem dX8_readAll_115 : decode cX8_readAll 115 = .ok (.iinc 3 1, 3) := by decide +kernel
theorem dX8_readAll_118 : decode cX8_readAll 118 = .ok (.goto (-104), 3) := by decide +kernel
theorem dX8_readAll_121 : decode cX8_readAll 121 = .ok (.return_, 1) := by decide +kernel
theorem dX8_length_0 : decode cX8_length 0 = .ok (.aload_n 0, 1) := by decide +kernel
theorem dX8_length_1 : decode cX8_length 1 = .ok (.getfield 25, 3) := by decide +kernel
theorem dX8_length_4 : decode cX8_length 4 = .ok (.ireturn, 1) := by decide +kernel
theorem dX8_numberOf_0 : decode cX8_numberOf 0 = .ok (.iload_n 1, 1) := by decide +kernel
theorem dX8_numberOf_1 : decode cX8_numberOf 1 = .ok (.ifCond .lt 11, 3) := by decide +kernel
theorem dX8_numberOf_4 : decode cX8_numberOf 4 = .ok (.iload_n 1, 1) := by decide +kernel
theorem dX8_numberOf_5 : decode cX8_numberOf 5 = .ok (.aload_n 0, 1) := by decide +kernel
theorem dX8_numberOf_6 : decode cX8_numberOf 6 = .ok (.getfield 25, 3) := by decide +kernel
theorem dX8_numberOf_9 : decode cX8_numberOf 9 = .ok (.if_icmp .lt 7, 3) := by decide +kernel
theorem dX8_numberOf_12 : decode cX8_numberOf 12 = .ok (.iconst 0, 1) := by decide +kernel
theorem dX8_numberOf_13 : decode cX8_numberOf 13 = .ok (.goto 10, 3) := by decide +kernel
theorem dX8_numberOf_16 : decode cX8_numberOf 16 = .ok (.aload_n 0, 1) := by decide +kernel
theorem dX8_numberOf_17 : decode cX8_numberOf 17 = .ok (.getfield 13, 3) := by decide +kernel
theorem dX8_numberOf_20 : decode cX8_numberOf 20 = .ok (.iload_n 1, 1) := by decide +kernel
theorem dX8_numberOf_21 : decode cX8_numberOf 21 = .ok (.laload, 1) := by decide +kernel
theorem dX8_numberOf_22 : decode cX8_numberOf 22 = .ok (.l2i, 1) := by decide +kernel
theorem dX8_numberOf_23 : decode cX8_numberOf 23 = .ok (.ireturn, 1) := by decide +kernel
theorem dX8_kindOf_0 : decode cX8_kindOf 0 = .ok (.iload_n 1, 1) := by decide +kernel
theorem dX8_kindOf_1 : decode cX8_kindOf 1 = .ok (.ifCond .lt 11, 3) := by decide +kernel
theorem dX8_kindOf_4 : decode cX8_kindOf 4 = .ok (.iload_n 1, 1) := by decide +kernel
theorem dX8_kindOf_5 : decode cX8_kindOf 5 = .ok (.aload_n 0, 1) := by decide +kernel
theorem dX8_kindOf_6 : decode cX8_kindOf 6 = .ok (.getfield 25, 3) := by decide +kernel
theorem dX8_kindOf_9 : decode cX8_kindOf 9 = .ok (.if_icmp .lt 8, 3) := by decide +kernel
theorem dX8_kindOf_12 : decode cX8_kindOf 12 = .ok (.bipush 46, 2) := by decide +kernel
theorem dX8_kindOf_14 : decode cX8_kindOf 14 = .ok (.goto 9, 3) := by decide +kernel
theorem dX8_kindOf_17 : decode cX8_kindOf 17 = .ok (.aload_n 0, 1) := by decide +kernel
theorem dX8_kindOf_18 : decode cX8_kindOf 18 = .ok (.getfield 9, 3) := by decide +kernel
theorem dX8_kindOf_21 : decode cX8_kindOf 21 = .ok (.iload_n 1, 1) := by decide +kernel
theorem dX8_kindOf_22 : decode cX8_kindOf 22 = .ok (.iaload, 1) := by decide +kernel
theorem dX8_kindOf_23 : decode cX8_kindOf 23 = .ok (.ireturn, 1) := by decide +kernel
theorem dX8_positionOf_0 : decode cX8_positionOf 0 = .ok (.iload_n 1, 1) := by decide +kernel
theorem dX8_positionOf_1 : decode cX8_positionOf 1 = .ok (.ifCond .lt 11, 3) := by decide +kernel
theorem dX8_positionOf_4 : decode cX8_positionOf 4 = .ok (.iload_n 1, 1) := by decide +kernel
theorem dX8_positionOf_5 : decode cX8_positionOf 5 = .ok (.aload_n 0, 1) := by decide +kernel
theorem dX8_positionOf_6 : decode cX8_positionOf 6 = .ok (.getfield 25, 3) := by decide +kernel
theorem dX8_positionOf_9 : decode cX8_positionOf 9 = .ok (.if_icmp .lt 7, 3) := by decide +kernel
theorem dX8_positionOf_12 : decode cX8_positionOf 12 = .ok (.iconst (-1), 1) := by decide +kernel
theorem dX8_positionOf_13 : decode cX8_positionOf 13 = .ok (.goto 9, 3) := by decide +kernel
theorem dX8_positionOf_16 : decode cX8_positionOf 16 = .ok (.aload_n 0, 1) := by decide +kernel
theorem dX8_positionOf_17 : decode cX8_positionOf 17 = .ok (.getfield 17, 3) := by decide +kernel
theorem dX8_positionOf_20 : decode cX8_positionOf 20 = .ok (.iload_n 1, 1) := by decide +kernel
theorem dX8_positionOf_21 : decode cX8_positionOf 21 = .ok (.iaload, 1) := by decide +kernel
theorem dX8_positionOf_22 : decode cX8_positionOf 22 = .ok (.ireturn, 1) := by decide +kernel
theorem dX8_kindOfNext_0 : decode cX8_kindOfNext 0 = .ok (.aload_n 0, 1) := by decide +kernel
theorem dX8_kindOfNext_1 : decode cX8_kindOfNext 1 = .ok (.lconst 0, 1) := by decide +kernel
theorem dX8_kindOfNext_2 : decode cX8_kindOfNext 2 = .ok (.putfield 29, 3) := by decide +kernel
theorem dX8_kindOfNext_5 : decode cX8_kindOfNext 5 = .ok (.aload_n 0, 1) := by decide +kernel
theorem dX8_kindOfNext_6 : decode cX8_kindOfNext 6 = .ok (.iload_n 2, 1) := by decide +kernel
theorem dX8_kindOfNext_7 : decode cX8_kindOfNext 7 = .ok (.putfield 33, 3) := by decide +kernel
theorem dX8_kindOfNext_10 : decode cX8_kindOfNext 10 = .ok (.aload_n 1, 1) := by decide +kernel
theorem dX8_kindOfNext_11 : decode cX8_kindOfNext 11 = .ok (.iload_n 2, 1) := by decide +kernel
theorem dX8_kindOfNext_12 : decode cX8_kindOfNext 12 = .ok (.invokevirtual 63, 3) := by decide +kernel
theorem dX8_kindOfNext_15 : decode cX8_kindOfNext 15 = .ok (.istore_n 3, 1) := by decide +kernel
theorem dX8_kindOfNext_16 : decode cX8_kindOfNext 16 = .ok (.iload_n 3, 1) := by decide +kernel
theorem dX8_kindOfNext_17 : decode cX8_kindOfNext 17 = .ok (.ifCond .ge 6, 3) := by decide +kernel
theorem dX8_kindOfNext_20 : decode cX8_kindOfNext 20 = .ok (.bipush 45, 2) := by decide +kernel
theorem dX8_kindOfNext_22 : decode cX8_kindOfNext 22 = .ok (.ireturn, 1) := by decide +kernel
theorem dX8_kindOfNext_23 : decode cX8_kindOfNext 23 = .ok (.iload_n 3, 1) := by decide +kernel
theorem dX8_kindOfNext_24 : decode cX8_kindOfNext 24 = .ok (.invokestatic 66, 3) := by decide +kernel
theorem dX8_kindOfNext_27 : decode cX8_kindOfNext 27 = .ok (.ifCond .eq 10, 3) := by decide +kernel
theorem dX8_kindOfNext_30 : decode cX8_kindOfNext 30 = .ok (.aload_n 0, 1) := by decide +kernel
theorem dX8_kindOfNext_31 : decode cX8_kindOfNext 31 = .ok (.aload_n 1, 1) := by decide +kernel
theorem dX8_kindOfNext_32 : decode cX8_kindOfNext 32 = .ok (.iload_n 2, 1) := by decide +kernel
theorem dX8_kindOfNext_33 : decode cX8_kindOfNext 33 = .ok (.invokevirtual 70, 3) := by decide +kernel
theorem dX8_kindOfNext_36 : decode cX8_kindOfNext 36 = .ok (.ireturn, 1) := by decide +kernel
theorem dX8_kindOfNext_37 : decode cX8_kindOfNext 37 = .ok (.iload_n 3, 1) := by decide +kernel
theorem dX8_kindOfNext_38 : decode cX8_kindOfNext 38 = .ok (.invokestatic 73, 3) := by decide +kernel
theorem dX8_kindOfNext_41 : decode cX8_kindOfNext 41 = .ok (.ifCond .eq 12, 3) := by decide +kernel
theorem dX8_kindOfNext_44 : decode cX8_kindOfNext 44 = .ok (.aload_n 0, 1) := by decide +kernel
theorem dX8_kindOfNext_45 : decode cX8_kindOfNext 45 = .ok (.aload_n 1, 1) := by decide +kernel
theorem dX8_kindOfNext_46 : decode cX8_kindOfNext 46 = .ok (.iload_n 2, 1) := by decide +kernel
theorem dX8_kindOfNext_47 : decode cX8_kindOfNext 47 = .ok (.invokevirtual 76, 3) := by decide +kernel
theorem dX8_kindOfNext_50 : decode cX8_kindOfNext 50 = .ok (.goto 10, 3) := by decide +kernel
theorem dX8_kindOfNext_53 : decode cX8_kindOfNext 53 = .ok (.aload_n 0, 1) := by decide +kernel
theorem dX8_kindOfNext_54 : decode cX8_kindOfNext 54 = .ok (.aload_n 1, 1) := by decide +kernel
theorem dX8_kindOfNext_55 : decode cX8_kindOfNext 55 = .ok (.iload_n 2, 1) := by decide +kernel
theorem dX8_kindOfNext_56 : decode cX8_kindOfNext 56 = .ok (.iload_n 3, 1) := by decide +kernel
theorem dX8_kindOfNext_57 : decode cX8_kindOfNext 57 = .ok (.invokevirtual 79, 3) := by decide +kernel
theorem dX8_kindOfNext_60 : decode cX8_kindOfNext 60 = .ok (.ireturn, 1) := by decide +kernel
theorem dX8_kindOfWord_0 : decode cX8_kindOfWord 0 = .ok (.iconst 0, 1) := by decide +kernel
theorem dX8_kindOfWord_1 : decode cX8_kindOfWord 1 = .ok (.istore_n 3, 1) := by decide +kernel
theorem dX8_kindOfWord_2 : decode cX8_kindOfWord 2 = .ok (.aload_n 1, 1) := by decide +kernel
theorem dX8_kindOfWord_3 : decode cX8_kindOfWord 3 = .ok (.iload_n 2, 1) := by decide +kernel
theorem dX8_kindOfWord_4 : decode cX8_kindOfWord 4 = .ok (.invokevirtual 63, 3) := by decide +kernel
theorem dX8_kindOfWord_7 : decode cX8_kindOfWord 7 = .ok (.istore 4, 2) := by decide +kernel
theorem dX8_kindOfWord_9 : decode cX8_kindOfWord 9 = .ok (.iload_n 3, 1) := by decide +kernel
theorem dX8_kindOfWord_10 : decode cX8_kindOfWord 10 = .ok (.sipush 2000, 3) := by decide +kernel
theorem dX8_kindOfWord_13 : decode cX8_kindOfWord 13 = .ok (.if_icmp .ge 53, 3) := by decide +kernel
theorem dX8_kindOfWord_16 : decode cX8_kindOfWord 16 = .ok (.iload 4, 2) := by decide +kernel
theorem dX8_kindOfWord_18 : decode cX8_kindOfWord 18 = .ok (.invokestatic 66, 3) := by decide +kernel
theorem dX8_kindOfWord_21 : decode cX8_kindOfWord 21 = .ok (.ifCond .ne 11, 3) := by decide +kernel
theorem dX8_kindOfWord_24 : decode cX8_kindOfWord 24 = .ok (.iload 4, 2) := by decide +kernel
theorem dX8_kindOfWord_26 : decode cX8_kindOfWord 26 = .ok (.invokestatic 73, 3) := by decide +kernel
theorem dX8_kindOfWord_29 : decode cX8_kindOfWord 29 = .ok (.ifCond .eq 37, 3) := by decide +kernel
theorem dX8_kindOfWord_32 : decode cX8_kindOfWord 32 = .ok (.aload_n 0, 1) := by decide +kernel
theorem dX8_kindOfWord_33 : decode cX8_kindOfWord 33 = .ok (.aload_n 0, 1) := by decide +kernel
theorem dX8_kindOfWord_34 : decode cX8_kindOfWord 34 = .ok (.getfield 29, 3) := by decide +kernel
theorem dX8_kindOfWord_37 : decode cX8_kindOfWord 37 = .ok (.ldc2_w 48, 3) := by decide +kernel
theorem dX8_kindOfWord_40 : decode cX8_kindOfWord 40 = .ok (.lmul, 1) := by decide +kernel
theorem dX8_kindOfWord_41 : decode cX8_kindOfWord 41 = .ok (.iload 4, 2) := by decide +kernel
theorem dX8_kindOfWord_43 : decode cX8_kindOfWord 43 = .ok (.invokestatic 50, 3) := by decide +kernel
theorem dX8_kindOfWord_46 : decode cX8_kindOfWord 46 = .ok (.i2l, 1) := by decide +kernel
theorem dX8_kindOfWord_47 : decode cX8_kindOfWord 47 = .ok (.ladd, 1) := by decide +kernel
theorem dX8_kindOfWord_48 : decode cX8_kindOfWord 48 = .ok (.putfield 29, 3) := by decide +kernel
theorem dX8_kindOfWord_51 : decode cX8_kindOfWord 51 = .ok (.iinc 3 1, 3) := by decide +kernel
theorem dX8_kindOfWord_54 : decode cX8_kindOfWord 54 = .ok (.aload_n 1, 1) := by decide +kernel
theorem dX8_kindOfWord_55 : decode cX8_kindOfWord 55 = .ok (.iload_n 2, 1) := by decide +kernel
theorem dX8_kindOfWord_56 : decode cX8_kindOfWord 56 = .ok (.iload_n 3, 1) := by decide +kernel
theorem dX8_kindOfWord_57 : decode cX8_kindOfWord 57 = .ok (.iadd, 1) := by decide +kernel
theorem dX8_kindOfWord_58 : decode cX8_kindOfWord 58 = .ok (.invokevirtual 63, 3) := by decide +kernel
theorem dX8_kindOfWord_61 : decode cX8_kindOfWord 61 = .ok (.istore 4, 2) := by decide +kernel
theorem dX8_kindOfWord_63 : decode cX8_kindOfWord 63 = .ok (.goto (-54), 3) := by decide +kernel
theorem dX8_kindOfWord_66 : decode cX8_kindOfWord 66 = .ok (.aload_n 0, 1) := by decide +kernel
theorem dX8_kindOfWord_67 : decode cX8_kindOfWord 67 = .ok (.iload_n 2, 1) := by decide +kernel
theorem dX8_kindOfWord_68 : decode cX8_kindOfWord 68 = .ok (.iload_n 3, 1) := by decide +kernel
theorem dX8_kindOfWord_69 : decode cX8_kindOfWord 69 = .ok (.iadd, 1) := by decide +kernel
theorem dX8_kindOfWord_70 : decode cX8_kindOfWord 70 = .ok (.putfield 33, 3) := by decide +kernel
theorem dX8_kindOfWord_73 : decode cX8_kindOfWord 73 = .ok (.iload_n 3, 1) := by decide +kernel
theorem dX8_kindOfWord_74 : decode cX8_kindOfWord 74 = .ok (.bipush 10, 2) := by decide +kernel
theorem dX8_kindOfWord_76 : decode cX8_kindOfWord 76 = .ok (.if_icmp .le 6, 3) := by decide +kernel
theorem dX8_kindOfWord_79 : decode cX8_kindOfWord 79 = .ok (.bipush 46, 2) := by decide +kernel
theorem dX8_kindOfWord_81 : decode cX8_kindOfWord 81 = .ok (.ireturn, 1) := by decide +kernel
theorem dX8_kindOfWord_82 : decode cX8_kindOfWord 82 = .ok (.iconst 0, 1) := by decide +kernel
theorem dX8_kindOfWord_83 : decode cX8_kindOfWord 83 = .ok (.istore 5, 2) := by decide +kernel
theorem dX8_kindOfWord_85 : decode cX8_kindOfWord 85 = .ok (.iload 5, 2) := by decide +kernel
theorem dX8_kindOfWord_87 : decode cX8_kindOfWord 87 = .ok (.aload_n 0, 1) := by decide +kernel
theorem dX8_kindOfWord_88 : decode cX8_kindOfWord 88 = .ok (.getfield 22, 3) := by decide +kernel
theorem dX8_kindOfWord_91 : decode cX8_kindOfWord 91 = .ok (.arraylength, 1) := by decide +kernel
theorem dX8_kindOfWord_92 : decode cX8_kindOfWord 92 = .ok (.if_icmp .ge 27, 3) := by decide +kernel
theorem dX8_kindOfWord_95 : decode cX8_kindOfWord 95 = .ok (.aload_n 0, 1) := by decide +kernel
theorem dX8_kindOfWord_96 : decode cX8_kindOfWord 96 = .ok (.getfield 22, 3) := by decide +kernel
theorem dX8_kindOfWord_99 : decode cX8_kindOfWord 99 = .ok (.iload 5, 2) := by decide +kernel
theorem dX8_kindOfWord_101 : decode cX8_kindOfWord 101 = .ok (.laload, 1) := by decide +kernel
theorem dX8_kindOfWord_102 : decode cX8_kindOfWord 102 = .ok (.aload_n 0, 1) := by decide +kernel
theorem dX8_kindOfWord_103 : decode cX8_kindOfWord 103 = .ok (.getfield 29, 3) := by decide +kernel
theorem dX8_kindOfWord_106 : decode cX8_kindOfWord 106 = .ok (.lcmp, 1) := by decide +kernel
theorem dX8_kindOfWord_107 : decode cX8_kindOfWord 107 = .ok (.ifCond .ne 6, 3) := by decide +kernel
theorem dX8_kindOfWord_110 : decode cX8_kindOfWord 110 = .ok (.iload 5, 2) := by decide +kernel
theorem dX8_kindOfWord_112 : decode cX8_kindOfWord 112 = .ok (.ireturn, 1) := by decide +kernel
theorem dX8_kindOfWord_113 : decode cX8_kindOfWord 113 = .ok (.iinc 5 1, 3) := by decide +kernel
theorem dX8_kindOfWord_116 : decode cX8_kindOfWord 116 = .ok (.goto (-31), 3) := by decide +kernel
theorem dX8_kindOfWord_119 : decode cX8_kindOfWord 119 = .ok (.bipush 28, 2) := by decide +kernel
theorem dX8_kindOfWord_121 : decode cX8_kindOfWord 121 = .ok (.ireturn, 1) := by decide +kernel
theorem dX8_kindOfNumber_0 : decode cX8_kindOfNumber 0 = .ok (.iconst 0, 1) := by decide +kernel
theorem dX8_kindOfNumber_1 : decode cX8_kindOfNumber 1 = .ok (.istore_n 3, 1) := by decide +kernel
theorem dX8_kindOfNumber_2 : decode cX8_kindOfNumber 2 = .ok (.aload_n 1, 1) := by decide +kernel
theorem dX8_kindOfNumber_3 : decode cX8_kindOfNumber 3 = .ok (.iload_n 2, 1) := by decide +kernel
theorem dX8_kindOfNumber_4 : decode cX8_kindOfNumber 4 = .ok (.invokevirtual 63, 3) := by decide +kernel
theorem dX8_kindOfNumber_7 : decode cX8_kindOfNumber 7 = .ok (.istore 4, 2) := by decide +kernel
theorem dX8_kindOfNumber_9 : decode cX8_kindOfNumber 9 = .ok (.iload_n 3, 1) := by decide +kernel
theorem dX8_kindOfNumber_10 : decode cX8_kindOfNumber 10 = .ok (.sipush 2000, 3) := by decide +kernel
theorem dX8_kindOfNumber_13 : decode cX8_kindOfNumber 13 = .ok (.if_icmp .ge 46, 3) := by decide +kernel
theorem dX8_kindOfNumber_16 : decode cX8_kindOfNumber 16 = .ok (.iload 4, 2) := by decide +kernel
theorem dX8_kindOfNumber_18 : decode cX8_kindOfNumber 18 = .ok (.invokestatic 73, 3) := by decide +kernel
theorem dX8_kindOfNumber_21 : decode cX8_kindOfNumber 21 = .ok (.ifCond .eq 38, 3) := by decide +kernel
theorem dX8_kindOfNumber_24 : decode cX8_kindOfNumber 24 = .ok (.aload_n 0, 1) := by decide +kernel
theorem dX8_kindOfNumber_25 : decode cX8_kindOfNumber 25 = .ok (.aload_n 0, 1) := by decide +kernel
theorem dX8_kindOfNumber_26 : decode cX8_kindOfNumber 26 = .ok (.getfield 29, 3) := by decide +kernel
theorem dX8_kindOfNumber_29 : decode cX8_kindOfNumber 29 = .ok (.ldc2_w 83, 3) := by decide +kernel
theorem dX8_kindOfNumber_32 : decode cX8_kindOfNumber 32 = .ok (.lmul, 1) := by decide +kernel
theorem dX8_kindOfNumber_33 : decode cX8_kindOfNumber 33 = .ok (.iload 4, 2) := by decide +kernel
theorem dX8_kindOfNumber_35 : decode cX8_kindOfNumber 35 = .ok (.i2l, 1) := by decide +kernel
theorem dX8_kindOfNumber_36 : decode cX8_kindOfNumber 36 = .ok (.ladd, 1) := by decide +kernel
theorem dX8_kindOfNumber_37 : decode cX8_kindOfNumber 37 = .ok (.ldc2_w 85, 3) := by decide +kernel
theorem dX8_kindOfNumber_40 : decode cX8_kindOfNumber 40 = .ok (.lsub, 1) := by decide +kernel
theorem dX8_kindOfNumber_41 : decode cX8_kindOfNumber 41 = .ok (.putfield 29, 3) := by decide +kernel
theorem dX8_kindOfNumber_44 : decode cX8_kindOfNumber 44 = .ok (.iinc 3 1, 3) := by decide +kernel
theorem dX8_kindOfNumber_47 : decode cX8_kindOfNumber 47 = .ok (.aload_n 1, 1) := by decide +kernel
theorem dX8_kindOfNumber_48 : decode cX8_kindOfNumber 48 = .ok (.iload_n 2, 1) := by decide +kernel
theorem dX8_kindOfNumber_49 : decode cX8_kindOfNumber 49 = .ok (.iload_n 3, 1) := by decide +kernel
theorem dX8_kindOfNumber_50 : decode cX8_kindOfNumber 50 = .ok (.iadd, 1) := by decide +kernel
theorem dX8_kindOfNumber_51 : decode cX8_kindOfNumber 51 = .ok (.invokevirtual 63, 3) := by decide +kernel
theorem dX8_kindOfNumber_54 : decode cX8_kindOfNumber 54 = .ok (.istore 4, 2) := by decide +kernel
theorem dX8_kindOfNumber_56 : decode cX8_kindOfNumber 56 = .ok (.goto (-47), 3) := by decide +kernel
theorem dX8_kindOfNumber_59 : decode cX8_kindOfNumber 59 = .ok (.aload_n 0, 1) := by decide +kernel
theorem dX8_kindOfNumber_60 : decode cX8_kindOfNumber 60 = .ok (.iload_n 2, 1) := by decide +kernel
theorem dX8_kindOfNumber_61 : decode cX8_kindOfNumber 61 = .ok (.iload_n 3, 1) := by decide +kernel
theorem dX8_kindOfNumber_62 : decode cX8_kindOfNumber 62 = .ok (.iadd, 1) := by decide +kernel
theorem dX8_kindOfNumber_63 : decode cX8_kindOfNumber 63 = .ok (.putfield 33, 3) := by decide +kernel
theorem dX8_kindOfNumber_66 : decode cX8_kindOfNumber 66 = .ok (.iload_n 3, 1) := by decide +kernel
theorem dX8_kindOfNumber_67 : decode cX8_kindOfNumber 67 = .ok (.bipush 6, 2) := by decide +kernel
theorem dX8_kindOfNumber_69 : decode cX8_kindOfNumber 69 = .ok (.if_icmp .le 8, 3) := by decide +kernel
theorem dX8_kindOfNumber_72 : decode cX8_kindOfNumber 72 = .ok (.bipush 46, 2) := by decide +kernel
theorem dX8_kindOfNumber_74 : decode cX8_kindOfNumber 74 = .ok (.goto 5, 3) := by decide +kernel
theorem dX8_kindOfNumber_77 : decode cX8_kindOfNumber 77 = .ok (.bipush 29, 2) := by decide +kernel
theorem dX8_kindOfNumber_79 : decode cX8_kindOfNumber 79 = .ok (.ireturn, 1) := by decide +kernel
theorem dX8_kindOfSymbol_0 : decode cX8_kindOfSymbol 0 = .ok (.iload_n 3, 1) := by decide +kernel
theorem dX8_kindOfSymbol_1 : decode cX8_kindOfSymbol 1 = .ok (.bipush 60, 2) := by decide +kernel
theorem dX8_kindOfSymbol_3 : decode cX8_kindOfSymbol 3 = .ok (.if_icmp .eq 9, 3) := by decide +kernel
theorem dX8_kindOfSymbol_6 : decode cX8_kindOfSymbol 6 = .ok (.iload_n 3, 1) := by decide +kernel
theorem dX8_kindOfSymbol_7 : decode cX8_kindOfSymbol 7 = .ok (.bipush 62, 2) := by decide +kernel
theorem dX8_kindOfSymbol_9 : decode cX8_kindOfSymbol 9 = .ok (.if_icmp .ne 36, 3) := by decide +kernel
theorem dX8_kindOfSymbol_12 : decode cX8_kindOfSymbol 12 = .ok (.aload_n 1, 1) := by decide +kernel
theorem dX8_kindOfSymbol_13 : decode cX8_kindOfSymbol 13 = .ok (.iload_n 2, 1) := by decide +kernel
theorem dX8_kindOfSymbol_14 : decode cX8_kindOfSymbol 14 = .ok (.iconst 1, 1) := by decide +kernel
theorem dX8_kindOfSymbol_15 : decode cX8_kindOfSymbol 15 = .ok (.iadd, 1) := by decide +kernel
theorem dX8_kindOfSymbol_16 : decode cX8_kindOfSymbol 16 = .ok (.invokevirtual 63, 3) := by decide +kernel
theorem dX8_kindOfSymbol_19 : decode cX8_kindOfSymbol 19 = .ok (.bipush 61, 2) := by decide +kernel
theorem dX8_kindOfSymbol_21 : decode cX8_kindOfSymbol 21 = .ok (.if_icmp .ne 24, 3) := by decide +kernel
theorem dX8_kindOfSymbol_24 : decode cX8_kindOfSymbol 24 = .ok (.aload_n 0, 1) := by decide +kernel
theorem dX8_kindOfSymbol_25 : decode cX8_kindOfSymbol 25 = .ok (.iload_n 2, 1) := by decide +kernel
theorem dX8_kindOfSymbol_26 : decode cX8_kindOfSymbol 26 = .ok (.iconst 2, 1) := by decide +kernel
theorem dX8_kindOfSymbol_27 : decode cX8_kindOfSymbol 27 = .ok (.iadd, 1) := by decide +kernel
theorem dX8_kindOfSymbol_28 : decode cX8_kindOfSymbol 28 = .ok (.putfield 33, 3) := by decide +kernel
theorem dX8_kindOfSymbol_31 : decode cX8_kindOfSymbol 31 = .ok (.iload_n 3, 1) := by decide +kernel
theorem dX8_kindOfSymbol_32 : decode cX8_kindOfSymbol 32 = .ok (.bipush 60, 2) := by decide +kernel
theorem dX8_kindOfSymbol_34 : decode cX8_kindOfSymbol 34 = .ok (.if_icmp .ne 8, 3) := by decide +kernel
theorem dX8_kindOfSymbol_37 : decode cX8_kindOfSymbol 37 = .ok (.bipush 43, 2) := by decide +kernel
theorem dX8_kindOfSymbol_39 : decode cX8_kindOfSymbol 39 = .ok (.goto 5, 3) := by decide +kernel
theorem dX8_kindOfSymbol_42 : decode cX8_kindOfSymbol 42 = .ok (.bipush 44, 2) := by decide +kernel
theorem dX8_kindOfSymbol_44 : decode cX8_kindOfSymbol 44 = .ok (.ireturn, 1) := by decide +kernel
theorem dX8_kindOfSymbol_45 : decode cX8_kindOfSymbol 45 = .ok (.aload_n 0, 1) := by decide +kernel
theorem dX8_kindOfSymbol_46 : decode cX8_kindOfSymbol 46 = .ok (.iload_n 2, 1) := by decide +kernel
theorem dX8_kindOfSymbol_47 : decode cX8_kindOfSymbol 47 = .ok (.iconst 1, 1) := by decide +kernel
theorem dX8_kindOfSymbol_48 : decode cX8_kindOfSymbol 48 = .ok (.iadd, 1) := by decide +kernel
theorem dX8_kindOfSymbol_49 : decode cX8_kindOfSymbol 49 = .ok (.putfield 33, 3) := by decide +kernel
theorem dX8_kindOfSymbol_52 : decode cX8_kindOfSymbol 52 = .ok (.ldc 87, 2) := by decide +kernel
theorem dX8_kindOfSymbol_54 : decode cX8_kindOfSymbol 54 = .ok (.iload_n 3, 1) := by decide +kernel
theorem dX8_kindOfSymbol_55 : decode cX8_kindOfSymbol 55 = .ok (.i2c, 1) := by decide +kernel
theorem dX8_kindOfSymbol_56 : decode cX8_kindOfSymbol 56 = .ok (.invokevirtual 89, 3) := by decide +kernel
theorem dX8_kindOfSymbol_59 : decode cX8_kindOfSymbol 59 = .ok (.istore 4, 2) := by decide +kernel
theorem dX8_kindOfSymbol_61 : decode cX8_kindOfSymbol 61 = .ok (.iload 4, 2) := by decide +kernel
theorem dX8_kindOfSymbol_63 : decode cX8_kindOfSymbol 63 = .ok (.ifCond .ge 8, 3) := by decide +kernel
theorem dX8_kindOfSymbol_66 : decode cX8_kindOfSymbol 66 = .ok (.bipush 46, 2) := by decide +kernel
theorem dX8_kindOfSymbol_68 : decode cX8_kindOfSymbol 68 = .ok (.goto 8, 3) := by decide +kernel
theorem dX8_kindOfSymbol_71 : decode cX8_kindOfSymbol 71 = .ok (.bipush 30, 2) := by decide +kernel
theorem dX8_kindOfSymbol_73 : decode cX8_kindOfSymbol 73 = .ok (.iload 4, 2) := by decide +kernel
theorem dX8_kindOfSymbol_75 : decode cX8_kindOfSymbol 75 = .ok (.iadd, 1) := by decide +kernel
theorem dX8_kindOfSymbol_76 : decode cX8_kindOfSymbol 76 = .ok (.ireturn, 1) := by decide +kernel
theorem dX8_isLetter_0 : decode cX8_isLetter 0 = .ok (.iload_n 0, 1) := by decide +kernel
theorem dX8_isLetter_1 : decode cX8_isLetter 1 = .ok (.bipush 97, 2) := by decide +kernel
theorem dX8_isLetter_3 : decode cX8_isLetter 3 = .ok (.if_icmp .lt 13, 3) := by decide +kernel
theorem dX8_isLetter_6 : decode cX8_isLetter 6 = .ok (.iload_n 0, 1) := by decide +kernel
theorem dX8_isLetter_7 : decode cX8_isLetter 7 = .ok (.bipush 122, 2) := by decide +kernel
theorem dX8_isLetter_9 : decode cX8_isLetter 9 = .ok (.if_icmp .gt 7, 3) := by decide +kernel
theorem dX8_isLetter_12 : decode cX8_isLetter 12 = .ok (.iconst 1, 1) := by decide +kernel
theorem dX8_isLetter_13 : decode cX8_isLetter 13 = .ok (.goto 4, 3) := by decide +kernel
theorem dX8_isLetter_16 : decode cX8_isLetter 16 = .ok (.iconst 0, 1) := by decide +kernel
theorem dX8_isLetter_17 : decode cX8_isLetter 17 = .ok (.ireturn, 1) := by decide +kernel
theorem dX8_isDigit_0 : decode cX8_isDigit 0 = .ok (.iload_n 0, 1) := by decide +kernel
theorem dX8_isDigit_1 : decode cX8_isDigit 1 = .ok (.bipush 48, 2) := by decide +kernel
theorem dX8_isDigit_3 : decode cX8_isDigit 3 = .ok (.if_icmp .lt 13, 3) := by decide +kernel
theorem dX8_isDigit_6 : decode cX8_isDigit 6 = .ok (.iload_n 0, 1) := by decide +kernel
theorem dX8_isDigit_7 : decode cX8_isDigit 7 = .ok (.bipush 57, 2) := by decide +kernel
theorem dX8_isDigit_9 : decode cX8_isDigit 9 = .ok (.if_icmp .gt 7, 3) := by decide +kernel
theorem dX8_isDigit_12 : decode cX8_isDigit 12 = .ok (.iconst 1, 1) := by decide +kernel
theorem dX8_isDigit_13 : decode cX8_isDigit 13 = .ok (.goto 4, 3) := by decide +kernel
theorem dX8_isDigit_16 : decode cX8_isDigit 16 = .ok (.iconst 0, 1) := by decide +kernel
theorem dX8_isDigit_17 : decode cX8_isDigit 17 = .ok (.ireturn, 1) := by decide +kernel
theorem dX8_numberOfSign_0 : decode cX8_numberOfSign 0 = .ok (.iload_n 0, 1) := by decide +kernel
theorem dX8_numberOfSign_1 : decode cX8_numberOfSign 1 = .ok (.invokestatic 66, 3) := by decide +kernel
theorem dX8_numberOfSign_4 : decode cX8_numberOfSign 4 = .ok (.ifCond .eq 12, 3) := by decide +kernel
theorem dX8_numberOfSign_7 : decode cX8_numberOfSign 7 = .ok (.iload_n 0, 1) := by decide +kernel
theorem dX8_numberOfSign_8 : decode cX8_numberOfSign 8 = .ok (.bipush 97, 2) := by decide +kernel
theorem dX8_numberOfSign_10 : decode cX8_numberOfSign 10 = .ok (.isub, 1) := by decide +kernel
theorem dX8_numberOfSign_11 : decode cX8_numberOfSign 11 = .ok (.iconst 1, 1) := by decide +kernel
theorem dX8_numberOfSign_12 : decode cX8_numberOfSign 12 = .ok (.iadd, 1) := by decide +kernel
theorem dX8_numberOfSign_13 : decode cX8_numberOfSign 13 = .ok (.goto 10, 3) := by decide +kernel
theorem dX8_numberOfSign_16 : decode cX8_numberOfSign 16 = .ok (.iload_n 0, 1) := by decide +kernel
theorem dX8_numberOfSign_17 : decode cX8_numberOfSign 17 = .ok (.bipush 48, 2) := by decide +kernel
theorem dX8_numberOfSign_19 : decode cX8_numberOfSign 19 = .ok (.isub, 1) := by decide +kernel
theorem dX8_numberOfSign_20 : decode cX8_numberOfSign 20 = .ok (.bipush 27, 2) := by decide +kernel
theorem dX8_numberOfSign_22 : decode cX8_numberOfSign 22 = .ok (.iadd, 1) := by decide +kernel
theorem dX8_numberOfSign_23 : decode cX8_numberOfSign 23 = .ok (.ireturn, 1) := by decide +kernel
theorem dX9_init_0 : decode cX9_init 0 = .ok (.aload_n 0, 1) := by decide +kernel
theorem dX9_init_1 : decode cX9_init 1 = .ok (.invokespecial 1, 3) := by decide +kernel
theorem dX9_init_4 : decode cX9_init 4 = .ok (.aload_n 0, 1) := by decide +kernel
theorem dX9_init_5 : decode cX9_init 5 = .ok (.iconst 0, 1) := by decide +kernel
theorem dX9_init_6 : decode cX9_init 6 = .ok (.putfield 7, 3) := by decide +kernel
theorem dX9_init_9 : decode cX9_init 9 = .ok (.aload_n 0, 1) := by decide +kernel
theorem dX9_init_10 : decode cX9_init 10 = .ok (.iconst 0, 1) := by decide +kernel
theorem dX9_init_11 : decode cX9_init 11 = .ok (.putfield 13, 3) := by decide +kernel
theorem dX9_init_14 : decode cX9_init 14 = .ok (.aload_n 0, 1) := by decide +kernel
theorem dX9_init_15 : decode cX9_init 15 = .ok (.iconst 0, 1) := by decide +kernel
theorem dX9_init_16 : decode cX9_init 16 = .ok (.putfield 16, 3) := by decide +kernel
theorem dX9_init_19 : decode cX9_init 19 = .ok (.aload_n 0, 1) := by decide +kernel
theorem dX9_init_20 : decode cX9_init 20 = .ok (.iconst 0, 1) := by decide +kernel
theorem dX9_init_21 : decode cX9_init 21 = .ok (.putfield 19, 3) := by decide +kernel
theorem dX9_init_24 : decode cX9_init 24 = .ok (.aload_n 0, 1) := by decide +kernel
theorem dX9_init_25 : decode cX9_init 25 = .ok (.iconst 0, 1) := by decide +kernel
theorem dX9_init_26 : decode cX9_init 26 = .ok (.putfield 22, 3) := by decide +kernel
theorem dX9_init_29 : decode cX9_init 29 = .ok (.aload_n 0, 1) := by decide +kernel
theorem dX9_init_30 : decode cX9_init 30 = .ok (.bipush 6, 2) := by decide +kernel
theorem dX9_init_32 : decode cX9_init 32 = .ok (.newarray .int, 2) := by decide +kernel
theorem dX9_init_34 : decode cX9_init 34 = .ok (.putfield 25, 3) := by decide +kernel
theorem dX9_init_37 : decode cX9_init 37 = .ok (.aload_n 0, 1) := by decide +kernel
theorem dX9_init_38 : decode cX9_init 38 = .ok (.bipush 16, 2) := by decide +kernel
theorem dX9_init_40 : decode cX9_init 40 = .ok (.newarray .int, 2) := by decide +kernel
theorem dX9_init_42 : decode cX9_init 42 = .ok (.putfield 29, 3) := by decide +kernel
theorem dX9_init_45 : decode cX9_init 45 = .ok (.aload_n 0, 1) := by decide +kernel
theorem dX9_init_46 : decode cX9_init 46 = .ok (.bipush 16, 2) := by decide +kernel
theorem dX9_init_48 : decode cX9_init 48 = .ok (.newarray .int, 2) := by decide +kernel
theorem dX9_init_50 : decode cX9_init 50 = .ok (.putfield 32, 3) := by decide +kernel
theorem dX9_init_53 : decode cX9_init 53 = .ok (.aload_n 0, 1) := by decide +kernel
theorem dX9_init_54 : decode cX9_init 54 = .ok (.bipush 16, 2) := by decide +kernel
theorem dX9_init_56 : decode cX9_init 56 = .ok (.newarray .int, 2) := by decide +kernel
theorem dX9_init_58 : decode cX9_init 58 = .ok (.putfield 35, 3) := by decide +kernel
theorem dX9_init_61 : decode cX9_init 61 = .ok (.aload_n 0, 1) := by decide +kernel
theorem dX9_init_62 : decode cX9_init 62 = .ok (.bipush 6, 2) := by decide +kernel
theorem dX9_init_64 : decode cX9_init 64 = .ok (.newarray .int, 2) := by decide +kernel
theorem dX9_init_66 : decode cX9_init 66 = .ok (.putfield 38, 3) := by decide +kernel
theorem dX9_init_69 : decode cX9_init 69 = .ok (.aload_n 0, 1) := by decide +kernel
theorem dX9_init_70 : decode cX9_init 70 = .ok (.bipush 6, 2) := by decide +kernel
theorem dX9_init_72 : decode cX9_init 72 = .ok (.bipush 8, 2) := by decide +kernel
theorem dX9_init_74 : decode cX9_init 74 = .ok (.multianewarray 41 2, 4) := by decide +kernel
theorem dX9_init_78 : decode cX9_init 78 = .ok (.putfield 43, 3) := by decide +kernel
theorem dX9_init_81 : decode cX9_init 81 = .ok (.aload_n 0, 1) := by decide +kernel
theorem dX9_init_82 : decode cX9_init 82 = .ok (.iconst 5, 1) := by decide +kernel
theorem dX9_init_83 : decode cX9_init 83 = .ok (.newarray .int, 2) := by decide +kernel
theorem dX9_init_85 : decode cX9_init 85 = .ok (.putfield 46, 3) := by decide +kernel
theorem dX9_init_88 : decode cX9_init 88 = .ok (.aload_n 0, 1) := by decide +kernel
theorem dX9_init_89 : decode cX9_init 89 = .ok (.bipush 20, 2) := by decide +kernel
theorem dX9_init_91 : decode cX9_init 91 = .ok (.newarray .boolean, 2) := by decide +kernel
theorem dX9_init_93 : decode cX9_init 93 = .ok (.putfield 49, 3) := by decide +kernel
theorem dX9_init_96 : decode cX9_init 96 = .ok (.aload_n 0, 1) := by decide +kernel
theorem dX9_init_97 : decode cX9_init 97 = .ok (.bipush 20, 2) := by decide +kernel
theorem dX9_init_99 : decode cX9_init 99 = .ok (.newarray .int, 2) := by decide +kernel
theorem dX9_init_101 : decode cX9_init 101 = .ok (.putfield 53, 3) := by decide +kernel
theorem dX9_init_104 : decode cX9_init 104 = .ok (.aload_n 0, 1) := by decide +kernel
theorem dX9_init_105 : decode cX9_init 105 = .ok (.bipush 20, 2) := by decide +kernel
theorem dX9_init_107 : decode cX9_init 107 = .ok (.newarray .int, 2) := by decide +kernel
theorem dX9_init_109 : decode cX9_init 109 = .ok (.putfield 56, 3) := by decide +kernel
theorem dX9_init_112 : decode cX9_init 112 = .ok (.aload_n 0, 1) := by decide +kernel
theorem dX9_init_113 : decode cX9_init 113 = .ok (.bipush 20, 2) := by decide +kernel
theorem dX9_init_115 : decode cX9_init 115 = .ok (.newarray .int, 2) := by decide +kernel
theorem dX9_init_117 : decode cX9_init 117 = .ok (.putfield 59, 3) := by decide +kernel
theorem dX9_init_120 : decode cX9_init 120 = .ok (.aload_n 0, 1) := by decide +kernel
theorem dX9_init_121 : decode cX9_init 121 = .ok (.bipush 20, 2) := by decide +kernel
theorem dX9_init_123 : decode cX9_init 123 = .ok (.newarray .int, 2) := by decide +kernel
theorem dX9_init_125 : decode cX9_init 125 = .ok (.putfield 62, 3) := by decide +kernel
theorem dX9_init_128 : decode cX9_init 128 = .ok (.aload_n 0, 1) := by decide +kernel
theorem dX9_init_129 : decode cX9_init 129 = .ok (.new 65, 3) := by decide +kernel
theorem dX9_init_132 : decode cX9_init 132 = .ok (.dup, 1) := by decide +kernel
theorem dX9_init_133 : decode cX9_init 133 = .ok (.invokespecial 67, 3) := by decide +kernel
theorem dX9_init_136 : decode cX9_init 136 = .ok (.putfield 68, 3) := by decide +kernel
theorem dX9_init_139 : decode cX9_init 139 = .ok (.return_, 1) := by decide +kernel
theorem dX9_clear_0 : decode cX9_clear 0 = .ok (.aload_n 0, 1) := by decide +kernel
theorem dX9_clear_1 : decode cX9_clear 1 = .ok (.iconst 0, 1) := by decide +kernel
theorem dX9_clear_2 : decode cX9_clear 2 = .ok (.putfield 7, 3) := by decide +kernel
theorem dX9_clear_5 : decode cX9_clear 5 = .ok (.aload_n 0, 1) := by decide +kernel
theorem dX9_clear_6 : decode cX9_clear 6 = .ok (.iconst 0, 1) := by decide +kernel
theorem dX9_clear_7 : decode cX9_clear 7 = .ok (.putfield 13, 3) := by decide +kernel
theorem dX9_clear_10 : decode cX9_clear 10 = .ok (.aload_n 0, 1) := by decide +kernel
theorem dX9_clear_11 : decode cX9_clear 11 = .ok (.iconst 0, 1) := by decide +kernel
theorem dX9_clear_12 : decode cX9_clear 12 = .ok (.putfield 16, 3) := by decide +kernel
theorem dX9_clear_15 : decode cX9_clear 15 = .ok (.aload_n 0, 1) := by decide +kernel
theorem dX9_clear_16 : decode cX9_clear 16 = .ok (.iconst 0, 1) := by decide +kernel
theorem dX9_clear_17 : decode cX9_clear 17 = .ok (.putfield 19, 3) := by decide +kernel
theorem dX9_clear_20 : decode cX9_clear 20 = .ok (.aload_n 0, 1) := by decide +kernel
theorem dX9_clear_21 : decode cX9_clear 21 = .ok (.iconst 0, 1) := by decide +kernel
theorem dX9_clear_22 : decode cX9_clear 22 = .ok (.putfield 22, 3) := by decide +kernel
theorem dX9_clear_25 : decode cX9_clear 25 = .ok (.return_, 1) := by decide +kernel
theorem dX9_hasColour_0 : decode cX9_hasColour 0 = .ok (.iload_n 1, 1) := by decide +kernel
theorem dX9_hasColour_1 : decode cX9_hasColour 1 = .ok (.ifCond .lt 21, 3) := by decide +kernel
theorem dX9_hasColour_4 : decode cX9_hasColour 4 = .ok (.iload_n 1, 1) := by decide +kernel
theorem dX9_hasColour_5 : decode cX9_hasColour 5 = .ok (.aload_n 0, 1) := by decide +kernel
theorem dX9_hasColour_6 : decode cX9_hasColour 6 = .ok (.getfield 7, 3) := by decide +kernel
theorem dX9_hasColour_9 : decode cX9_hasColour 9 = .ok (.if_icmp .ge 13, 3) := by decide +kernel
theorem dX9_hasColour_12 : decode cX9_hasColour 12 = .ok (.iload_n 1, 1) := by decide +kernel
theorem dX9_hasColour_13 : decode cX9_hasColour 13 = .ok (.bipush 6, 2) := by decide +kernel
theorem dX9_hasColour_15 : decode cX9_hasColour 15 = .ok (.if_icmp .ge 7, 3) := by decide +kernel
theorem dX9_hasColour_18 : decode cX9_hasColour 18 = .ok (.iconst 1, 1) := by decide +kernel
theorem dX9_hasColour_19 : decode cX9_hasColour 19 = .ok (.goto 4, 3) := by decide +kernel
theorem dX9_hasColour_22 : decode cX9_hasColour 22 = .ok (.iconst 0, 1) := by decide +kernel
theorem dX9_hasColour_23 : decode cX9_hasColour 23 = .ok (.ireturn, 1) := by decide +kernel
theorem dX9_hasCord_0 : decode cX9_hasCord 0 = .ok (.iload_n 1, 1) := by decide +kernel
theorem dX9_hasCord_1 : decode cX9_hasCord 1 = .ok (.ifCond .lt 21, 3) := by decide +kernel
theorem dX9_hasCord_4 : decode cX9_hasCord 4 = .ok (.iload_n 1, 1) := by decide +kernel
theorem dX9_hasCord_5 : decode cX9_hasCord 5 = .ok (.aload_n 0, 1) := by decide +kernel
theorem dX9_hasCord_6 : decode cX9_hasCord 6 = .ok (.getfield 13, 3) := by decide +kernel
theorem dX9_hasCord_9 : decode cX9_hasCord 9 = .ok (.if_icmp .ge 13, 3) := by decide +kernel
theorem dX9_hasCord_12 : decode cX9_hasCord 12 = .ok (.iload_n 1, 1) := by decide +kernel
theorem dX9_hasCord_13 : decode cX9_hasCord 13 = .ok (.bipush 16, 2) := by decide +kernel
theorem dX9_hasCord_15 : decode cX9_hasCord 15 = .ok (.if_icmp .ge 7, 3) := by decide +kernel
theorem dX9_hasCord_18 : decode cX9_hasCord 18 = .ok (.iconst 1, 1) := by decide +kernel
theorem dX9_hasCord_19 : decode cX9_hasCord 19 = .ok (.goto 4, 3) := by decide +kernel
theorem dX9_hasCord_22 : decode cX9_hasCord 22 = .ok (.iconst 0, 1) := by decide +kernel
theorem dX9_hasCord_23 : decode cX9_hasCord 23 = .ok (.ireturn, 1) := by decide +kernel
theorem dX9_hasTop_0 : decode cX9_hasTop 0 = .ok (.iload_n 1, 1) := by decide +kernel
theorem dX9_hasTop_1 : decode cX9_hasTop 1 = .ok (.ifCond .lt 21, 3) := by decide +kernel
theorem dX9_hasTop_4 : decode cX9_hasTop 4 = .ok (.iload_n 1, 1) := by decide +kernel
theorem dX9_hasTop_5 : decode cX9_hasTop 5 = .ok (.aload_n 0, 1) := by decide +kernel
theorem dX9_hasTop_6 : decode cX9_hasTop 6 = .ok (.getfield 16, 3) := by decide +kernel
theorem dX9_hasTop_9 : decode cX9_hasTop 9 = .ok (.if_icmp .ge 13, 3) := by decide +kernel
theorem dX9_hasTop_12 : decode cX9_hasTop 12 = .ok (.iload_n 1, 1) := by decide +kernel
theorem dX9_hasTop_13 : decode cX9_hasTop 13 = .ok (.bipush 6, 2) := by decide +kernel
theorem dX9_hasTop_15 : decode cX9_hasTop 15 = .ok (.if_icmp .ge 7, 3) := by decide +kernel
theorem dX9_hasTop_18 : decode cX9_hasTop 18 = .ok (.iconst 1, 1) := by decide +kernel
theorem dX9_hasTop_19 : decode cX9_hasTop 19 = .ok (.goto 4, 3) := by decide +kernel
theorem dX9_hasTop_22 : decode cX9_hasTop 22 = .ok (.iconst 0, 1) := by decide +kernel
theorem dX9_hasTop_23 : decode cX9_hasTop 23 = .ok (.ireturn, 1) := by decide +kernel
theorem dX9_hasKeeper_0 : decode cX9_hasKeeper 0 = .ok (.iload_n 1, 1) := by decide +kernel
theorem dX9_hasKeeper_1 : decode cX9_hasKeeper 1 = .ok (.ifCond .lt 20, 3) := by decide +kernel
theorem dX9_hasKeeper_4 : decode cX9_hasKeeper 4 = .ok (.iload_n 1, 1) := by decide +kernel
theorem dX9_hasKeeper_5 : decode cX9_hasKeeper 5 = .ok (.aload_n 0, 1) := by decide +kernel
theorem dX9_hasKeeper_6 : decode cX9_hasKeeper 6 = .ok (.getfield 19, 3) := by decide +kernel
theorem dX9_hasKeeper_9 : decode cX9_hasKeeper 9 = .ok (.if_icmp .ge 12, 3) := by decide +kernel
theorem dX9_hasKeeper_12 : decode cX9_hasKeeper 12 = .ok (.iload_n 1, 1) := by decide +kernel
theorem dX9_hasKeeper_13 : decode cX9_hasKeeper 13 = .ok (.iconst 5, 1) := by decide +kernel
theorem dX9_hasKeeper_14 : decode cX9_hasKeeper 14 = .ok (.if_icmp .ge 7, 3) := by decide +kernel
theorem dX9_hasKeeper_17 : decode cX9_hasKeeper 17 = .ok (.iconst 1, 1) := by decide +kernel
theorem dX9_hasKeeper_18 : decode cX9_hasKeeper 18 = .ok (.goto 4, 3) := by decide +kernel
theorem dX9_hasKeeper_21 : decode cX9_hasKeeper 21 = .ok (.iconst 0, 1) := by decide +kernel
theorem dX9_hasKeeper_22 : decode cX9_hasKeeper 22 = .ok (.ireturn, 1) := by decide +kernel
theorem dX9_isOver_0 : decode cX9_isOver 0 = .ok (.iconst 0, 1) := by decide +kernel
theorem dX9_isOver_1 : decode cX9_isOver 1 = .ok (.istore_n 3, 1) := by decide +kernel
theorem dX9_isOver_2 : decode cX9_isOver 2 = .ok (.iload_n 3, 1) := by decide +kernel
theorem dX9_isOver_3 : decode cX9_isOver 3 = .ok (.aload_n 0, 1) := by decide +kernel
theorem dX9_isOver_4 : decode cX9_isOver 4 = .ok (.getfield 38, 3) := by decide +kernel
theorem dX9_isOver_7 : decode cX9_isOver 7 = .ok (.iload_n 1, 1) := by decide +kernel
theorem dX9_isOver_8 : decode cX9_isOver 8 = .ok (.iaload, 1) := by decide +kernel
theorem dX9_isOver_9 : decode cX9_isOver 9 = .ok (.if_icmp .ge 23, 3) := by decide +kernel
theorem dX9_isOver_12 : decode cX9_isOver 12 = .ok (.aload_n 0, 1) := by decide +kernel
theorem dX9_isOver_13 : decode cX9_isOver 13 = .ok (.getfield 43, 3) := by decide +kernel
theorem dX9_isOver_16 : decode cX9_isOver 16 = .ok (.iload_n 1, 1) := by decide +kernel
theorem dX9_isOver_17 : decode cX9_isOver 17 = .ok (.aaload, 1) := by decide +kernel
theorem dX9_isOver_18 : decode cX9_isOver 18 = .ok (.iload_n 3, 1) := by decide +kernel
theorem dX9_isOver_19 : decode cX9_isOver 19 = .ok (.iaload, 1) := by decide +kernel
theorem dX9_isOver_20 : decode cX9_isOver 20 = .ok (.iload_n 2, 1) := by decide +kernel
theorem dX9_isOver_21 : decode cX9_isOver 21 = .ok (.if_icmp .ne 5, 3) := by decide +kernel
theorem dX9_isOver_24 : decode cX9_isOver 24 = .ok (.iconst 1, 1) := by decide +kernel
theorem dX9_isOver_25 : decode cX9_isOver 25 = .ok (.ireturn, 1) := by decide +kernel
theorem dX9_isOver_26 : decode cX9_isOver 26 = .ok (.iinc 3 1, 3) := by decide +kernel
theorem dX9_isOver_29 : decode cX9_isOver 29 = .ok (.goto (-27), 3) := by decide +kernel
theorem dX9_isOver_32 : decode cX9_isOver 32 = .ok (.iconst 0, 1) := by decide +kernel
theorem dX9_isOver_33 : decode cX9_isOver 33 = .ok (.ireturn, 1) := by decide +kernel
