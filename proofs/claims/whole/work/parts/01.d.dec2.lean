theorem dX7_init_0 : decode cX7_init 0 = .ok (.aload_n 0, 1) := by decide +kernel
theorem dX7_init_1 : decode cX7_init 1 = .ok (.invokespecial 1, 3) := by decide +kernel
theorem dX7_init_4 : decode cX7_init 4 = .ok (.aload_n 0, 1) := by decide +kernel
theorem dX7_init_5 : decode cX7_init 5 = .ok (.iconst 0, 1) := by decide +kernel
theorem dX7_init_6 : decode cX7_init 6 = .ok (.putfield 7, 3) := by decide +kernel
theorem dX7_init_9 : decode cX7_init 9 = .ok (.aload_n 0, 1) := by decide +kernel
theorem dX7_init_10 : decode cX7_init 10 = .ok (.bipush 6, 2) := by decide +kernel
theorem dX7_init_12 : decode cX7_init 12 = .ok (.newarray .long, 2) := by decide +kernel
theorem dX7_init_14 : decode cX7_init 14 = .ok (.putfield 15, 3) := by decide +kernel
theorem dX7_init_17 : decode cX7_init 17 = .ok (.aload_n 0, 1) := by decide +kernel
theorem dX7_init_18 : decode cX7_init 18 = .ok (.bipush 16, 2) := by decide +kernel
theorem dX7_init_20 : decode cX7_init 20 = .ok (.newarray .long, 2) := by decide +kernel
theorem dX7_init_22 : decode cX7_init 22 = .ok (.putfield 19, 3) := by decide +kernel
theorem dX7_init_25 : decode cX7_init 25 = .ok (.aload_n 0, 1) := by decide +kernel
theorem dX7_init_26 : decode cX7_init 26 = .ok (.bipush 6, 2) := by decide +kernel
theorem dX7_init_28 : decode cX7_init 28 = .ok (.newarray .long, 2) := by decide +kernel
theorem dX7_init_30 : decode cX7_init 30 = .ok (.putfield 22, 3) := by decide +kernel
theorem dX7_init_33 : decode cX7_init 33 = .ok (.aload_n 0, 1) := by decide +kernel
theorem dX7_init_34 : decode cX7_init 34 = .ok (.iconst 5, 1) := by decide +kernel
theorem dX7_init_35 : decode cX7_init 35 = .ok (.newarray .long, 2) := by decide +kernel
theorem dX7_init_37 : decode cX7_init 37 = .ok (.putfield 25, 3) := by decide +kernel
theorem dX7_init_40 : decode cX7_init 40 = .ok (.aload_n 0, 1) := by decide +kernel
theorem dX7_init_41 : decode cX7_init 41 = .ok (.bipush 16, 2) := by decide +kernel
theorem dX7_init_43 : decode cX7_init 43 = .ok (.newarray .int, 2) := by decide +kernel
theorem dX7_init_45 : decode cX7_init 45 = .ok (.putfield 28, 3) := by decide +kernel
theorem dX7_init_48 : decode cX7_init 48 = .ok (.aload_n 0, 1) := by decide +kernel
theorem dX7_init_49 : decode cX7_init 49 = .ok (.sipush 401, 3) := by decide +kernel
theorem dX7_init_52 : decode cX7_init 52 = .ok (.newarray .int, 2) := by decide +kernel
theorem dX7_init_54 : decode cX7_init 54 = .ok (.putfield 34, 3) := by decide +kernel
theorem dX7_init_57 : decode cX7_init 57 = .ok (.aload_n 0, 1) := by decide +kernel
theorem dX7_init_58 : decode cX7_init 58 = .ok (.bipush 48, 2) := by decide +kernel
theorem dX7_init_60 : decode cX7_init 60 = .ok (.putfield 39, 3) := by decide +kernel
theorem dX7_init_63 : decode cX7_init 63 = .ok (.aload_n 0, 1) := by decide +kernel
theorem dX7_init_64 : decode cX7_init 64 = .ok (.bipush 48, 2) := by decide +kernel
theorem dX7_init_66 : decode cX7_init 66 = .ok (.putfield 42, 3) := by decide +kernel
theorem dX7_init_69 : decode cX7_init 69 = .ok (.return_, 1) := by decide +kernel
theorem dX7_firstFault_0 : decode cX7_firstFault 0 = .ok (.aload_n 3, 1) := by decide +kernel
theorem dX7_firstFault_1 : decode cX7_firstFault 1 = .ok (.invokevirtual 45, 3) := by decide +kernel
theorem dX7_firstFault_4 : decode cX7_firstFault 4 = .ok (.aload_n 0, 1) := by decide +kernel
theorem dX7_firstFault_5 : decode cX7_firstFault 5 = .ok (.iconst 0, 1) := by decide +kernel
theorem dX7_firstFault_6 : decode cX7_firstFault 6 = .ok (.putfield 7, 3) := by decide +kernel
theorem dX7_firstFault_9 : decode cX7_firstFault 9 = .ok (.iconst 0, 1) := by decide +kernel
theorem dX7_firstFault_10 : decode cX7_firstFault 10 = .ok (.istore 4, 2) := by decide +kernel
theorem dX7_firstFault_12 : decode cX7_firstFault 12 = .ok (.iload 4, 2) := by decide +kernel
theorem dX7_firstFault_14 : decode cX7_firstFault 14 = .ok (.aload_n 1, 1) := by decide +kernel
theorem dX7_firstFault_15 : decode cX7_firstFault 15 = .ok (.invokevirtual 48, 3) := by decide +kernel
theorem dX7_firstFault_18 : decode cX7_firstFault 18 = .ok (.if_icmp .ge 154, 3) := by decide +kernel
theorem dX7_firstFault_21 : decode cX7_firstFault 21 = .ok (.iload 4, 2) := by decide +kernel
theorem dX7_firstFault_23 : decode cX7_firstFault 23 = .ok (.sipush 400, 3) := by decide +kernel
theorem dX7_firstFault_26 : decode cX7_firstFault 26 = .ok (.if_icmp .ge 146, 3) := by decide +kernel
theorem dX7_firstFault_29 : decode cX7_firstFault 29 = .ok (.aload_n 1, 1) := by decide +kernel
theorem dX7_firstFault_30 : decode cX7_firstFault 30 = .ok (.getfield 52, 3) := by decide +kernel
theorem dX7_firstFault_33 : decode cX7_firstFault 33 = .ok (.iload 4, 2) := by decide +kernel
theorem dX7_firstFault_35 : decode cX7_firstFault 35 = .ok (.iaload, 1) := by decide +kernel
theorem dX7_firstFault_36 : decode cX7_firstFault 36 = .ok (.istore 5, 2) := by decide +kernel
theorem dX7_firstFault_38 : decode cX7_firstFault 38 = .ok (.iload 5, 2) := by decide +kernel
theorem dX7_firstFault_40 : decode cX7_firstFault 40 = .ok (.bipush 28, 2) := by decide +kernel
theorem dX7_firstFault_42 : decode cX7_firstFault 42 = .ok (.if_icmp .ne 48, 3) := by decide +kernel
theorem dX7_firstFault_45 : decode cX7_firstFault 45 = .ok (.aload_n 0, 1) := by decide +kernel
theorem dX7_firstFault_46 : decode cX7_firstFault 46 = .ok (.getfield 34, 3) := by decide +kernel
theorem dX7_firstFault_49 : decode cX7_firstFault 49 = .ok (.iload 4, 2) := by decide +kernel
theorem dX7_firstFault_51 : decode cX7_firstFault 51 = .ok (.aload_n 0, 1) := by decide +kernel
theorem dX7_firstFault_52 : decode cX7_firstFault 52 = .ok (.aload_n 3, 1) := by decide +kernel
theorem dX7_firstFault_53 : decode cX7_firstFault 53 = .ok (.aload_n 1, 1) := by decide +kernel
theorem dX7_firstFault_54 : decode cX7_firstFault 54 = .ok (.getfield 55, 3) := by decide +kernel
theorem dX7_firstFault_57 : decode cX7_firstFault 57 = .ok (.iload 4, 2) := by decide +kernel
theorem dX7_firstFault_59 : decode cX7_firstFault 59 = .ok (.laload, 1) := by decide +kernel
theorem dX7_firstFault_60 : decode cX7_firstFault 60 = .ok (.invokevirtual 58, 3) := by decide +kernel
theorem dX7_firstFault_63 : decode cX7_firstFault 63 = .ok (.iastore, 1) := by decide +kernel
theorem dX7_firstFault_64 : decode cX7_firstFault 64 = .ok (.aload_n 0, 1) := by decide +kernel
theorem dX7_firstFault_65 : decode cX7_firstFault 65 = .ok (.aload_n 0, 1) := by decide +kernel
theorem dX7_firstFault_66 : decode cX7_firstFault 66 = .ok (.aload_n 3, 1) := by decide +kernel
theorem dX7_firstFault_67 : decode cX7_firstFault 67 = .ok (.aload_n 0, 1) := by decide +kernel
theorem dX7_firstFault_68 : decode cX7_firstFault 68 = .ok (.getfield 34, 3) := by decide +kernel
theorem dX7_firstFault_71 : decode cX7_firstFault 71 = .ok (.iload 4, 2) := by decide +kernel
theorem dX7_firstFault_73 : decode cX7_firstFault 73 = .ok (.iaload, 1) := by decide +kernel
theorem dX7_firstFault_74 : decode cX7_firstFault 74 = .ok (.aload_n 1, 1) := by decide +kernel
theorem dX7_firstFault_75 : decode cX7_firstFault 75 = .ok (.getfield 55, 3) := by decide +kernel
theorem dX7_firstFault_78 : decode cX7_firstFault 78 = .ok (.iload 4, 2) := by decide +kernel
theorem dX7_firstFault_80 : decode cX7_firstFault 80 = .ok (.laload, 1) := by decide +kernel
theorem dX7_firstFault_81 : decode cX7_firstFault 81 = .ok (.invokevirtual 62, 3) := by decide +kernel
theorem dX7_firstFault_84 : decode cX7_firstFault 84 = .ok (.putfield 7, 3) := by decide +kernel
theorem dX7_firstFault_87 : decode cX7_firstFault 87 = .ok (.goto 69, 3) := by decide +kernel
theorem dX7_firstFault_90 : decode cX7_firstFault 90 = .ok (.iload 5, 2) := by decide +kernel
theorem dX7_firstFault_92 : decode cX7_firstFault 92 = .ok (.bipush 29, 2) := by decide +kernel
theorem dX7_firstFault_94 : decode cX7_firstFault 94 = .ok (.if_icmp .ne 21, 3) := by decide +kernel
theorem dX7_firstFault_97 : decode cX7_firstFault 97 = .ok (.aload_n 0, 1) := by decide +kernel
theorem dX7_firstFault_98 : decode cX7_firstFault 98 = .ok (.aload_n 0, 1) := by decide +kernel
theorem dX7_firstFault_99 : decode cX7_firstFault 99 = .ok (.aload_n 3, 1) := by decide +kernel
theorem dX7_firstFault_100 : decode cX7_firstFault 100 = .ok (.aload_n 1, 1) := by decide +kernel
theorem dX7_firstFault_101 : decode cX7_firstFault 101 = .ok (.iload 4, 2) := by decide +kernel
theorem dX7_firstFault_103 : decode cX7_firstFault 103 = .ok (.invokevirtual 66, 3) := by decide +kernel
theorem dX7_firstFault_106 : decode cX7_firstFault 106 = .ok (.invokevirtual 70, 3) := by decide +kernel
theorem dX7_firstFault_109 : decode cX7_firstFault 109 = .ok (.putfield 7, 3) := by decide +kernel
theorem dX7_firstFault_112 : decode cX7_firstFault 112 = .ok (.goto 44, 3) := by decide +kernel
theorem dX7_firstFault_115 : decode cX7_firstFault 115 = .ok (.iload 5, 2) := by decide +kernel
theorem dX7_firstFault_117 : decode cX7_firstFault 117 = .ok (.bipush 34, 2) := by decide +kernel
theorem dX7_firstFault_119 : decode cX7_firstFault 119 = .ok (.if_icmp .ne 15, 3) := by decide +kernel
theorem dX7_firstFault_122 : decode cX7_firstFault 122 = .ok (.aload_n 0, 1) := by decide +kernel
theorem dX7_firstFault_123 : decode cX7_firstFault 123 = .ok (.aload_n 3, 1) := by decide +kernel
theorem dX7_firstFault_124 : decode cX7_firstFault 124 = .ok (.aload_n 2, 1) := by decide +kernel
theorem dX7_firstFault_125 : decode cX7_firstFault 125 = .ok (.iload 4, 2) := by decide +kernel
theorem dX7_firstFault_127 : decode cX7_firstFault 127 = .ok (.iaload, 1) := by decide +kernel
theorem dX7_firstFault_128 : decode cX7_firstFault 128 = .ok (.invokevirtual 74, 3) := by decide +kernel
theorem dX7_firstFault_131 : decode cX7_firstFault 131 = .ok (.goto 25, 3) := by decide +kernel
theorem dX7_firstFault_134 : decode cX7_firstFault 134 = .ok (.iload 5, 2) := by decide +kernel
theorem dX7_firstFault_136 : decode cX7_firstFault 136 = .ok (.bipush 28, 2) := by decide +kernel
theorem dX7_firstFault_138 : decode cX7_firstFault 138 = .ok (.if_icmp .ge 18, 3) := by decide +kernel
theorem dX7_firstFault_141 : decode cX7_firstFault 141 = .ok (.aload_n 0, 1) := by decide +kernel
theorem dX7_firstFault_142 : decode cX7_firstFault 142 = .ok (.aload_n 0, 1) := by decide +kernel
theorem dX7_firstFault_143 : decode cX7_firstFault 143 = .ok (.aload_n 3, 1) := by decide +kernel
theorem dX7_firstFault_144 : decode cX7_firstFault 144 = .ok (.iload 5, 2) := by decide +kernel
theorem dX7_firstFault_146 : decode cX7_firstFault 146 = .ok (.aload_n 2, 1) := by decide +kernel
theorem dX7_firstFault_147 : decode cX7_firstFault 147 = .ok (.iload 4, 2) := by decide +kernel
theorem dX7_firstFault_149 : decode cX7_firstFault 149 = .ok (.iaload, 1) := by decide +kernel
theorem dX7_firstFault_150 : decode cX7_firstFault 150 = .ok (.invokevirtual 78, 3) := by decide +kernel
theorem dX7_firstFault_153 : decode cX7_firstFault 153 = .ok (.putfield 7, 3) := by decide +kernel
theorem dX7_firstFault_156 : decode cX7_firstFault 156 = .ok (.aload_n 0, 1) := by decide +kernel
theorem dX7_firstFault_157 : decode cX7_firstFault 157 = .ok (.getfield 7, 3) := by decide +kernel
theorem dX7_firstFault_160 : decode cX7_firstFault 160 = .ok (.ifCond .eq 6, 3) := by decide +kernel
theorem dX7_firstFault_163 : decode cX7_firstFault 163 = .ok (.iload 4, 2) := by decide +kernel
theorem dX7_firstFault_165 : decode cX7_firstFault 165 = .ok (.ireturn, 1) := by decide +kernel
theorem dX7_firstFault_166 : decode cX7_firstFault 166 = .ok (.iinc 4 1, 3) := by decide +kernel
theorem dX7_firstFault_169 : decode cX7_firstFault 169 = .ok (.goto (-157), 3) := by decide +kernel
theorem dX7_firstFault_172 : decode cX7_firstFault 172 = .ok (.aload_n 0, 1) := by decide +kernel
theorem dX7_firstFault_173 : decode cX7_firstFault 173 = .ok (.aload_n 3, 1) := by decide +kernel
theorem dX7_firstFault_174 : decode cX7_firstFault 174 = .ok (.getfield 82, 3) := by decide +kernel
theorem dX7_firstFault_177 : decode cX7_firstFault 177 = .ok (.invokevirtual 86, 3) := by decide +kernel
theorem dX7_firstFault_180 : decode cX7_firstFault 180 = .ok (.iconst (-1), 1) := by decide +kernel
theorem dX7_firstFault_181 : decode cX7_firstFault 181 = .ok (.ireturn, 1) := by decide +kernel
theorem dX7_errorOfKeyword_0 : decode cX7_errorOfKeyword 0 = .ok (.aload_n 0, 1) := by decide +kernel
theorem dX7_errorOfKeyword_1 : decode cX7_errorOfKeyword 1 = .ok (.iload_n 2, 1) := by decide +kernel
theorem dX7_errorOfKeyword_2 : decode cX7_errorOfKeyword 2 = .ok (.putfield 42, 3) := by decide +kernel
theorem dX7_errorOfKeyword_5 : decode cX7_errorOfKeyword 5 = .ok (.iload_n 2, 1) := by decide +kernel
theorem dX7_errorOfKeyword_6 : decode cX7_errorOfKeyword 6 = .ok (.ifCond .eq 32, 3) := by decide +kernel
theorem dX7_errorOfKeyword_9 : decode cX7_errorOfKeyword 9 = .ok (.iload_n 2, 1) := by decide +kernel
theorem dX7_errorOfKeyword_10 : decode cX7_errorOfKeyword 10 = .ok (.iconst 2, 1) := by decide +kernel
theorem dX7_errorOfKeyword_11 : decode cX7_errorOfKeyword 11 = .ok (.if_icmp .eq 27, 3) := by decide +kernel
theorem dX7_errorOfKeyword_14 : decode cX7_errorOfKeyword 14 = .ok (.iload_n 2, 1) := by decide +kernel
theorem dX7_errorOfKeyword_15 : decode cX7_errorOfKeyword 15 = .ok (.bipush 7, 2) := by decide +kernel
theorem dX7_errorOfKeyword_17 : decode cX7_errorOfKeyword 17 = .ok (.if_icmp .eq 21, 3) := by decide +kernel
theorem dX7_errorOfKeyword_20 : decode cX7_errorOfKeyword 20 = .ok (.iload_n 2, 1) := by decide +kernel
theorem dX7_errorOfKeyword_21 : decode cX7_errorOfKeyword 21 = .ok (.bipush 9, 2) := by decide +kernel
theorem dX7_errorOfKeyword_23 : decode cX7_errorOfKeyword 23 = .ok (.if_icmp .eq 15, 3) := by decide +kernel
theorem dX7_errorOfKeyword_26 : decode cX7_errorOfKeyword 26 = .ok (.iload_n 2, 1) := by decide +kernel
theorem dX7_errorOfKeyword_27 : decode cX7_errorOfKeyword 27 = .ok (.bipush 11, 2) := by decide +kernel
theorem dX7_errorOfKeyword_29 : decode cX7_errorOfKeyword 29 = .ok (.if_icmp .eq 9, 3) := by decide +kernel
theorem dX7_errorOfKeyword_32 : decode cX7_errorOfKeyword 32 = .ok (.iload_n 2, 1) := by decide +kernel
theorem dX7_errorOfKeyword_33 : decode cX7_errorOfKeyword 33 = .ok (.bipush 14, 2) := by decide +kernel
theorem dX7_errorOfKeyword_35 : decode cX7_errorOfKeyword 35 = .ok (.if_icmp .ne 7, 3) := by decide +kernel
theorem dX7_errorOfKeyword_38 : decode cX7_errorOfKeyword 38 = .ok (.iconst 1, 1) := by decide +kernel
theorem dX7_errorOfKeyword_39 : decode cX7_errorOfKeyword 39 = .ok (.goto 4, 3) := by decide +kernel
theorem dX7_errorOfKeyword_42 : decode cX7_errorOfKeyword 42 = .ok (.iconst 0, 1) := by decide +kernel
theorem dX7_errorOfKeyword_43 : decode cX7_errorOfKeyword 43 = .ok (.istore 4, 2) := by decide +kernel
theorem dX7_errorOfKeyword_45 : decode cX7_errorOfKeyword 45 = .ok (.iload 4, 2) := by decide +kernel
theorem dX7_errorOfKeyword_47 : decode cX7_errorOfKeyword 47 = .ok (.ifCond .eq 8, 3) := by decide +kernel
theorem dX7_errorOfKeyword_50 : decode cX7_errorOfKeyword 50 = .ok (.aload_n 0, 1) := by decide +kernel
theorem dX7_errorOfKeyword_51 : decode cX7_errorOfKeyword 51 = .ok (.iload_n 2, 1) := by decide +kernel
theorem dX7_errorOfKeyword_52 : decode cX7_errorOfKeyword 52 = .ok (.putfield 39, 3) := by decide +kernel
theorem dX7_errorOfKeyword_55 : decode cX7_errorOfKeyword 55 = .ok (.aload_n 1, 1) := by decide +kernel
theorem dX7_errorOfKeyword_56 : decode cX7_errorOfKeyword 56 = .ok (.getfield 90, 3) := by decide +kernel
theorem dX7_errorOfKeyword_59 : decode cX7_errorOfKeyword 59 = .ok (.istore 5, 2) := by decide +kernel
theorem dX7_errorOfKeyword_61 : decode cX7_errorOfKeyword 61 = .ok (.iload_n 2, 1) := by decide +kernel
theorem dX7_errorOfKeyword_62 : decode cX7_errorOfKeyword 62 = .ok (.bipush 11, 2) := by decide +kernel
theorem dX7_errorOfKeyword_64 : decode cX7_errorOfKeyword 64 = .ok (.if_icmp .eq 9, 3) := by decide +kernel
theorem dX7_errorOfKeyword_67 : decode cX7_errorOfKeyword 67 = .ok (.iload_n 2, 1) := by decide +kernel
theorem dX7_errorOfKeyword_68 : decode cX7_errorOfKeyword 68 = .ok (.bipush 14, 2) := by decide +kernel
theorem dX7_errorOfKeyword_70 : decode cX7_errorOfKeyword 70 = .ok (.if_icmp .ne 38, 3) := by decide +kernel
theorem dX7_errorOfKeyword_73 : decode cX7_errorOfKeyword 73 = .ok (.iload 5, 2) := by decide +kernel
theorem dX7_errorOfKeyword_75 : decode cX7_errorOfKeyword 75 = .ok (.bipush 20, 2) := by decide +kernel
theorem dX7_errorOfKeyword_77 : decode cX7_errorOfKeyword 77 = .ok (.if_icmp .lt 5, 3) := by decide +kernel
theorem dX7_errorOfKeyword_80 : decode cX7_errorOfKeyword 80 = .ok (.iconst 4, 1) := by decide +kernel
theorem dX7_errorOfKeyword_81 : decode cX7_errorOfKeyword 81 = .ok (.ireturn, 1) := by decide +kernel
theorem dX7_errorOfKeyword_82 : decode cX7_errorOfKeyword 82 = .ok (.aload_n 1, 1) := by decide +kernel
theorem dX7_errorOfKeyword_83 : decode cX7_errorOfKeyword 83 = .ok (.getfield 93, 3) := by decide +kernel
theorem dX7_errorOfKeyword_86 : decode cX7_errorOfKeyword 86 = .ok (.iload 5, 2) := by decide +kernel
theorem dX7_errorOfKeyword_88 : decode cX7_errorOfKeyword 88 = .ok (.iload_n 2, 1) := by decide +kernel
theorem dX7_errorOfKeyword_89 : decode cX7_errorOfKeyword 89 = .ok (.bipush 11, 2) := by decide +kernel
theorem dX7_errorOfKeyword_91 : decode cX7_errorOfKeyword 91 = .ok (.if_icmp .ne 7, 3) := by decide +kernel
theorem dX7_errorOfKeyword_94 : decode cX7_errorOfKeyword 94 = .ok (.iconst 1, 1) := by decide +kernel
theorem dX7_errorOfKeyword_95 : decode cX7_errorOfKeyword 95 = .ok (.goto 4, 3) := by decide +kernel
theorem dX7_errorOfKeyword_98 : decode cX7_errorOfKeyword 98 = .ok (.iconst 0, 1) := by decide +kernel
theorem dX7_errorOfKeyword_99 : decode cX7_errorOfKeyword 99 = .ok (.bastore, 1) := by decide +kernel
theorem dX7_errorOfKeyword_100 : decode cX7_errorOfKeyword 100 = .ok (.aload_n 1, 1) := by decide +kernel
theorem dX7_errorOfKeyword_101 : decode cX7_errorOfKeyword 101 = .ok (.getfield 97, 3) := by decide +kernel
theorem dX7_errorOfKeyword_104 : decode cX7_errorOfKeyword 104 = .ok (.iload 5, 2) := by decide +kernel
theorem dX7_errorOfKeyword_106 : decode cX7_errorOfKeyword 106 = .ok (.iconst (-1), 1) := by decide +kernel
theorem dX7_errorOfKeyword_107 : decode cX7_errorOfKeyword 107 = .ok (.iastore, 1) := by decide +kernel
theorem dX7_errorOfKeyword_108 : decode cX7_errorOfKeyword 108 = .ok (.iload_n 2, 1) := by decide +kernel
theorem dX7_errorOfKeyword_109 : decode cX7_errorOfKeyword 109 = .ok (.bipush 15, 2) := by decide +kernel
theorem dX7_errorOfKeyword_111 : decode cX7_errorOfKeyword 111 = .ok (.if_icmp .ne 18, 3) := by decide +kernel
theorem dX7_errorOfKeyword_114 : decode cX7_errorOfKeyword 114 = .ok (.iload 5, 2) := by decide +kernel
theorem dX7_errorOfKeyword_116 : decode cX7_errorOfKeyword 116 = .ok (.bipush 20, 2) := by decide +kernel
theorem dX7_errorOfKeyword_118 : decode cX7_errorOfKeyword 118 = .ok (.if_icmp .ge 11, 3) := by decide +kernel
theorem dX7_errorOfKeyword_121 : decode cX7_errorOfKeyword 121 = .ok (.aload_n 1, 1) := by decide +kernel
theorem dX7_errorOfKeyword_122 : decode cX7_errorOfKeyword 122 = .ok (.getfield 97, 3) := by decide +kernel
theorem dX7_errorOfKeyword_125 : decode cX7_errorOfKeyword 125 = .ok (.iload 5, 2) := by decide +kernel
theorem dX7_errorOfKeyword_127 : decode cX7_errorOfKeyword 127 = .ok (.iload_n 3, 1) := by decide +kernel
theorem dX7_errorOfKeyword_128 : decode cX7_errorOfKeyword 128 = .ok (.iastore, 1) := by decide +kernel
theorem dX7_errorOfKeyword_129 : decode cX7_errorOfKeyword 129 = .ok (.iconst 0, 1) := by decide +kernel
theorem dX7_errorOfKeyword_130 : decode cX7_errorOfKeyword 130 = .ok (.ireturn, 1) := by decide +kernel
theorem dX7_errorOfNumber_0 : decode cX7_errorOfNumber 0 = .ok (.aload_n 0, 1) := by decide +kernel
theorem dX7_errorOfNumber_1 : decode cX7_errorOfNumber 1 = .ok (.getfield 42, 3) := by decide +kernel
theorem dX7_errorOfNumber_4 : decode cX7_errorOfNumber 4 = .ok (.lookupswitch 128 #[(1, 36), (6, 65), (10, 95)], 36) := by decide +kernel
theorem dX7_errorOfNumber_40 : decode cX7_errorOfNumber 40 = .ok (.iload_n 2, 1) := by decide +kernel
theorem dX7_errorOfNumber_41 : decode cX7_errorOfNumber 41 = .ok (.bipush 99, 2) := by decide +kernel
theorem dX7_errorOfNumber_43 : decode cX7_errorOfNumber 43 = .ok (.if_icmp .le 5, 3) := by decide +kernel
theorem dX7_errorOfNumber_46 : decode cX7_errorOfNumber 46 = .ok (.iconst 5, 1) := by decide +kernel
theorem dX7_errorOfNumber_47 : decode cX7_errorOfNumber 47 = .ok (.ireturn, 1) := by decide +kernel
theorem dX7_errorOfNumber_48 : decode cX7_errorOfNumber 48 = .ok (.aload_n 1, 1) := by decide +kernel
theorem dX7_errorOfNumber_49 : decode cX7_errorOfNumber 49 = .ok (.getfield 100, 3) := by decide +kernel
theorem dX7_errorOfNumber_52 : decode cX7_errorOfNumber 52 = .ok (.bipush 6, 2) := by decide +kernel
theorem dX7_errorOfNumber_54 : decode cX7_errorOfNumber 54 = .ok (.if_icmp .ge 13, 3) := by decide +kernel
theorem dX7_errorOfNumber_57 : decode cX7_errorOfNumber 57 = .ok (.aload_n 1, 1) := by decide +kernel
theorem dX7_errorOfNumber_58 : decode cX7_errorOfNumber 58 = .ok (.getfield 103, 3) := by decide +kernel
theorem dX7_errorOfNumber_61 : decode cX7_errorOfNumber 61 = .ok (.aload_n 1, 1) := by decide +kernel
theorem dX7_errorOfNumber_62 : decode cX7_errorOfNumber 62 = .ok (.getfield 100, 3) := by decide +kernel
theorem dX7_errorOfNumber_65 : decode cX7_errorOfNumber 65 = .ok (.iload_n 2, 1) := by decide +kernel
theorem dX7_errorOfNumber_66 : decode cX7_errorOfNumber 66 = .ok (.iastore, 1) := by decide +kernel
theorem dX7_errorOfNumber_67 : decode cX7_errorOfNumber 67 = .ok (.iconst 0, 1) := by decide +kernel
theorem dX7_errorOfNumber_68 : decode cX7_errorOfNumber 68 = .ok (.ireturn, 1) := by decide +kernel
theorem dX7_errorOfNumber_69 : decode cX7_errorOfNumber 69 = .ok (.iload_n 2, 1) := by decide +kernel
theorem dX7_errorOfNumber_70 : decode cX7_errorOfNumber 70 = .ok (.sipush 9999, 3) := by decide +kernel
theorem dX7_errorOfNumber_73 : decode cX7_errorOfNumber 73 = .ok (.if_icmp .le 5, 3) := by decide +kernel
theorem dX7_errorOfNumber_76 : decode cX7_errorOfNumber 76 = .ok (.iconst 5, 1) := by decide +kernel
theorem dX7_errorOfNumber_77 : decode cX7_errorOfNumber 77 = .ok (.ireturn, 1) := by decide +kernel
theorem dX7_errorOfNumber_78 : decode cX7_errorOfNumber 78 = .ok (.aload_n 1, 1) := by decide +kernel
theorem dX7_errorOfNumber_79 : decode cX7_errorOfNumber 79 = .ok (.getfield 106, 3) := by decide +kernel
theorem dX7_errorOfNumber_82 : decode cX7_errorOfNumber 82 = .ok (.bipush 16, 2) := by decide +kernel
theorem dX7_errorOfNumber_84 : decode cX7_errorOfNumber 84 = .ok (.if_icmp .ge 13, 3) := by decide +kernel
theorem dX7_errorOfNumber_87 : decode cX7_errorOfNumber 87 = .ok (.aload_n 1, 1) := by decide +kernel
theorem dX7_errorOfNumber_88 : decode cX7_errorOfNumber 88 = .ok (.getfield 109, 3) := by decide +kernel
theorem dX7_errorOfNumber_91 : decode cX7_errorOfNumber 91 = .ok (.aload_n 1, 1) := by decide +kernel
theorem dX7_errorOfNumber_92 : decode cX7_errorOfNumber 92 = .ok (.getfield 106, 3) := by decide +kernel
theorem dX7_errorOfNumber_95 : decode cX7_errorOfNumber 95 = .ok (.iload_n 2, 1) := by decide +kernel
theorem dX7_errorOfNumber_96 : decode cX7_errorOfNumber 96 = .ok (.iastore, 1) := by decide +kernel
theorem dX7_errorOfNumber_97 : decode cX7_errorOfNumber 97 = .ok (.iconst 0, 1) := by decide +kernel
theorem dX7_errorOfNumber_98 : decode cX7_errorOfNumber 98 = .ok (.ireturn, 1) := by decide +kernel
theorem dX7_errorOfNumber_99 : decode cX7_errorOfNumber 99 = .ok (.iload_n 2, 1) := by decide +kernel
theorem dX7_errorOfNumber_100 : decode cX7_errorOfNumber 100 = .ok (.iconst 1, 1) := by decide +kernel
theorem dX7_errorOfNumber_101 : decode cX7_errorOfNumber 101 = .ok (.if_icmp .lt 9, 3) := by decide +kernel
theorem dX7_errorOfNumber_104 : decode cX7_errorOfNumber 104 = .ok (.iload_n 2, 1) := by decide +kernel
theorem dX7_errorOfNumber_105 : decode cX7_errorOfNumber 105 = .ok (.bipush 9, 2) := by decide +kernel
theorem dX7_errorOfNumber_107 : decode cX7_errorOfNumber 107 = .ok (.if_icmp .le 5, 3) := by decide +kernel
theorem dX7_errorOfNumber_110 : decode cX7_errorOfNumber 110 = .ok (.iconst 5, 1) := by decide +kernel
theorem dX7_errorOfNumber_111 : decode cX7_errorOfNumber 111 = .ok (.ireturn, 1) := by decide +kernel
theorem dX7_errorOfNumber_112 : decode cX7_errorOfNumber 112 = .ok (.aload_n 1, 1) := by decide +kernel
theorem dX7_errorOfNumber_113 : decode cX7_errorOfNumber 113 = .ok (.getfield 112, 3) := by decide +kernel
theorem dX7_errorOfNumber_116 : decode cX7_errorOfNumber 116 = .ok (.iconst 5, 1) := by decide +kernel
theorem dX7_errorOfNumber_117 : decode cX7_errorOfNumber 117 = .ok (.if_icmp .ge 13, 3) := by decide +kernel
theorem dX7_errorOfNumber_120 : decode cX7_errorOfNumber 120 = .ok (.aload_n 1, 1) := by decide +kernel
theorem dX7_errorOfNumber_121 : decode cX7_errorOfNumber 121 = .ok (.getfield 115, 3) := by decide +kernel
theorem dX7_errorOfNumber_124 : decode cX7_errorOfNumber 124 = .ok (.aload_n 1, 1) := by decide +kernel
theorem dX7_errorOfNumber_125 : decode cX7_errorOfNumber 125 = .ok (.getfield 112, 3) := by decide +kernel
theorem dX7_errorOfNumber_128 : decode cX7_errorOfNumber 128 = .ok (.iload_n 2, 1) := by decide +kernel
theorem dX7_errorOfNumber_129 : decode cX7_errorOfNumber 129 = .ok (.iastore, 1) := by decide +kernel
theorem dX7_errorOfNumber_130 : decode cX7_errorOfNumber 130 = .ok (.iconst 0, 1) := by decide +kernel
theorem dX7_errorOfNumber_131 : decode cX7_errorOfNumber 131 = .ok (.ireturn, 1) := by decide +kernel
theorem dX7_errorOfNumber_132 : decode cX7_errorOfNumber 132 = .ok (.iconst 0, 1) := by decide +kernel
theorem dX7_errorOfNumber_133 : decode cX7_errorOfNumber 133 = .ok (.ireturn, 1) := by decide +kernel
theorem dX7_toldAhead_0 : decode cX7_toldAhead 0 = .ok (.aload_n 0, 1) := by decide +kernel
theorem dX7_toldAhead_1 : decode cX7_toldAhead 1 = .ok (.getfield 42, 3) := by decide +kernel
theorem dX7_toldAhead_4 : decode cX7_toldAhead 4 = .ok (.tableswitch 147 0 22 #[108, 147, 147, 108, 147, 147, 147, 121, 147, 134, 147, 147, 134, 147, 121, 147, 147, 147, 147, 147, 121, 134, 121], 108) := by decide +kernel
theorem dX7_toldAhead_112 : decode cX7_toldAhead 112 = .ok (.lload_n 2, 1) := by decide +kernel
theorem dX7_toldAhead_113 : decode cX7_toldAhead 113 = .ok (.aload_n 0, 1) := by decide +kernel
theorem dX7_toldAhead_114 : decode cX7_toldAhead 114 = .ok (.getfield 15, 3) := by decide +kernel
theorem dX7_toldAhead_117 : decode cX7_toldAhead 117 = .ok (.aload_n 1, 1) := by decide +kernel
theorem dX7_toldAhead_118 : decode cX7_toldAhead 118 = .ok (.getfield 100, 3) := by decide +kernel
theorem dX7_toldAhead_121 : decode cX7_toldAhead 121 = .ok (.invokestatic 118, 3) := by decide +kernel
theorem dX7_toldAhead_124 : decode cX7_toldAhead 124 = .ok (.ireturn, 1) := by decide +kernel
theorem dX7_toldAhead_125 : decode cX7_toldAhead 125 = .ok (.lload_n 2, 1) := by decide +kernel
theorem dX7_toldAhead_126 : decode cX7_toldAhead 126 = .ok (.aload_n 0, 1) := by decide +kernel
theorem dX7_toldAhead_127 : decode cX7_toldAhead 127 = .ok (.getfield 22, 3) := by decide +kernel
theorem dX7_toldAhead_130 : decode cX7_toldAhead 130 = .ok (.aload_n 1, 1) := by decide +kernel
theorem dX7_toldAhead_131 : decode cX7_toldAhead 131 = .ok (.getfield 122, 3) := by decide +kernel
theorem dX7_toldAhead_134 : decode cX7_toldAhead 134 = .ok (.invokestatic 118, 3) := by decide +kernel
theorem dX7_toldAhead_137 : decode cX7_toldAhead 137 = .ok (.ireturn, 1) := by decide +kernel
theorem dX7_toldAhead_138 : decode cX7_toldAhead 138 = .ok (.lload_n 2, 1) := by decide +kernel
theorem dX7_toldAhead_139 : decode cX7_toldAhead 139 = .ok (.aload_n 0, 1) := by decide +kernel
theorem dX7_toldAhead_140 : decode cX7_toldAhead 140 = .ok (.getfield 25, 3) := by decide +kernel
theorem dX7_toldAhead_143 : decode cX7_toldAhead 143 = .ok (.aload_n 1, 1) := by decide +kernel
theorem dX7_toldAhead_144 : decode cX7_toldAhead 144 = .ok (.getfield 112, 3) := by decide +kernel
theorem dX7_toldAhead_147 : decode cX7_toldAhead 147 = .ok (.invokestatic 118, 3) := by decide +kernel
theorem dX7_toldAhead_150 : decode cX7_toldAhead 150 = .ok (.ireturn, 1) := by decide +kernel
theorem dX7_toldAhead_151 : decode cX7_toldAhead 151 = .ok (.lload_n 2, 1) := by decide +kernel
theorem dX7_toldAhead_152 : decode cX7_toldAhead 152 = .ok (.aload_n 0, 1) := by decide +kernel
theorem dX7_toldAhead_153 : decode cX7_toldAhead 153 = .ok (.getfield 19, 3) := by decide +kernel
theorem dX7_toldAhead_156 : decode cX7_toldAhead 156 = .ok (.aload_n 1, 1) := by decide +kernel
theorem dX7_toldAhead_157 : decode cX7_toldAhead 157 = .ok (.getfield 106, 3) := by decide +kernel
theorem dX7_toldAhead_160 : decode cX7_toldAhead 160 = .ok (.invokestatic 118, 3) := by decide +kernel
theorem dX7_toldAhead_163 : decode cX7_toldAhead 163 = .ok (.ireturn, 1) := by decide +kernel
theorem dX7_placeOf_0 : decode cX7_placeOf 0 = .ok (.iconst 0, 1) := by decide +kernel
theorem dX7_placeOf_1 : decode cX7_placeOf 1 = .ok (.istore 4, 2) := by decide +kernel
theorem dX7_placeOf_3 : decode cX7_placeOf 3 = .ok (.iload 4, 2) := by decide +kernel
theorem dX7_placeOf_5 : decode cX7_placeOf 5 = .ok (.iload_n 3, 1) := by decide +kernel
theorem dX7_placeOf_6 : decode cX7_placeOf 6 = .ok (.if_icmp .ge 28, 3) := by decide +kernel
theorem dX7_placeOf_9 : decode cX7_placeOf 9 = .ok (.iload 4, 2) := by decide +kernel
theorem dX7_placeOf_11 : decode cX7_placeOf 11 = .ok (.aload_n 2, 1) := by decide +kernel
theorem dX7_placeOf_12 : decode cX7_placeOf 12 = .ok (.arraylength, 1) := by decide +kernel
theorem dX7_placeOf_13 : decode cX7_placeOf 13 = .ok (.if_icmp .ge 21, 3) := by decide +kernel
theorem dX7_placeOf_16 : decode cX7_placeOf 16 = .ok (.aload_n 2, 1) := by decide +kernel
theorem dX7_placeOf_17 : decode cX7_placeOf 17 = .ok (.iload 4, 2) := by decide +kernel
theorem dX7_placeOf_19 : decode cX7_placeOf 19 = .ok (.laload, 1) := by decide +kernel
theorem dX7_placeOf_20 : decode cX7_placeOf 20 = .ok (.lload_n 0, 1) := by decide +kernel
theorem dX7_placeOf_21 : decode cX7_placeOf 21 = .ok (.lcmp, 1) := by decide +kernel
theorem dX7_placeOf_22 : decode cX7_placeOf 22 = .ok (.ifCond .ne 6, 3) := by decide +kernel
theorem dX7_placeOf_25 : decode cX7_placeOf 25 = .ok (.iload 4, 2) := by decide +kernel
theorem dX7_placeOf_27 : decode cX7_placeOf 27 = .ok (.ireturn, 1) := by decide +kernel
theorem dX7_placeOf_28 : decode cX7_placeOf 28 = .ok (.iinc 4 1, 3) := by decide +kernel
theorem dX7_placeOf_31 : decode cX7_placeOf 31 = .ok (.goto (-28), 3) := by decide +kernel
theorem dX7_placeOf_34 : decode cX7_placeOf 34 = .ok (.iconst (-1), 1) := by decide +kernel
theorem dX7_placeOf_35 : decode cX7_placeOf 35 = .ok (.ireturn, 1) := by decide +kernel
theorem dX7_errorOfName_0 : decode cX7_errorOfName 0 = .ok (.aload_n 0, 1) := by decide +kernel
theorem dX7_errorOfName_1 : decode cX7_errorOfName 1 = .ok (.getfield 42, 3) := by decide +kernel
theorem dX7_errorOfName_4 : decode cX7_errorOfName 4 = .ok (.tableswitch 125 0 9 #[56, 125, 70, 125, 125, 125, 125, 78, 125, 111], 56) := by decide +kernel
theorem dX7_errorOfName_60 : decode cX7_errorOfName 60 = .ok (.iload_n 2, 1) := by decide +kernel
theorem dX7_errorOfName_61 : decode cX7_errorOfName 61 = .ok (.lload_n 3, 1) := by decide +kernel
theorem dX7_errorOfName_62 : decode cX7_errorOfName 62 = .ok (.aload_n 0, 1) := by decide +kernel
theorem dX7_errorOfName_63 : decode cX7_errorOfName 63 = .ok (.getfield 15, 3) := by decide +kernel
theorem dX7_errorOfName_66 : decode cX7_errorOfName 66 = .ok (.aload_n 1, 1) := by decide +kernel
theorem dX7_errorOfName_67 : decode cX7_errorOfName 67 = .ok (.getfield 100, 3) := by decide +kernel
theorem dX7_errorOfName_70 : decode cX7_errorOfName 70 = .ok (.invokestatic 125, 3) := by decide +kernel
theorem dX7_errorOfName_73 : decode cX7_errorOfName 73 = .ok (.ireturn, 1) := by decide +kernel
theorem dX7_errorOfName_74 : decode cX7_errorOfName 74 = .ok (.aload_n 0, 1) := by decide +kernel
theorem dX7_errorOfName_75 : decode cX7_errorOfName 75 = .ok (.aload_n 1, 1) := by decide +kernel
theorem dX7_errorOfName_76 : decode cX7_errorOfName 76 = .ok (.iload_n 2, 1) := by decide +kernel
theorem dX7_errorOfName_77 : decode cX7_errorOfName 77 = .ok (.lload_n 3, 1) := by decide +kernel
theorem dX7_errorOfName_78 : decode cX7_errorOfName 78 = .ok (.invokevirtual 129, 3) := by decide +kernel
theorem dX7_errorOfName_81 : decode cX7_errorOfName 81 = .ok (.ireturn, 1) := by decide +kernel
theorem dX7_errorOfName_82 : decode cX7_errorOfName 82 = .ok (.aload_n 1, 1) := by decide +kernel
theorem dX7_errorOfName_83 : decode cX7_errorOfName 83 = .ok (.getfield 122, 3) := by decide +kernel
theorem dX7_errorOfName_86 : decode cX7_errorOfName 86 = .ok (.bipush 6, 2) := by decide +kernel
theorem dX7_errorOfName_88 : decode cX7_errorOfName 88 = .ok (.if_icmp .ge 13, 3) := by decide +kernel
theorem dX7_errorOfName_91 : decode cX7_errorOfName 91 = .ok (.aload_n 1, 1) := by decide +kernel
theorem dX7_errorOfName_92 : decode cX7_errorOfName 92 = .ok (.getfield 132, 3) := by decide +kernel
theorem dX7_errorOfName_95 : decode cX7_errorOfName 95 = .ok (.aload_n 1, 1) := by decide +kernel
theorem dX7_errorOfName_96 : decode cX7_errorOfName 96 = .ok (.getfield 122, 3) := by decide +kernel
theorem dX7_errorOfName_99 : decode cX7_errorOfName 99 = .ok (.iconst 0, 1) := by decide +kernel
theorem dX7_errorOfName_100 : decode cX7_errorOfName 100 = .ok (.iastore, 1) := by decide +kernel
theorem dX7_errorOfName_101 : decode cX7_errorOfName 101 = .ok (.iload_n 2, 1) := by decide +kernel
theorem dX7_errorOfName_102 : decode cX7_errorOfName 102 = .ok (.lload_n 3, 1) := by decide +kernel
theorem dX7_errorOfName_103 : decode cX7_errorOfName 103 = .ok (.aload_n 0, 1) := by decide +kernel
theorem dX7_errorOfName_104 : decode cX7_errorOfName 104 = .ok (.getfield 22, 3) := by decide +kernel
theorem dX7_errorOfName_107 : decode cX7_errorOfName 107 = .ok (.aload_n 1, 1) := by decide +kernel
theorem dX7_errorOfName_108 : decode cX7_errorOfName 108 = .ok (.getfield 122, 3) := by decide +kernel
theorem dX7_errorOfName_111 : decode cX7_errorOfName 111 = .ok (.invokestatic 125, 3) := by decide +kernel
theorem dX7_errorOfName_114 : decode cX7_errorOfName 114 = .ok (.ireturn, 1) := by decide +kernel
theorem dX7_errorOfName_115 : decode cX7_errorOfName 115 = .ok (.iload_n 2, 1) := by decide +kernel
theorem dX7_errorOfName_116 : decode cX7_errorOfName 116 = .ok (.lload_n 3, 1) := by decide +kernel
theorem dX7_errorOfName_117 : decode cX7_errorOfName 117 = .ok (.aload_n 0, 1) := by decide +kernel
theorem dX7_errorOfName_118 : decode cX7_errorOfName 118 = .ok (.getfield 25, 3) := by decide +kernel
theorem dX7_errorOfName_121 : decode cX7_errorOfName 121 = .ok (.aload_n 1, 1) := by decide +kernel
theorem dX7_errorOfName_122 : decode cX7_errorOfName 122 = .ok (.getfield 112, 3) := by decide +kernel
theorem dX7_errorOfName_125 : decode cX7_errorOfName 125 = .ok (.invokestatic 125, 3) := by decide +kernel
theorem dX7_errorOfName_128 : decode cX7_errorOfName 128 = .ok (.ireturn, 1) := by decide +kernel
theorem dX7_errorOfName_129 : decode cX7_errorOfName 129 = .ok (.iload_n 2, 1) := by decide +kernel
theorem dX7_errorOfName_130 : decode cX7_errorOfName 130 = .ok (.ifCond .ge 7, 3) := by decide +kernel
theorem dX7_errorOfName_133 : decode cX7_errorOfName 133 = .ok (.iconst 3, 1) := by decide +kernel
theorem dX7_errorOfName_134 : decode cX7_errorOfName 134 = .ok (.goto 9, 3) := by decide +kernel
theorem dX7_errorOfName_137 : decode cX7_errorOfName 137 = .ok (.aload_n 0, 1) := by decide +kernel
theorem dX7_errorOfName_138 : decode cX7_errorOfName 138 = .ok (.aload_n 1, 1) := by decide +kernel
theorem dX7_errorOfName_139 : decode cX7_errorOfName 139 = .ok (.iload_n 2, 1) := by decide +kernel
theorem dX7_errorOfName_140 : decode cX7_errorOfName 140 = .ok (.invokevirtual 135, 3) := by decide +kernel
theorem dX7_errorOfName_143 : decode cX7_errorOfName 143 = .ok (.ireturn, 1) := by decide +kernel
theorem dX7_errorOfNewName_0 : decode cX7_errorOfNewName 0 = .ok (.iload_n 0, 1) := by decide +kernel
theorem dX7_errorOfNewName_1 : decode cX7_errorOfNewName 1 = .ok (.ifCond .lt 5, 3) := by decide +kernel
theorem dX7_errorOfNewName_4 : decode cX7_errorOfNewName 4 = .ok (.iconst 2, 1) := by decide +kernel
theorem dX7_errorOfNewName_5 : decode cX7_errorOfNewName 5 = .ok (.ireturn, 1) := by decide +kernel
theorem dX7_errorOfNewName_6 : decode cX7_errorOfNewName 6 = .ok (.iload 4, 2) := by decide +kernel
theorem dX7_errorOfNewName_8 : decode cX7_errorOfNewName 8 = .ok (.ifCond .lt 10, 3) := by decide +kernel
theorem dX7_errorOfNewName_11 : decode cX7_errorOfNewName 11 = .ok (.iload 4, 2) := by decide +kernel
theorem dX7_errorOfNewName_13 : decode cX7_errorOfNewName 13 = .ok (.aload_n 3, 1) := by decide +kernel
theorem dX7_errorOfNewName_14 : decode cX7_errorOfNewName 14 = .ok (.arraylength, 1) := by decide +kernel
theorem dX7_errorOfNewName_15 : decode cX7_errorOfNewName 15 = .ok (.if_icmp .lt 5, 3) := by decide +kernel
theorem dX7_errorOfNewName_18 : decode cX7_errorOfNewName 18 = .ok (.iconst 4, 1) := by decide +kernel
theorem dX7_errorOfNewName_19 : decode cX7_errorOfNewName 19 = .ok (.ireturn, 1) := by decide +kernel
theorem dX7_errorOfNewName_20 : decode cX7_errorOfNewName 20 = .ok (.aload_n 3, 1) := by decide +kernel
theorem dX7_errorOfNewName_21 : decode cX7_errorOfNewName 21 = .ok (.iload 4, 2) := by decide +kernel
theorem dX7_errorOfNewName_23 : decode cX7_errorOfNewName 23 = .ok (.lload_n 1, 1) := by decide +kernel
theorem dX7_errorOfNewName_24 : decode cX7_errorOfNewName 24 = .ok (.lastore, 1) := by decide +kernel
theorem dX7_errorOfNewName_25 : decode cX7_errorOfNewName 25 = .ok (.iconst 0, 1) := by decide +kernel
theorem dX7_errorOfNewName_26 : decode cX7_errorOfNewName 26 = .ok (.ireturn, 1) := by decide +kernel
theorem dX7_errorOfNewCord_0 : decode cX7_errorOfNewCord 0 = .ok (.aload_n 1, 1) := by decide +kernel
theorem dX7_errorOfNewCord_1 : decode cX7_errorOfNewCord 1 = .ok (.getfield 106, 3) := by decide +kernel
theorem dX7_errorOfNewCord_4 : decode cX7_errorOfNewCord 4 = .ok (.istore 5, 2) := by decide +kernel
theorem dX7_errorOfNewCord_6 : decode cX7_errorOfNewCord 6 = .ok (.iload 5, 2) := by decide +kernel
theorem dX7_errorOfNewCord_8 : decode cX7_errorOfNewCord 8 = .ok (.bipush 16, 2) := by decide +kernel
theorem dX7_errorOfNewCord_10 : decode cX7_errorOfNewCord 10 = .ok (.if_icmp .ge 27, 3) := by decide +kernel
theorem dX7_errorOfNewCord_13 : decode cX7_errorOfNewCord 13 = .ok (.aload_n 1, 1) := by decide +kernel
theorem dX7_errorOfNewCord_14 : decode cX7_errorOfNewCord 14 = .ok (.getfield 138, 3) := by decide +kernel
theorem dX7_errorOfNewCord_17 : decode cX7_errorOfNewCord 17 = .ok (.iload 5, 2) := by decide +kernel
theorem dX7_errorOfNewCord_19 : decode cX7_errorOfNewCord 19 = .ok (.iconst (-1), 1) := by decide +kernel
theorem dX7_errorOfNewCord_20 : decode cX7_errorOfNewCord 20 = .ok (.iastore, 1) := by decide +kernel
theorem dX7_errorOfNewCord_21 : decode cX7_errorOfNewCord 21 = .ok (.aload_n 1, 1) := by decide +kernel
theorem dX7_errorOfNewCord_22 : decode cX7_errorOfNewCord 22 = .ok (.getfield 109, 3) := by decide +kernel
theorem dX7_errorOfNewCord_25 : decode cX7_errorOfNewCord 25 = .ok (.iload 5, 2) := by decide +kernel
theorem dX7_errorOfNewCord_27 : decode cX7_errorOfNewCord 27 = .ok (.iconst 0, 1) := by decide +kernel
theorem dX7_errorOfNewCord_28 : decode cX7_errorOfNewCord 28 = .ok (.iastore, 1) := by decide +kernel
theorem dX7_errorOfNewCord_29 : decode cX7_errorOfNewCord 29 = .ok (.aload_n 0, 1) := by decide +kernel
theorem dX7_errorOfNewCord_30 : decode cX7_errorOfNewCord 30 = .ok (.getfield 28, 3) := by decide +kernel
theorem dX7_errorOfNewCord_33 : decode cX7_errorOfNewCord 33 = .ok (.iload 5, 2) := by decide +kernel
theorem dX7_errorOfNewCord_35 : decode cX7_errorOfNewCord 35 = .ok (.iconst 1, 1) := by decide +kernel
theorem dX7_errorOfNewCord_36 : decode cX7_errorOfNewCord 36 = .ok (.iastore, 1) := by decide +kernel
theorem dX7_errorOfNewCord_37 : decode cX7_errorOfNewCord 37 = .ok (.iload_n 2, 1) := by decide +kernel
theorem dX7_errorOfNewCord_38 : decode cX7_errorOfNewCord 38 = .ok (.lload_n 3, 1) := by decide +kernel
theorem dX7_errorOfNewCord_39 : decode cX7_errorOfNewCord 39 = .ok (.aload_n 0, 1) := by decide +kernel
theorem dX7_errorOfNewCord_40 : decode cX7_errorOfNewCord 40 = .ok (.getfield 19, 3) := by decide +kernel
theorem dX7_errorOfNewCord_43 : decode cX7_errorOfNewCord 43 = .ok (.iload 5, 2) := by decide +kernel
theorem dX7_errorOfNewCord_45 : decode cX7_errorOfNewCord 45 = .ok (.invokestatic 125, 3) := by decide +kernel
theorem dX7_errorOfNewCord_48 : decode cX7_errorOfNewCord 48 = .ok (.ireturn, 1) := by decide +kernel
theorem dX7_errorOfUse_0 : decode cX7_errorOfUse 0 = .ok (.aload_n 1, 1) := by decide +kernel
theorem dX7_errorOfUse_1 : decode cX7_errorOfUse 1 = .ok (.getfield 106, 3) := by decide +kernel
theorem dX7_errorOfUse_4 : decode cX7_errorOfUse 4 = .ok (.istore_n 3, 1) := by decide +kernel
theorem dX7_errorOfUse_5 : decode cX7_errorOfUse 5 = .ok (.aload_n 1, 1) := by decide +kernel
theorem dX7_errorOfUse_6 : decode cX7_errorOfUse 6 = .ok (.getfield 90, 3) := by decide +kernel
theorem dX7_errorOfUse_9 : decode cX7_errorOfUse 9 = .ok (.istore 4, 2) := by decide +kernel
theorem dX7_errorOfUse_11 : decode cX7_errorOfUse 11 = .ok (.aload_n 0, 1) := by decide +kernel
theorem dX7_errorOfUse_12 : decode cX7_errorOfUse 12 = .ok (.getfield 42, 3) := by decide +kernel
theorem dX7_errorOfUse_15 : decode cX7_errorOfUse 15 = .ok (.tableswitch 123 3 14 #[61, 76, 123, 123, 123, 83, 123, 123, 89, 106, 123, 89], 61) := by decide +kernel
theorem dX7_errorOfUse_76 : decode cX7_errorOfUse 76 = .ok (.iload_n 3, 1) := by decide +kernel
theorem dX7_errorOfUse_77 : decode cX7_errorOfUse 77 = .ok (.bipush 16, 2) := by decide +kernel
theorem dX7_errorOfUse_79 : decode cX7_errorOfUse 79 = .ok (.if_icmp .ge 10, 3) := by decide +kernel
theorem dX7_errorOfUse_82 : decode cX7_errorOfUse 82 = .ok (.aload_n 1, 1) := by decide +kernel
theorem dX7_errorOfUse_83 : decode cX7_errorOfUse 83 = .ok (.getfield 141, 3) := by decide +kernel
theorem dX7_errorOfUse_86 : decode cX7_errorOfUse 86 = .ok (.iload_n 3, 1) := by decide +kernel
theorem dX7_errorOfUse_87 : decode cX7_errorOfUse 87 = .ok (.iload_n 2, 1) := by decide +kernel
theorem dX7_errorOfUse_88 : decode cX7_errorOfUse 88 = .ok (.iastore, 1) := by decide +kernel
theorem dX7_errorOfUse_89 : decode cX7_errorOfUse 89 = .ok (.iconst 0, 1) := by decide +kernel
theorem dX7_errorOfUse_90 : decode cX7_errorOfUse 90 = .ok (.ireturn, 1) := by decide +kernel
theorem dX7_errorOfUse_91 : decode cX7_errorOfUse 91 = .ok (.aload_n 0, 1) := by decide +kernel
theorem dX7_errorOfUse_92 : decode cX7_errorOfUse 92 = .ok (.aload_n 1, 1) := by decide +kernel
theorem dX7_errorOfUse_93 : decode cX7_errorOfUse 93 = .ok (.iload_n 2, 1) := by decide +kernel
theorem dX7_errorOfUse_94 : decode cX7_errorOfUse 94 = .ok (.invokevirtual 144, 3) := by decide +kernel
theorem dX7_errorOfUse_97 : decode cX7_errorOfUse 97 = .ok (.ireturn, 1) := by decide +kernel
theorem dX7_errorOfUse_98 : decode cX7_errorOfUse 98 = .ok (.aload_n 1, 1) := by decide +kernel
theorem dX7_errorOfUse_99 : decode cX7_errorOfUse 99 = .ok (.iload_n 2, 1) := by decide +kernel
theorem dX7_errorOfUse_100 : decode cX7_errorOfUse 100 = .ok (.invokestatic 147, 3) := by decide +kernel
theorem dX7_errorOfUse_103 : decode cX7_errorOfUse 103 = .ok (.ireturn, 1) := by decide +kernel
theorem dX7_errorOfUse_104 : decode cX7_errorOfUse 104 = .ok (.iload 4, 2) := by decide +kernel
theorem dX7_errorOfUse_106 : decode cX7_errorOfUse 106 = .ok (.bipush 20, 2) := by decide +kernel
theorem dX7_errorOfUse_108 : decode cX7_errorOfUse 108 = .ok (.if_icmp .ge 11, 3) := by decide +kernel
theorem dX7_errorOfUse_111 : decode cX7_errorOfUse 111 = .ok (.aload_n 1, 1) := by decide +kernel
theorem dX7_errorOfUse_112 : decode cX7_errorOfUse 112 = .ok (.getfield 150, 3) := by decide +kernel
theorem dX7_errorOfUse_115 : decode cX7_errorOfUse 115 = .ok (.iload 4, 2) := by decide +kernel
theorem dX7_errorOfUse_117 : decode cX7_errorOfUse 117 = .ok (.iload_n 2, 1) := by decide +kernel
theorem dX7_errorOfUse_118 : decode cX7_errorOfUse 118 = .ok (.iastore, 1) := by decide +kernel
theorem dX7_errorOfUse_119 : decode cX7_errorOfUse 119 = .ok (.iconst 0, 1) := by decide +kernel
theorem dX7_errorOfUse_120 : decode cX7_errorOfUse 120 = .ok (.ireturn, 1) := by decide +kernel
theorem dX7_errorOfUse_121 : decode cX7_errorOfUse 121 = .ok (.iload 4, 2) := by decide +kernel
theorem dX7_errorOfUse_123 : decode cX7_errorOfUse 123 = .ok (.bipush 20, 2) := by decide +kernel
theorem dX7_errorOfUse_125 : decode cX7_errorOfUse 125 = .ok (.if_icmp .ge 11, 3) := by decide +kernel
theorem dX7_errorOfUse_128 : decode cX7_errorOfUse 128 = .ok (.aload_n 1, 1) := by decide +kernel
theorem dX7_errorOfUse_129 : decode cX7_errorOfUse 129 = .ok (.getfield 153, 3) := by decide +kernel
theorem dX7_errorOfUse_132 : decode cX7_errorOfUse 132 = .ok (.iload 4, 2) := by decide +kernel
theorem dX7_errorOfUse_134 : decode cX7_errorOfUse 134 = .ok (.iload_n 2, 1) := by decide +kernel
theorem dX7_errorOfUse_135 : decode cX7_errorOfUse 135 = .ok (.iastore, 1) := by decide +kernel
theorem dX7_errorOfUse_136 : decode cX7_errorOfUse 136 = .ok (.iconst 0, 1) := by decide +kernel
theorem dX7_errorOfUse_137 : decode cX7_errorOfUse 137 = .ok (.ireturn, 1) := by decide +kernel
theorem dX7_errorOfUse_138 : decode cX7_errorOfUse 138 = .ok (.iconst 0, 1) := by decide +kernel
theorem dX7_errorOfUse_139 : decode cX7_errorOfUse 139 = .ok (.ireturn, 1) := by decide +kernel
theorem dX7_errorOfHanging_0 : decode cX7_errorOfHanging 0 = .ok (.aload_n 1, 1) := by decide +kernel
theorem dX7_errorOfHanging_1 : decode cX7_errorOfHanging 1 = .ok (.getfield 106, 3) := by decide +kernel
theorem dX7_errorOfHanging_4 : decode cX7_errorOfHanging 4 = .ok (.istore_n 3, 1) := by decide +kernel
theorem dX7_errorOfHanging_5 : decode cX7_errorOfHanging 5 = .ok (.aload_n 1, 1) := by decide +kernel
theorem dX7_errorOfHanging_6 : decode cX7_errorOfHanging 6 = .ok (.iload_n 2, 1) := by decide +kernel
theorem dX7_errorOfHanging_7 : decode cX7_errorOfHanging 7 = .ok (.invokevirtual 156, 3) := by decide +kernel
theorem dX7_errorOfHanging_10 : decode cX7_errorOfHanging 10 = .ok (.ifCond .eq 19, 3) := by decide +kernel
theorem dX7_errorOfHanging_13 : decode cX7_errorOfHanging 13 = .ok (.iload_n 3, 1) := by decide +kernel
theorem dX7_errorOfHanging_14 : decode cX7_errorOfHanging 14 = .ok (.bipush 16, 2) := by decide +kernel
theorem dX7_errorOfHanging_16 : decode cX7_errorOfHanging 16 = .ok (.if_icmp .ge 13, 3) := by decide +kernel
theorem dX7_errorOfHanging_19 : decode cX7_errorOfHanging 19 = .ok (.aload_n 0, 1) := by decide +kernel
theorem dX7_errorOfHanging_20 : decode cX7_errorOfHanging 20 = .ok (.getfield 28, 3) := by decide +kernel
theorem dX7_errorOfHanging_23 : decode cX7_errorOfHanging 23 = .ok (.iload_n 2, 1) := by decide +kernel
theorem dX7_errorOfHanging_24 : decode cX7_errorOfHanging 24 = .ok (.iaload, 1) := by decide +kernel
theorem dX7_errorOfHanging_25 : decode cX7_errorOfHanging 25 = .ok (.iconst 4, 1) := by decide +kernel
theorem dX7_errorOfHanging_26 : decode cX7_errorOfHanging 26 = .ok (.if_icmp .lt 5, 3) := by decide +kernel
theorem dX7_errorOfHanging_29 : decode cX7_errorOfHanging 29 = .ok (.iconst 5, 1) := by decide +kernel
theorem dX7_errorOfHanging_30 : decode cX7_errorOfHanging 30 = .ok (.ireturn, 1) := by decide +kernel
theorem dX7_errorOfHanging_31 : decode cX7_errorOfHanging 31 = .ok (.aload_n 1, 1) := by decide +kernel
theorem dX7_errorOfHanging_32 : decode cX7_errorOfHanging 32 = .ok (.getfield 138, 3) := by decide +kernel
theorem dX7_errorOfHanging_35 : decode cX7_errorOfHanging 35 = .ok (.iload_n 3, 1) := by decide +kernel
theorem dX7_errorOfHanging_36 : decode cX7_errorOfHanging 36 = .ok (.iload_n 2, 1) := by decide +kernel
theorem dX7_errorOfHanging_37 : decode cX7_errorOfHanging 37 = .ok (.iastore, 1) := by decide +kernel
theorem dX7_errorOfHanging_38 : decode cX7_errorOfHanging 38 = .ok (.aload_n 0, 1) := by decide +kernel
theorem dX7_errorOfHanging_39 : decode cX7_errorOfHanging 39 = .ok (.getfield 28, 3) := by decide +kernel
theorem dX7_errorOfHanging_42 : decode cX7_errorOfHanging 42 = .ok (.iload_n 3, 1) := by decide +kernel
theorem dX7_errorOfHanging_43 : decode cX7_errorOfHanging 43 = .ok (.aload_n 0, 1) := by decide +kernel
theorem dX7_errorOfHanging_44 : decode cX7_errorOfHanging 44 = .ok (.getfield 28, 3) := by decide +kernel
theorem dX7_errorOfHanging_47 : decode cX7_errorOfHanging 47 = .ok (.iload_n 2, 1) := by decide +kernel
theorem dX7_errorOfHanging_48 : decode cX7_errorOfHanging 48 = .ok (.iaload, 1) := by decide +kernel
theorem dX7_errorOfHanging_49 : decode cX7_errorOfHanging 49 = .ok (.iconst 1, 1) := by decide +kernel
theorem dX7_errorOfHanging_50 : decode cX7_errorOfHanging 50 = .ok (.iadd, 1) := by decide +kernel
theorem dX7_errorOfHanging_51 : decode cX7_errorOfHanging 51 = .ok (.iastore, 1) := by decide +kernel
theorem dX7_errorOfHanging_52 : decode cX7_errorOfHanging 52 = .ok (.iconst 0, 1) := by decide +kernel
theorem dX7_errorOfHanging_53 : decode cX7_errorOfHanging 53 = .ok (.ireturn, 1) := by decide +kernel
theorem dX7_errorOfTopCord_0 : decode cX7_errorOfTopCord 0 = .ok (.aload_n 0, 1) := by decide +kernel
theorem dX7_errorOfTopCord_1 : decode cX7_errorOfTopCord 1 = .ok (.getfield 122, 3) := by decide +kernel
theorem dX7_errorOfTopCord_4 : decode cX7_errorOfTopCord 4 = .ok (.istore_n 2, 1) := by decide +kernel
theorem dX7_errorOfTopCord_5 : decode cX7_errorOfTopCord 5 = .ok (.iload_n 2, 1) := by decide +kernel
theorem dX7_errorOfTopCord_6 : decode cX7_errorOfTopCord 6 = .ok (.bipush 6, 2) := by decide +kernel
theorem dX7_errorOfTopCord_8 : decode cX7_errorOfTopCord 8 = .ok (.if_icmp .ge 14, 3) := by decide +kernel
theorem dX7_errorOfTopCord_11 : decode cX7_errorOfTopCord 11 = .ok (.aload_n 0, 1) := by decide +kernel
theorem dX7_errorOfTopCord_12 : decode cX7_errorOfTopCord 12 = .ok (.getfield 132, 3) := by decide +kernel
theorem dX7_errorOfTopCord_15 : decode cX7_errorOfTopCord 15 = .ok (.iload_n 2, 1) := by decide +kernel
theorem dX7_errorOfTopCord_16 : decode cX7_errorOfTopCord 16 = .ok (.iaload, 1) := by decide +kernel
theorem dX7_errorOfTopCord_17 : decode cX7_errorOfTopCord 17 = .ok (.bipush 8, 2) := by decide +kernel
theorem dX7_errorOfTopCord_19 : decode cX7_errorOfTopCord 19 = .ok (.if_icmp .lt 5, 3) := by decide +kernel
theorem dX7_errorOfTopCord_22 : decode cX7_errorOfTopCord 22 = .ok (.iconst 4, 1) := by decide +kernel
theorem dX7_errorOfTopCord_23 : decode cX7_errorOfTopCord 23 = .ok (.ireturn, 1) := by decide +kernel
theorem dX7_errorOfTopCord_24 : decode cX7_errorOfTopCord 24 = .ok (.aload_n 0, 1) := by decide +kernel
theorem dX7_errorOfTopCord_25 : decode cX7_errorOfTopCord 25 = .ok (.iload_n 2, 1) := by decide +kernel
theorem dX7_errorOfTopCord_26 : decode cX7_errorOfTopCord 26 = .ok (.iload_n 1, 1) := by decide +kernel
theorem dX7_errorOfTopCord_27 : decode cX7_errorOfTopCord 27 = .ok (.invokevirtual 160, 3) := by decide +kernel
theorem dX7_errorOfTopCord_30 : decode cX7_errorOfTopCord 30 = .ok (.ifCond .eq 5, 3) := by decide +kernel
theorem dX7_errorOfTopCord_33 : decode cX7_errorOfTopCord 33 = .ok (.iconst 5, 1) := by decide +kernel
theorem dX7_errorOfTopCord_34 : decode cX7_errorOfTopCord 34 = .ok (.ireturn, 1) := by decide +kernel
theorem dX7_errorOfTopCord_35 : decode cX7_errorOfTopCord 35 = .ok (.aload_n 0, 1) := by decide +kernel
theorem dX7_errorOfTopCord_36 : decode cX7_errorOfTopCord 36 = .ok (.getfield 164, 3) := by decide +kernel
theorem dX7_errorOfTopCord_39 : decode cX7_errorOfTopCord 39 = .ok (.iload_n 2, 1) := by decide +kernel
theorem dX7_errorOfTopCord_40 : decode cX7_errorOfTopCord 40 = .ok (.aaload, 1) := by decide +kernel
theorem dX7_errorOfTopCord_41 : decode cX7_errorOfTopCord 41 = .ok (.aload_n 0, 1) := by decide +kernel
theorem dX7_errorOfTopCord_42 : decode cX7_errorOfTopCord 42 = .ok (.getfield 132, 3) := by decide +kernel
theorem dX7_errorOfTopCord_45 : decode cX7_errorOfTopCord 45 = .ok (.iload_n 2, 1) := by decide +kernel
theorem dX7_errorOfTopCord_46 : decode cX7_errorOfTopCord 46 = .ok (.iaload, 1) := by decide +kernel
theorem dX7_errorOfTopCord_47 : decode cX7_errorOfTopCord 47 = .ok (.iload_n 1, 1) := by decide +kernel
theorem dX7_errorOfTopCord_48 : decode cX7_errorOfTopCord 48 = .ok (.iastore, 1) := by decide +kernel
theorem dX7_errorOfTopCord_49 : decode cX7_errorOfTopCord 49 = .ok (.aload_n 0, 1) := by decide +kernel
theorem dX7_errorOfTopCord_50 : decode cX7_errorOfTopCord 50 = .ok (.getfield 132, 3) := by decide +kernel
theorem dX7_errorOfTopCord_53 : decode cX7_errorOfTopCord 53 = .ok (.iload_n 2, 1) := by decide +kernel
theorem dX7_errorOfTopCord_54 : decode cX7_errorOfTopCord 54 = .ok (.dup2, 1) := by decide +kernel
theorem dX7_errorOfTopCord_55 : decode cX7_errorOfTopCord 55 = .ok (.iaload, 1) := by decide +kernel
theorem dX7_errorOfTopCord_56 : decode cX7_errorOfTopCord 56 = .ok (.iconst 1, 1) := by decide +kernel
theorem dX7_errorOfTopCord_57 : decode cX7_errorOfTopCord 57 = .ok (.iadd, 1) := by decide +kernel
theorem dX7_errorOfTopCord_58 : decode cX7_errorOfTopCord 58 = .ok (.iastore, 1) := by decide +kernel
theorem dX7_errorOfTopCord_59 : decode cX7_errorOfTopCord 59 = .ok (.iconst 0, 1) := by decide +kernel
theorem dX7_errorOfTopCord_60 : decode cX7_errorOfTopCord 60 = .ok (.ireturn, 1) := by decide +kernel
theorem dX7_endLine_0 : decode cX7_endLine 0 = .ok (.aload_n 0, 1) := by decide +kernel
theorem dX7_endLine_1 : decode cX7_endLine 1 = .ok (.getfield 39, 3) := by decide +kernel
theorem dX7_endLine_4 : decode cX7_endLine 4 = .ok (.tableswitch 108 0 9 #[56, 108, 69, 108, 108, 108, 108, 82, 108, 95], 56) := by decide +kernel
theorem dX7_endLine_60 : decode cX7_endLine 60 = .ok (.aload_n 1, 1) := by decide +kernel
theorem dX7_endLine_61 : decode cX7_endLine 61 = .ok (.dup, 1) := by decide +kernel
theorem dX7_endLine_62 : decode cX7_endLine 62 = .ok (.getfield 100, 3) := by decide +kernel
theorem dX7_endLine_65 : decode cX7_endLine 65 = .ok (.iconst 1, 1) := by decide +kernel
theorem dX7_endLine_66 : decode cX7_endLine 66 = .ok (.iadd, 1) := by decide +kernel
theorem dX7_endLine_67 : decode cX7_endLine 67 = .ok (.putfield 100, 3) := by decide +kernel
theorem dX7_endLine_70 : decode cX7_endLine 70 = .ok (.goto 47, 3) := by decide +kernel
theorem dX7_endLine_73 : decode cX7_endLine 73 = .ok (.aload_n 1, 1) := by decide +kernel
theorem dX7_endLine_74 : decode cX7_endLine 74 = .ok (.dup, 1) := by decide +kernel
theorem dX7_endLine_75 : decode cX7_endLine 75 = .ok (.getfield 106, 3) := by decide +kernel
theorem dX7_endLine_78 : decode cX7_endLine 78 = .ok (.iconst 1, 1) := by decide +kernel
theorem dX7_endLine_79 : decode cX7_endLine 79 = .ok (.iadd, 1) := by decide +kernel
theorem dX7_endLine_80 : decode cX7_endLine 80 = .ok (.putfield 106, 3) := by decide +kernel
theorem dX7_endLine_83 : decode cX7_endLine 83 = .ok (.goto 34, 3) := by decide +kernel
theorem dX7_endLine_86 : decode cX7_endLine 86 = .ok (.aload_n 1, 1) := by decide +kernel
theorem dX7_endLine_87 : decode cX7_endLine 87 = .ok (.dup, 1) := by decide +kernel
theorem dX7_endLine_88 : decode cX7_endLine 88 = .ok (.getfield 122, 3) := by decide +kernel
theorem dX7_endLine_91 : decode cX7_endLine 91 = .ok (.iconst 1, 1) := by decide +kernel
theorem dX7_endLine_92 : decode cX7_endLine 92 = .ok (.iadd, 1) := by decide +kernel
theorem dX7_endLine_93 : decode cX7_endLine 93 = .ok (.putfield 122, 3) := by decide +kernel
theorem dX7_endLine_96 : decode cX7_endLine 96 = .ok (.goto 21, 3) := by decide +kernel
theorem dX7_endLine_99 : decode cX7_endLine 99 = .ok (.aload_n 1, 1) := by decide +kernel
theorem dX7_endLine_100 : decode cX7_endLine 100 = .ok (.dup, 1) := by decide +kernel
theorem dX7_endLine_101 : decode cX7_endLine 101 = .ok (.getfield 112, 3) := by decide +kernel
theorem dX7_endLine_104 : decode cX7_endLine 104 = .ok (.iconst 1, 1) := by decide +kernel
theorem dX7_endLine_105 : decode cX7_endLine 105 = .ok (.iadd, 1) := by decide +kernel
theorem dX7_endLine_106 : decode cX7_endLine 106 = .ok (.putfield 112, 3) := by decide +kernel
theorem dX7_endLine_109 : decode cX7_endLine 109 = .ok (.goto 8, 3) := by decide +kernel
theorem dX7_endLine_112 : decode cX7_endLine 112 = .ok (.aload_n 1, 1) := by decide +kernel
theorem dX7_endLine_113 : decode cX7_endLine 113 = .ok (.iload_n 2, 1) := by decide +kernel
theorem dX7_endLine_114 : decode cX7_endLine 114 = .ok (.invokestatic 168, 3) := by decide +kernel
theorem dX7_endLine_117 : decode cX7_endLine 117 = .ok (.return_, 1) := by decide +kernel
theorem dX7_endOrder_0 : decode cX7_endOrder 0 = .ok (.aload_n 0, 1) := by decide +kernel
theorem dX7_endOrder_1 : decode cX7_endOrder 1 = .ok (.getfield 90, 3) := by decide +kernel
theorem dX7_endOrder_4 : decode cX7_endOrder 4 = .ok (.istore_n 2, 1) := by decide +kernel
theorem dX7_endOrder_5 : decode cX7_endOrder 5 = .ok (.iload_n 2, 1) := by decide +kernel
theorem dX7_endOrder_6 : decode cX7_endOrder 6 = .ok (.bipush 20, 2) := by decide +kernel
theorem dX7_endOrder_8 : decode cX7_endOrder 8 = .ok (.if_icmp .ge 37, 3) := by decide +kernel
theorem dX7_endOrder_11 : decode cX7_endOrder 11 = .ok (.aload_n 0, 1) := by decide +kernel
theorem dX7_endOrder_12 : decode cX7_endOrder 12 = .ok (.getfield 171, 3) := by decide +kernel
theorem dX7_endOrder_15 : decode cX7_endOrder 15 = .ok (.iload_n 2, 1) := by decide +kernel
theorem dX7_endOrder_16 : decode cX7_endOrder 16 = .ok (.iload_n 1, 1) := by decide +kernel
theorem dX7_endOrder_17 : decode cX7_endOrder 17 = .ok (.iastore, 1) := by decide +kernel
theorem dX7_endOrder_18 : decode cX7_endOrder 18 = .ok (.aload_n 0, 1) := by decide +kernel
theorem dX7_endOrder_19 : decode cX7_endOrder 19 = .ok (.getfield 97, 3) := by decide +kernel
theorem dX7_endOrder_22 : decode cX7_endOrder 22 = .ok (.iload_n 2, 1) := by decide +kernel
theorem dX7_endOrder_23 : decode cX7_endOrder 23 = .ok (.iaload, 1) := by decide +kernel
theorem dX7_endOrder_24 : decode cX7_endOrder 24 = .ok (.iconst (-1), 1) := by decide +kernel
theorem dX7_endOrder_25 : decode cX7_endOrder 25 = .ok (.if_icmp .ne 10, 3) := by decide +kernel
theorem dX7_endOrder_28 : decode cX7_endOrder 28 = .ok (.aload_n 0, 1) := by decide +kernel
theorem dX7_endOrder_29 : decode cX7_endOrder 29 = .ok (.getfield 97, 3) := by decide +kernel
theorem dX7_endOrder_32 : decode cX7_endOrder 32 = .ok (.iload_n 2, 1) := by decide +kernel
theorem dX7_endOrder_33 : decode cX7_endOrder 33 = .ok (.iload_n 1, 1) := by decide +kernel
theorem dX7_endOrder_34 : decode cX7_endOrder 34 = .ok (.iastore, 1) := by decide +kernel
theorem dX7_endOrder_35 : decode cX7_endOrder 35 = .ok (.aload_n 0, 1) := by decide +kernel
theorem dX7_endOrder_36 : decode cX7_endOrder 36 = .ok (.dup, 1) := by decide +kernel
theorem dX7_endOrder_37 : decode cX7_endOrder 37 = .ok (.getfield 90, 3) := by decide +kernel
theorem dX7_endOrder_40 : decode cX7_endOrder 40 = .ok (.iconst 1, 1) := by decide +kernel
theorem dX7_endOrder_41 : decode cX7_endOrder 41 = .ok (.iadd, 1) := by decide +kernel
theorem dX7_endOrder_42 : decode cX7_endOrder 42 = .ok (.putfield 90, 3) := by decide +kernel
theorem dX7_endOrder_45 : decode cX7_endOrder 45 = .ok (.return_, 1) := by decide +kernel
theorem dX7_tellCode_0 : decode cX7_tellCode 0 = .ok (.iconst 0, 1) := by decide +kernel
theorem dX7_tellCode_1 : decode cX7_tellCode 1 = .ok (.istore_n 2, 1) := by decide +kernel
theorem dX7_tellCode_2 : decode cX7_tellCode 2 = .ok (.iload_n 2, 1) := by decide +kernel
theorem dX7_tellCode_3 : decode cX7_tellCode 3 = .ok (.aload_n 1, 1) := by decide +kernel
theorem dX7_tellCode_4 : decode cX7_tellCode 4 = .ok (.invokevirtual 174, 3) := by decide +kernel
theorem dX7_tellCode_7 : decode cX7_tellCode 7 = .ok (.if_icmp .ge 71, 3) := by decide +kernel
theorem dX7_tellCode_10 : decode cX7_tellCode 10 = .ok (.iload_n 2, 1) := by decide +kernel
theorem dX7_tellCode_11 : decode cX7_tellCode 11 = .ok (.sipush 400, 3) := by decide +kernel
theorem dX7_tellCode_14 : decode cX7_tellCode 14 = .ok (.if_icmp .ge 64, 3) := by decide +kernel
theorem dX7_tellCode_17 : decode cX7_tellCode 17 = .ok (.aload_n 1, 1) := by decide +kernel
theorem dX7_tellCode_18 : decode cX7_tellCode 18 = .ok (.getfield 177, 3) := by decide +kernel
theorem dX7_tellCode_21 : decode cX7_tellCode 21 = .ok (.iload_n 2, 1) := by decide +kernel
theorem dX7_tellCode_22 : decode cX7_tellCode 22 = .ok (.iaload, 1) := by decide +kernel
theorem dX7_tellCode_23 : decode cX7_tellCode 23 = .ok (.istore_n 3, 1) := by decide +kernel
theorem dX7_tellCode_24 : decode cX7_tellCode 24 = .ok (.aload_n 1, 1) := by decide +kernel
theorem dX7_tellCode_25 : decode cX7_tellCode 25 = .ok (.getfield 180, 3) := by decide +kernel
theorem dX7_tellCode_28 : decode cX7_tellCode 28 = .ok (.iload_n 2, 1) := by decide +kernel
theorem dX7_tellCode_29 : decode cX7_tellCode 29 = .ok (.iaload, 1) := by decide +kernel
theorem dX7_tellCode_30 : decode cX7_tellCode 30 = .ok (.istore 4, 2) := by decide +kernel
theorem dX7_tellCode_32 : decode cX7_tellCode 32 = .ok (.iload_n 3, 1) := by decide +kernel
theorem dX7_tellCode_33 : decode cX7_tellCode 33 = .ok (.bipush 17, 2) := by decide +kernel
theorem dX7_tellCode_35 : decode cX7_tellCode 35 = .ok (.if_icmp .lt 37, 3) := by decide +kernel
theorem dX7_tellCode_38 : decode cX7_tellCode 38 = .ok (.iload_n 3, 1) := by decide +kernel
theorem dX7_tellCode_39 : decode cX7_tellCode 39 = .ok (.bipush 22, 2) := by decide +kernel
theorem dX7_tellCode_41 : decode cX7_tellCode 41 = .ok (.if_icmp .gt 31, 3) := by decide +kernel
theorem dX7_tellCode_44 : decode cX7_tellCode 44 = .ok (.iload 4, 2) := by decide +kernel
theorem dX7_tellCode_46 : decode cX7_tellCode 46 = .ok (.ifCond .lt 26, 3) := by decide +kernel
theorem dX7_tellCode_49 : decode cX7_tellCode 49 = .ok (.iload 4, 2) := by decide +kernel
theorem dX7_tellCode_51 : decode cX7_tellCode 51 = .ok (.aload_n 0, 1) := by decide +kernel
theorem dX7_tellCode_52 : decode cX7_tellCode 52 = .ok (.getfield 34, 3) := by decide +kernel
theorem dX7_tellCode_55 : decode cX7_tellCode 55 = .ok (.arraylength, 1) := by decide +kernel
theorem dX7_tellCode_56 : decode cX7_tellCode 56 = .ok (.if_icmp .ge 16, 3) := by decide +kernel
theorem dX7_tellCode_59 : decode cX7_tellCode 59 = .ok (.aload_n 1, 1) := by decide +kernel
theorem dX7_tellCode_60 : decode cX7_tellCode 60 = .ok (.getfield 180, 3) := by decide +kernel
theorem dX7_tellCode_63 : decode cX7_tellCode 63 = .ok (.iload_n 2, 1) := by decide +kernel
theorem dX7_tellCode_64 : decode cX7_tellCode 64 = .ok (.aload_n 0, 1) := by decide +kernel
theorem dX7_tellCode_65 : decode cX7_tellCode 65 = .ok (.getfield 34, 3) := by decide +kernel
theorem dX7_tellCode_68 : decode cX7_tellCode 68 = .ok (.iload 4, 2) := by decide +kernel
theorem dX7_tellCode_70 : decode cX7_tellCode 70 = .ok (.iaload, 1) := by decide +kernel
theorem dX7_tellCode_71 : decode cX7_tellCode 71 = .ok (.iastore, 1) := by decide +kernel
theorem dX7_tellCode_72 : decode cX7_tellCode 72 = .ok (.iinc 2 1, 3) := by decide +kernel
theorem dX7_tellCode_75 : decode cX7_tellCode 75 = .ok (.goto (-73), 3) := by decide +kernel
theorem dX7_tellCode_78 : decode cX7_tellCode 78 = .ok (.return_, 1) := by decide +kernel
theorem dX8_init_0 : decode cX8_init 0 = .ok (.aload_n 0, 1) := by decide +kernel
theorem dX8_init_1 : decode cX8_init 1 = .ok (.invokespecial 1, 3) := by decide +kernel
theorem dX8_init_4 : decode cX8_init 4 = .ok (.aload_n 0, 1) := by decide +kernel
theorem dX8_init_5 : decode cX8_init 5 = .ok (.sipush 401, 3) := by decide +kernel
theorem dX8_init_8 : decode cX8_init 8 = .ok (.newarray .int, 2) := by decide +kernel
theorem dX8_init_10 : decode cX8_init 10 = .ok (.putfield 9, 3) := by decide +kernel
theorem dX8_init_13 : decode cX8_init 13 = .ok (.aload_n 0, 1) := by decide +kernel
theorem dX8_init_14 : decode cX8_init 14 = .ok (.sipush 401, 3) := by decide +kernel
theorem dX8_init_17 : decode cX8_init 17 = .ok (.newarray .long, 2) := by decide +kernel
theorem dX8_init_19 : decode cX8_init 19 = .ok (.putfield 13, 3) := by decide +kernel
theorem dX8_init_22 : decode cX8_init 22 = .ok (.aload_n 0, 1) := by decide +kernel
theorem dX8_init_23 : decode cX8_init 23 = .ok (.sipush 401, 3) := by decide +kernel
theorem dX8_init_26 : decode cX8_init 26 = .ok (.newarray .int, 2) := by decide +kernel
theorem dX8_init_28 : decode cX8_init 28 = .ok (.putfield 17, 3) := by decide +kernel
theorem dX8_init_31 : decode cX8_init 31 = .ok (.aload_n 0, 1) := by decide +kernel
theorem dX8_init_32 : decode cX8_init 32 = .ok (.bipush 28, 2) := by decide +kernel
theorem dX8_init_34 : decode cX8_init 34 = .ok (.newarray .long, 2) := by decide +kernel
theorem dX8_init_36 : decode cX8_init 36 = .ok (.putfield 22, 3) := by decide +kernel
theorem dX8_init_39 : decode cX8_init 39 = .ok (.aload_n 0, 1) := by decide +kernel
theorem dX8_init_40 : decode cX8_init 40 = .ok (.iconst 0, 1) := by decide +kernel
theorem dX8_init_41 : decode cX8_init 41 = .ok (.putfield 25, 3) := by decide +kernel
theorem dX8_init_44 : decode cX8_init 44 = .ok (.aload_n 0, 1) := by decide +kernel
theorem dX8_init_45 : decode cX8_init 45 = .ok (.lconst 0, 1) := by decide +kernel
theorem dX8_init_46 : decode cX8_init 46 = .ok (.putfield 29, 3) := by decide +kernel
theorem dX8_init_49 : decode cX8_init 49 = .ok (.aload_n 0, 1) := by decide +kernel
theorem dX8_init_50 : decode cX8_init 50 = .ok (.iconst 0, 1) := by decide +kernel
theorem dX8_init_51 : decode cX8_init 51 = .ok (.putfield 33, 3) := by decide +kernel
theorem dX8_init_54 : decode cX8_init 54 = .ok (.iconst 0, 1) := by decide +kernel
theorem dX8_init_55 : decode cX8_init 55 = .ok (.istore_n 1, 1) := by decide +kernel
theorem dX8_init_56 : decode cX8_init 56 = .ok (.lconst 0, 1) := by decide +kernel
theorem dX8_init_57 : decode cX8_init 57 = .ok (.lstore_n 2, 1) := by decide +kernel
theorem dX8_init_58 : decode cX8_init 58 = .ok (.iconst 0, 1) := by decide +kernel
theorem dX8_init_59 : decode cX8_init 59 = .ok (.istore 4, 2) := by decide +kernel
theorem dX8_init_61 : decode cX8_init 61 = .ok (.iload 4, 2) := by decide +kernel
theorem dX8_init_63 : decode cX8_init 63 = .ok (.ldc 36, 2) := by decide +kernel
theorem dX8_init_65 : decode cX8_init 65 = .ok (.invokevirtual 38, 3) := by decide +kernel
theorem dX8_init_68 : decode cX8_init 68 = .ok (.if_icmp .ge 62, 3) := by decide +kernel
theorem dX8_init_71 : decode cX8_init 71 = .ok (.ldc 36, 2) := by decide +kernel
theorem dX8_init_73 : decode cX8_init 73 = .ok (.iload 4, 2) := by decide +kernel
theorem dX8_init_75 : decode cX8_init 75 = .ok (.invokevirtual 44, 3) := by decide +kernel
theorem dX8_init_78 : decode cX8_init 78 = .ok (.istore 5, 2) := by decide +kernel
theorem dX8_init_80 : decode cX8_init 80 = .ok (.iload 5, 2) := by decide +kernel
theorem dX8_init_82 : decode cX8_init 82 = .ok (.bipush 32, 2) := by decide +kernel
theorem dX8_init_84 : decode cX8_init 84 = .ok (.if_icmp .eq 19, 3) := by decide +kernel
theorem dX8_init_87 : decode cX8_init 87 = .ok (.lload_n 2, 1) := by decide +kernel
theorem dX8_init_88 : decode cX8_init 88 = .ok (.ldc2_w 48, 3) := by decide +kernel
theorem dX8_init_91 : decode cX8_init 91 = .ok (.lmul, 1) := by decide +kernel
theorem dX8_init_92 : decode cX8_init 92 = .ok (.iload 5, 2) := by decide +kernel
theorem dX8_init_94 : decode cX8_init 94 = .ok (.invokestatic 50, 3) := by decide +kernel
theorem dX8_init_97 : decode cX8_init 97 = .ok (.i2l, 1) := by decide +kernel
theorem dX8_init_98 : decode cX8_init 98 = .ok (.ladd, 1) := by decide +kernel
theorem dX8_init_99 : decode cX8_init 99 = .ok (.lstore_n 2, 1) := by decide +kernel
theorem dX8_init_100 : decode cX8_init 100 = .ok (.goto 24, 3) := by decide +kernel
theorem dX8_init_103 : decode cX8_init 103 = .ok (.iload_n 1, 1) := by decide +kernel
theorem dX8_init_104 : decode cX8_init 104 = .ok (.aload_n 0, 1) := by decide +kernel
theorem dX8_init_105 : decode cX8_init 105 = .ok (.getfield 22, 3) := by decide +kernel
theorem dX8_init_108 : decode cX8_init 108 = .ok (.arraylength, 1) := by decide +kernel
theorem dX8_init_109 : decode cX8_init 109 = .ok (.if_icmp .ge 15, 3) := by decide +kernel
theorem dX8_init_112 : decode cX8_init 112 = .ok (.aload_n 0, 1) := by decide +kernel
theorem dX8_init_113 : decode cX8_init 113 = .ok (.getfield 22, 3) := by decide +kernel
theorem dX8_init_116 : decode cX8_init 116 = .ok (.iload_n 1, 1) := by decide +kernel
theorem dX8_init_117 : decode cX8_init 117 = .ok (.lload_n 2, 1) := by decide +kernel
theorem dX8_init_118 : decode cX8_init 118 = .ok (.lastore, 1) := by decide +kernel
theorem dX8_init_119 : decode cX8_init 119 = .ok (.lconst 0, 1) := by decide +kernel
theorem dX8_init_120 : decode cX8_init 120 = .ok (.lstore_n 2, 1) := by decide +kernel
theorem dX8_init_121 : decode cX8_init 121 = .ok (.iinc 1 1, 3) := by decide +kernel
theorem dX8_init_124 : decode cX8_init 124 = .ok (.iinc 4 1, 3) := by decide +kernel
theorem dX8_init_127 : decode cX8_init 127 = .ok (.goto (-66), 3) := by decide +kernel
theorem dX8_init_130 : decode cX8_init 130 = .ok (.return_, 1) := by decide +kernel
theorem dX8_readAll_0 : decode cX8_readAll 0 = .ok (.aload_n 0, 1) := by decide +kernel
theorem dX8_readAll_1 : decode cX8_readAll 1 = .ok (.iconst 0, 1) := by decide +kernel
theorem dX8_readAll_2 : decode cX8_readAll 2 = .ok (.putfield 25, 3) := by decide +kernel
theorem dX8_readAll_5 : decode cX8_readAll 5 = .ok (.aload_n 0, 1) := by decide +kernel
theorem dX8_readAll_6 : decode cX8_readAll 6 = .ok (.iconst 0, 1) := by decide +kernel
theorem dX8_readAll_7 : decode cX8_readAll 7 = .ok (.putfield 33, 3) := by decide +kernel
theorem dX8_readAll_10 : decode cX8_readAll 10 = .ok (.iconst 1, 1) := by decide +kernel
theorem dX8_readAll_11 : decode cX8_readAll 11 = .ok (.istore_n 2, 1) := by decide +kernel
theorem dX8_readAll_12 : decode cX8_readAll 12 = .ok (.iconst 0, 1) := by decide +kernel
theorem dX8_readAll_13 : decode cX8_readAll 13 = .ok (.istore_n 3, 1) := by decide +kernel
theorem dX8_readAll_14 : decode cX8_readAll 14 = .ok (.iload_n 3, 1) := by decide +kernel
theorem dX8_readAll_15 : decode cX8_readAll 15 = .ok (.sipush 400, 3) := by decide +kernel
theorem dX8_readAll_18 : decode cX8_readAll 18 = .ok (.if_icmp .gt 103, 3) := by decide +kernel
theorem dX8_readAll_21 : decode cX8_readAll 21 = .ok (.iload_n 2, 1) := by decide +kernel
theorem dX8_readAll_22 : decode cX8_readAll 22 = .ok (.ifCond .eq 99, 3) := by decide +kernel
theorem dX8_readAll_25 : decode cX8_readAll 25 = .ok (.aload_n 1, 1) := by decide +kernel
theorem dX8_readAll_26 : decode cX8_readAll 26 = .ok (.aload_n 0, 1) := by decide +kernel
theorem dX8_readAll_27 : decode cX8_readAll 27 = .ok (.getfield 33, 3) := by decide +kernel
theorem dX8_readAll_30 : decode cX8_readAll 30 = .ok (.invokevirtual 54, 3) := by decide +kernel
theorem dX8_readAll_33 : decode cX8_readAll 33 = .ok (.istore 4, 2) := by decide +kernel
theorem dX8_readAll_35 : decode cX8_readAll 35 = .ok (.aload_n 0, 1) := by decide +kernel
theorem dX8_readAll_36 : decode cX8_readAll 36 = .ok (.aload_n 1, 1) := by decide +kernel
theorem dX8_readAll_37 : decode cX8_readAll 37 = .ok (.iload 4, 2) := by decide +kernel
theorem dX8_readAll_39 : decode cX8_readAll 39 = .ok (.invokevirtual 59, 3) := by decide +kernel
theorem dX8_readAll_42 : decode cX8_readAll 42 = .ok (.istore 5, 2) := by decide +kernel
theorem dX8_readAll_44 : decode cX8_readAll 44 = .ok (.iload_n 3, 1) := by decide +kernel
theorem dX8_readAll_45 : decode cX8_readAll 45 = .ok (.sipush 400, 3) := by decide +kernel
theorem dX8_readAll_48 : decode cX8_readAll 48 = .ok (.if_icmp .ne 14, 3) := by decide +kernel
theorem dX8_readAll_51 : decode cX8_readAll 51 = .ok (.iload 5, 2) := by decide +kernel
theorem dX8_readAll_53 : decode cX8_readAll 53 = .ok (.bipush 45, 2) := by decide +kernel
theorem dX8_readAll_55 : decode cX8_readAll 55 = .ok (.if_icmp .eq 7, 3) := by decide +kernel
theorem dX8_readAll_58 : decode cX8_readAll 58 = .ok (.bipush 46, 2) := by decide +kernel
theorem dX8_readAll_60 : decode cX8_readAll 60 = .ok (.istore 5, 2) := by decide +kernel
theorem dX8_readAll_62 : decode cX8_readAll 62 = .ok (.aload_n 0, 1) := by decide +kernel
theorem dX8_readAll_63 : decode cX8_readAll 63 = .ok (.getfield 9, 3) := by decide +kernel
theorem dX8_readAll_66 : decode cX8_readAll 66 = .ok (.iload_n 3, 1) := by decide +kernel
theorem dX8_readAll_67 : decode cX8_readAll 67 = .ok (.iload 5, 2) := by decide +kernel
theorem dX8_readAll_69 : decode cX8_readAll 69 = .ok (.iastore, 1) := by decide +kernel
theorem dX8_readAll_70 : decode cX8_readAll 70 = .ok (.aload_n 0, 1) := by decide +kernel
theorem dX8_readAll_71 : decode cX8_readAll 71 = .ok (.getfield 13, 3) := by decide +kernel
theorem dX8_readAll_74 : decode cX8_readAll 74 = .ok (.iload_n 3, 1) := by decide +kernel
theorem dX8_readAll_75 : decode cX8_readAll 75 = .ok (.aload_n 0, 1) := by decide +kernel
theorem dX8_readAll_76 : decode cX8_readAll 76 = .ok (.getfield 29, 3) := by decide +kernel
theorem dX8_readAll_79 : decode cX8_readAll 79 = .ok (.lastore, 1) := by decide +kernel
theorem dX8_readAll_80 : decode cX8_readAll 80 = .ok (.aload_n 0, 1) := by decide +kernel
theorem dX8_readAll_81 : decode cX8_readAll 81 = .ok (.getfield 17, 3) := by decide +kernel
theorem dX8_readAll_84 : decode cX8_readAll 84 = .ok (.iload_n 3, 1) := by decide +kernel
theorem dX8_readAll_85 : decode cX8_readAll 85 = .ok (.iload 4, 2) := by decide +kernel
theorem dX8_readAll_87 : decode cX8_readAll 87 = .ok (.iastore, 1) := by decide +kernel
theorem dX8_readAll_88 : decode cX8_readAll 88 = .ok (.aload_n 0, 1) := by decide +kernel
theorem dX8_readAll_89 : decode cX8_readAll 89 = .ok (.iload_n 3, 1) := by decide +kernel
theorem dX8_readAll_90 : decode cX8_readAll 90 = .ok (.iconst 1, 1) := by decide +kernel
theorem dX8_readAll_91 : decode cX8_readAll 91 = .ok (.iadd, 1) := by decide +kernel
theorem dX8_readAll_92 : decode cX8_readAll 92 = .ok (.putfield 25, 3) := by decide +kernel
theorem dX8_readAll_95 : decode cX8_readAll 95 = .ok (.iload 5, 2) := by decide +kernel
theorem dX8_readAll_97 : decode cX8_readAll 97 = .ok (.bipush 45, 2) := by decide +kernel
theorem dX8_readAll_99 : decode cX8_readAll 99 = .ok (.if_icmp .eq 14, 3) := by decide +kernel
theorem dX8_readAll_102 : decode cX8_readAll 102 = .ok (.iload 5, 2) := by decide +kernel
theorem dX8_readAll_104 : decode cX8_readAll 104 = .ok (.bipush 46, 2) := by decide +kernel
theorem dX8_readAll_106 : decode cX8_readAll 106 = .ok (.if_icmp .eq 7, 3) := by decide +kernel
theorem dX8_readAll_109 : decode cX8_readAll 109 = .ok (.iconst 1, 1) := by decide +kernel
theorem dX8_readAll_110 : decode cX8_readAll 110 = .ok (.goto 4, 3) := by decide +kernel
theorem dX8_readAll_113 : decode cX8_readAll 113 = .ok (.iconst 0, 1) := by decide +kernel
theorem dX8_readAll_114 : decode cX8_readAll 114 = .ok (.istore_n 2, 1) := by decide +kernel
theorem dX8_readAll_115 : decode cX8_readAll 115 = .ok (.iinc 3 1, 3) := by decide +kernel
theorem dX8_readAll_118 : decode cX8_readAll 118 = .ok (.goto (-104), 3) := by decide +kernel
theorem dX8_readAll_121 : decode cX8_readAll 121 = .ok (.return_, 1) := by decide +kernel
theorem dX8_length_0 : decode cX8_length 0 = .ok (.aload_n 0, 1) := by decide +kernel
theorem dX8_length_1 : decode cX8_length 1 = .ok (.getfield 25, 3) := by decide +kernel
theorem dX8_length_4 : decode cX8_length 4 = .ok (.ireturn, 1) := by decide +kernel
theorem dX8_numberOf_0 : decode cX8_numberOf 0 = .ok (.iload_n 1, 1) := by decide +kernel
theorem dX8_numberOf_1 : decode cX8_numberOf 1 = .ok (.ifCond .lt 11, 3) := by decide +kernel
theorem dX8_numberOf_4 : decode cX8_numberOf 4 = .ok (.iload_n 1, 1) := by decide +kernel
theorem dX8_numberOf_5 : decode cX8_numberOf 5 = .ok (.aload_n 0, 1) := by decide +kernel
theorem dX8_numberOf_6 : decode cX8_numberOf 6 = .ok (.getfield 25, 3) := by decide +kernel
theorem dX8_numberOf_9 : decode cX8_numberOf 9 = .ok (.if_icmp .lt 7, 3) := by decide +kernel
theorem dX8_numberOf_12 : decode cX8_numberOf 12 = .ok (.iconst 0, 1) := by decide +kernel
theorem dX8_numberOf_13 : decode cX8_numberOf 13 = .ok (.goto 10, 3) := by decide +kernel
theorem dX8_numberOf_16 : decode cX8_numberOf 16 = .ok (.aload_n 0, 1) := by decide +kernel
theorem dX8_numberOf_17 : decode cX8_numberOf 17 = .ok (.getfield 13, 3) := by decide +kernel
theorem dX8_numberOf_20 : decode cX8_numberOf 20 = .ok (.iload_n 1, 1) := by decide +kernel
theorem dX8_numberOf_21 : decode cX8_numberOf 21 = .ok (.laload, 1) := by decide +kernel
theorem dX8_numberOf_22 : decode cX8_numberOf 22 = .ok (.l2i, 1) := by decide +kernel
theorem dX8_numberOf_23 : decode cX8_numberOf 23 = .ok (.ireturn, 1) := by decide +kernel
theorem dX8_kindOf_0 : decode cX8_kindOf 0 = .ok (.iload_n 1, 1) := by decide +kernel
theorem dX8_kindOf_1 : decode cX8_kindOf 1 = .ok (.ifCond .lt 11, 3) := by decide +kernel
theorem dX8_kindOf_4 : decode cX8_kindOf 4 = .ok (.iload_n 1, 1) := by decide +kernel
theorem dX8_kindOf_5 : decode cX8_kindOf 5 = .ok (.aload_n 0, 1) := by decide +kernel
theorem dX8_kindOf_6 : decode cX8_kindOf 6 = .ok (.getfield 25, 3) := by decide +kernel
theorem dX8_kindOf_9 : decode cX8_kindOf 9 = .ok (.if_icmp .lt 8, 3) := by decide +kernel
theorem dX8_kindOf_12 : decode cX8_kindOf 12 = .ok (.bipush 46, 2) := by decide +kernel
theorem dX8_kindOf_14 : decode cX8_kindOf 14 = .ok (.goto 9, 3) := by decide +kernel
theorem dX8_kindOf_17 : decode cX8_kindOf 17 = .ok (.aload_n 0, 1) := by decide +kernel
theorem dX8_kindOf_18 : decode cX8_kindOf 18 = .ok (.getfield 9, 3) := by decide +kernel
theorem dX8_kindOf_21 : decode cX8_kindOf 21 = .ok (.iload_n 1, 1) := by decide +kernel
theorem dX8_kindOf_22 : decode cX8_kindOf 22 = .ok (.iaload, 1) := by decide +kernel
theorem dX8_kindOf_23 : decode cX8_kindOf 23 = .ok (.ireturn, 1) := by decide +kernel
theorem dX8_positionOf_0 : decode cX8_positionOf 0 = .ok (.iload_n 1, 1) := by decide +kernel
theorem dX8_positionOf_1 : decode cX8_positionOf 1 = .ok (.ifCond .lt 11, 3) := by decide +kernel
theorem dX8_positionOf_4 : decode cX8_positionOf 4 = .ok (.iload_n 1, 1) := by decide +kernel
theorem dX8_positionOf_5 : decode cX8_positionOf 5 = .ok (.aload_n 0, 1) := by decide +kernel
theorem dX8_positionOf_6 : decode cX8_positionOf 6 = .ok (.getfield 25, 3) := by decide +kernel
theorem dX8_positionOf_9 : decode cX8_positionOf 9 = .ok (.if_icmp .lt 7, 3) := by decide +kernel
theorem dX8_positionOf_12 : decode cX8_positionOf 12 = .ok (.iconst (-1), 1) := by decide +kernel
theorem dX8_positionOf_13 : decode cX8_positionOf 13 = .ok (.goto 9, 3) := by decide +kernel
theorem dX8_positionOf_16 : decode cX8_positionOf 16 = .ok (.aload_n 0, 1) := by decide +kernel
theorem dX8_positionOf_17 : decode cX8_positionOf 17 = .ok (.getfield 17, 3) := by decide +kernel
theorem dX8_positionOf_20 : decode cX8_positionOf 20 = .ok (.iload_n 1, 1) := by decide +kernel
theorem dX8_positionOf_21 : decode cX8_positionOf 21 = .ok (.iaload, 1) := by decide +kernel
theorem dX8_positionOf_22 : decode cX8_positionOf 22 = .ok (.ireturn, 1) := by decide +kernel
theorem dX8_kindOfNext_0 : decode cX8_kindOfNext 0 = .ok (.aload_n 0, 1) := by decide +kernel
theorem dX8_kindOfNext_1 : decode cX8_kindOfNext 1 = .ok (.lconst 0, 1) := by decide +kernel
theorem dX8_kindOfNext_2 : decode cX8_kindOfNext 2 = .ok (.putfield 29, 3) := by decide +kernel
theorem dX8_kindOfNext_5 : decode cX8_kindOfNext 5 = .ok (.aload_n 0, 1) := by decide +kernel
theorem dX8_kindOfNext_6 : decode cX8_kindOfNext 6 = .ok (.iload_n 2, 1) := by decide +kernel
theorem dX8_kindOfNext_7 : decode cX8_kindOfNext 7 = .ok (.putfield 33, 3) := by decide +kernel
theorem dX8_kindOfNext_10 : decode cX8_kindOfNext 10 = .ok (.aload_n 1, 1) := by decide +kernel
theorem dX8_kindOfNext_11 : decode cX8_kindOfNext 11 = .ok (.iload_n 2, 1) := by decide +kernel
theorem dX8_kindOfNext_12 : decode cX8_kindOfNext 12 = .ok (.invokevirtual 63, 3) := by decide +kernel
theorem dX8_kindOfNext_15 : decode cX8_kindOfNext 15 = .ok (.istore_n 3, 1) := by decide +kernel
theorem dX8_kindOfNext_16 : decode cX8_kindOfNext 16 = .ok (.iload_n 3, 1) := by decide +kernel
theorem dX8_kindOfNext_17 : decode cX8_kindOfNext 17 = .ok (.ifCond .ge 6, 3) := by decide +kernel
theorem dX8_kindOfNext_20 : decode cX8_kindOfNext 20 = .ok (.bipush 45, 2) := by decide +kernel
theorem dX8_kindOfNext_22 : decode cX8_kindOfNext 22 = .ok (.ireturn, 1) := by decide +kernel
theorem dX8_kindOfNext_23 : decode cX8_kindOfNext 23 = .ok (.iload_n 3, 1) := by decide +kernel
theorem dX8_kindOfNext_24 : decode cX8_kindOfNext 24 = .ok (.invokestatic 66, 3) := by decide +kernel
theorem dX8_kindOfNext_27 : decode cX8_kindOfNext 27 = .ok (.ifCond .eq 10, 3) := by decide +kernel
theorem dX8_kindOfNext_30 : decode cX8_kindOfNext 30 = .ok (.aload_n 0, 1) := by decide +kernel
theorem dX8_kindOfNext_31 : decode cX8_kindOfNext 31 = .ok (.aload_n 1, 1) := by decide +kernel
theorem dX8_kindOfNext_32 : decode cX8_kindOfNext 32 = .ok (.iload_n 2, 1) := by decide +kernel
theorem dX8_kindOfNext_33 : decode cX8_kindOfNext 33 = .ok (.invokevirtual 70, 3) := by decide +kernel
theorem dX8_kindOfNext_36 : decode cX8_kindOfNext 36 = .ok (.ireturn, 1) := by decide +kernel
theorem dX8_kindOfNext_37 : decode cX8_kindOfNext 37 = .ok (.iload_n 3, 1) := by decide +kernel
theorem dX8_kindOfNext_38 : decode cX8_kindOfNext 38 = .ok (.invokestatic 73, 3) := by decide +kernel
theorem dX8_kindOfNext_41 : decode cX8_kindOfNext 41 = .ok (.ifCond .eq 12, 3) := by decide +kernel
theorem dX8_kindOfNext_44 : decode cX8_kindOfNext 44 = .ok (.aload_n 0, 1) := by decide +kernel
theorem dX8_kindOfNext_45 : decode cX8_kindOfNext 45 = .ok (.aload_n 1, 1) := by decide +kernel
theorem dX8_kindOfNext_46 : decode cX8_kindOfNext 46 = .ok (.iload_n 2, 1) := by decide +kernel
theorem dX8_kindOfNext_47 : decode cX8_kindOfNext 47 = .ok (.invokevirtual 76, 3) := by decide +kernel
theorem dX8_kindOfNext_50 : decode cX8_kindOfNext 50 = .ok (.goto 10, 3) := by decide +kernel
theorem dX8_kindOfNext_53 : decode cX8_kindOfNext 53 = .ok (.aload_n 0, 1) := by decide +kernel
theorem dX8_kindOfNext_54 : decode cX8_kindOfNext 54 = .ok (.aload_n 1, 1) := by decide +kernel
theorem dX8_kindOfNext_55 : decode cX8_kindOfNext 55 = .ok (.iload_n 2, 1) := by decide +kernel
theorem dX8_kindOfNext_56 : decode cX8_kindOfNext 56 = .ok (.iload_n 3, 1) := by decide +kernel
theorem dX8_kindOfNext_57 : decode cX8_kindOfNext 57 = .ok (.invokevirtual 79, 3) := by decide +kernel
theorem dX8_kindOfNext_60 : decode cX8_kindOfNext 60 = .ok (.ireturn, 1) := by decide +kernel
theorem dX8_kindOfWord_0 : decode cX8_kindOfWord 0 = .ok (.iconst 0, 1) := by decide +kernel
theorem dX8_kindOfWord_1 : decode cX8_kindOfWord 1 = .ok (.istore_n 3, 1) := by decide +kernel
theorem dX8_kindOfWord_2 : decode cX8_kindOfWord 2 = .ok (.aload_n 1, 1) := by decide +kernel
theorem dX8_kindOfWord_3 : decode cX8_kindOfWord 3 = .ok (.iload_n 2, 1) := by decide +kernel
theorem dX8_kindOfWord_4 : decode cX8_kindOfWord 4 = .ok (.invokevirtual 63, 3) := by decide +kernel
theorem dX8_kindOfWord_7 : decode cX8_kindOfWord 7 = .ok (.istore 4, 2) := by decide +kernel
theorem dX8_kindOfWord_9 : decode cX8_kindOfWord 9 = .ok (.iload_n 3, 1) := by decide +kernel
theorem dX8_kindOfWord_10 : decode cX8_kindOfWord 10 = .ok (.sipush 2000, 3) := by decide +kernel
theorem dX8_kindOfWord_13 : decode cX8_kindOfWord 13 = .ok (.if_icmp .ge 53, 3) := by decide +kernel
theorem dX8_kindOfWord_16 : decode cX8_kindOfWord 16 = .ok (.iload 4, 2) := by decide +kernel
theorem dX8_kindOfWord_18 : decode cX8_kindOfWord 18 = .ok (.invokestatic 66, 3) := by decide +kernel
theorem dX8_kindOfWord_21 : decode cX8_kindOfWord 21 = .ok (.ifCond .ne 11, 3) := by decide +kernel
theorem dX8_kindOfWord_24 : decode cX8_kindOfWord 24 = .ok (.iload 4, 2) := by decide +kernel
theorem dX8_kindOfWord_26 : decode cX8_kindOfWord 26 = .ok (.invokestatic 73, 3) := by decide +kernel
theorem dX8_kindOfWord_29 : decode cX8_kindOfWord 29 = .ok (.ifCond .eq 37, 3) := by decide +kernel
theorem dX8_kindOfWord_32 : decode cX8_kindOfWord 32 = .ok (.aload_n 0, 1) := by decide +kernel
theorem dX8_kindOfWord_33 : decode cX8_kindOfWord 33 = .ok (.aload_n 0, 1) := by decide +kernel
theorem dX8_kindOfWord_34 : decode cX8_kindOfWord 34 = .ok (.getfield 29, 3) := by decide +kernel
theorem dX8_kindOfWord_37 : decode cX8_kindOfWord 37 = .ok (.ldc2_w 48, 3) := by decide +kernel
theorem dX8_kindOfWord_40 : decode cX8_kindOfWord 40 = .ok (.lmul, 1) := by decide +kernel
theorem dX8_kindOfWord_41 : decode cX8_kindOfWord 41 = .ok (.iload 4, 2) := by decide +kernel
theorem dX8_kindOfWord_43 : decode cX8_kindOfWord 43 = .ok (.invokestatic 50, 3) := by decide +kernel
theorem dX8_kindOfWord_46 : decode cX8_kindOfWord 46 = .ok (.i2l, 1) := by decide +kernel
theorem dX8_kindOfWord_47 : decode cX8_kindOfWord 47 = .ok (.ladd, 1) := by decide +kernel
theorem dX8_kindOfWord_48 : decode cX8_kindOfWord 48 = .ok (.putfield 29, 3) := by decide +kernel
theorem dX8_kindOfWord_51 : decode cX8_kindOfWord 51 = .ok (.iinc 3 1, 3) := by decide +kernel
theorem dX8_kindOfWord_54 : decode cX8_kindOfWord 54 = .ok (.aload_n 1, 1) := by decide +kernel
theorem dX8_kindOfWord_55 : decode cX8_kindOfWord 55 = .ok (.iload_n 2, 1) := by decide +kernel
theorem dX8_kindOfWord_56 : decode cX8_kindOfWord 56 = .ok (.iload_n 3, 1) := by decide +kernel
theorem dX8_kindOfWord_57 : decode cX8_kindOfWord 57 = .ok (.iadd, 1) := by decide +kernel
theorem dX8_kindOfWord_58 : decode cX8_kindOfWord 58 = .ok (.invokevirtual 63, 3) := by decide +kernel
theorem dX8_kindOfWord_61 : decode cX8_kindOfWord 61 = .ok (.istore 4, 2) := by decide +kernel
theorem dX8_kindOfWord_63 : decode cX8_kindOfWord 63 = .ok (.goto (-54), 3) := by decide +kernel
theorem dX8_kindOfWord_66 : decode cX8_kindOfWord 66 = .ok (.aload_n 0, 1) := by decide +kernel
theorem dX8_kindOfWord_67 : decode cX8_kindOfWord 67 = .ok (.iload_n 2, 1) := by decide +kernel
theorem dX8_kindOfWord_68 : decode cX8_kindOfWord 68 = .ok (.iload_n 3, 1) := by decide +kernel
theorem dX8_kindOfWord_69 : decode cX8_kindOfWord 69 = .ok (.iadd, 1) := by decide +kernel
theorem dX8_kindOfWord_70 : decode cX8_kindOfWord 70 = .ok (.putfield 33, 3) := by decide +kernel
theorem dX8_kindOfWord_73 : decode cX8_kindOfWord 73 = .ok (.iload_n 3, 1) := by decide +kernel
theorem dX8_kindOfWord_74 : decode cX8_kindOfWord 74 = .ok (.bipush 10, 2) := by decide +kernel
theorem dX8_kindOfWord_76 : decode cX8_kindOfWord 76 = .ok (.if_icmp .le 6, 3) := by decide +kernel
theorem dX8_kindOfWord_79 : decode cX8_kindOfWord 79 = .ok (.bipush 46, 2) := by decide +kernel
theorem dX8_kindOfWord_81 : decode cX8_kindOfWord 81 = .ok (.ireturn, 1) := by decide +kernel
theorem dX8_kindOfWord_82 : decode cX8_kindOfWord 82 = .ok (.iconst 0, 1) := by decide +kernel
theorem dX8_kindOfWord_83 : decode cX8_kindOfWord 83 = .ok (.istore 5, 2) := by decide +kernel
theorem dX8_kindOfWord_85 : decode cX8_kindOfWord 85 = .ok (.iload 5, 2) := by decide +kernel
theorem dX8_kindOfWord_87 : decode cX8_kindOfWord 87 = .ok (.aload_n 0, 1) := by decide +kernel
theorem dX8_kindOfWord_88 : decode cX8_kindOfWord 88 = .ok (.getfield 22, 3) := by decide +kernel
theorem dX8_kindOfWord_91 : decode cX8_kindOfWord 91 = .ok (.arraylength, 1) := by decide +kernel
theorem dX8_kindOfWord_92 : decode cX8_kindOfWord 92 = .ok (.if_icmp .ge 27, 3) := by decide +kernel
theorem dX8_kindOfWord_95 : decode cX8_kindOfWord 95 = .ok (.aload_n 0, 1) := by decide +kernel
theorem dX8_kindOfWord_96 : decode cX8_kindOfWord 96 = .ok (.getfield 22, 3) := by decide +kernel
theorem dX8_kindOfWord_99 : decode cX8_kindOfWord 99 = .ok (.iload 5, 2) := by decide +kernel
theorem dX8_kindOfWord_101 : decode cX8_kindOfWord 101 = .ok (.laload, 1) := by decide +kernel
theorem dX8_kindOfWord_102 : decode cX8_kindOfWord 102 = .ok (.aload_n 0, 1) := by decide +kernel
theorem dX8_kindOfWord_103 : decode cX8_kindOfWord 103 = .ok (.getfield 29, 3) := by decide +kernel
theorem dX8_kindOfWord_106 : decode cX8_kindOfWord 106 = .ok (.lcmp, 1) := by decide +kernel
theorem dX8_kindOfWord_107 : decode cX8_kindOfWord 107 = .ok (.ifCond .ne 6, 3) := by decide +kernel
theorem dX8_kindOfWord_110 : decode cX8_kindOfWord 110 = .ok (.iload 5, 2) := by decide +kernel
theorem dX8_kindOfWord_112 : decode cX8_kindOfWord 112 = .ok (.ireturn, 1) := by decide +kernel
theorem dX8_kindOfWord_113 : decode cX8_kindOfWord 113 = .ok (.iinc 5 1, 3) := by decide +kernel
theorem dX8_kindOfWord_116 : decode cX8_kindOfWord 116 = .ok (.goto (-31), 3) := by decide +kernel
theorem dX8_kindOfWord_119 : decode cX8_kindOfWord 119 = .ok (.bipush 28, 2) := by decide +kernel
theorem dX8_kindOfWord_121 : decode cX8_kindOfWord 121 = .ok (.ireturn, 1) := by decide +kernel
theorem dX8_kindOfNumber_0 : decode cX8_kindOfNumber 0 = .ok (.iconst 0, 1) := by decide +kernel
theorem dX8_kindOfNumber_1 : decode cX8_kindOfNumber 1 = .ok (.istore_n 3, 1) := by decide +kernel
theorem dX8_kindOfNumber_2 : decode cX8_kindOfNumber 2 = .ok (.aload_n 1, 1) := by decide +kernel
theorem dX8_kindOfNumber_3 : decode cX8_kindOfNumber 3 = .ok (.iload_n 2, 1) := by decide +kernel
theorem dX8_kindOfNumber_4 : decode cX8_kindOfNumber 4 = .ok (.invokevirtual 63, 3) := by decide +kernel
theorem dX8_kindOfNumber_7 : decode cX8_kindOfNumber 7 = .ok (.istore 4, 2) := by decide +kernel
theorem dX8_kindOfNumber_9 : decode cX8_kindOfNumber 9 = .ok (.iload_n 3, 1) := by decide +kernel
theorem dX8_kindOfNumber_10 : decode cX8_kindOfNumber 10 = .ok (.sipush 2000, 3) := by decide +kernel
theorem dX8_kindOfNumber_13 : decode cX8_kindOfNumber 13 = .ok (.if_icmp .ge 46, 3) := by decide +kernel
theorem dX8_kindOfNumber_16 : decode cX8_kindOfNumber 16 = .ok (.iload 4, 2) := by decide +kernel
theorem dX8_kindOfNumber_18 : decode cX8_kindOfNumber 18 = .ok (.invokestatic 73, 3) := by decide +kernel
theorem dX8_kindOfNumber_21 : decode cX8_kindOfNumber 21 = .ok (.ifCond .eq 38, 3) := by decide +kernel
theorem dX8_kindOfNumber_24 : decode cX8_kindOfNumber 24 = .ok (.aload_n 0, 1) := by decide +kernel
theorem dX8_kindOfNumber_25 : decode cX8_kindOfNumber 25 = .ok (.aload_n 0, 1) := by decide +kernel
theorem dX8_kindOfNumber_26 : decode cX8_kindOfNumber 26 = .ok (.getfield 29, 3) := by decide +kernel
theorem dX8_kindOfNumber_29 : decode cX8_kindOfNumber 29 = .ok (.ldc2_w 83, 3) := by decide +kernel
theorem dX8_kindOfNumber_32 : decode cX8_kindOfNumber 32 = .ok (.lmul, 1) := by decide +kernel
theorem dX8_kindOfNumber_33 : decode cX8_kindOfNumber 33 = .ok (.iload 4, 2) := by decide +kernel
theorem dX8_kindOfNumber_35 : decode cX8_kindOfNumber 35 = .ok (.i2l, 1) := by decide +kernel
theorem dX8_kindOfNumber_36 : decode cX8_kindOfNumber 36 = .ok (.ladd, 1) := by decide +kernel
theorem dX8_kindOfNumber_37 : decode cX8_kindOfNumber 37 = .ok (.ldc2_w 85, 3) := by decide +kernel
theorem dX8_kindOfNumber_40 : decode cX8_kindOfNumber 40 = .ok (.lsub, 1) := by decide +kernel
theorem dX8_kindOfNumber_41 : decode cX8_kindOfNumber 41 = .ok (.putfield 29, 3) := by decide +kernel
theorem dX8_kindOfNumber_44 : decode cX8_kindOfNumber 44 = .ok (.iinc 3 1, 3) := by decide +kernel
theorem dX8_kindOfNumber_47 : decode cX8_kindOfNumber 47 = .ok (.aload_n 1, 1) := by decide +kernel
theorem dX8_kindOfNumber_48 : decode cX8_kindOfNumber 48 = .ok (.iload_n 2, 1) := by decide +kernel
theorem dX8_kindOfNumber_49 : decode cX8_kindOfNumber 49 = .ok (.iload_n 3, 1) := by decide +kernel
theorem dX8_kindOfNumber_50 : decode cX8_kindOfNumber 50 = .ok (.iadd, 1) := by decide +kernel
theorem dX8_kindOfNumber_51 : decode cX8_kindOfNumber 51 = .ok (.invokevirtual 63, 3) := by decide +kernel
theorem dX8_kindOfNumber_54 : decode cX8_kindOfNumber 54 = .ok (.istore 4, 2) := by decide +kernel
theorem dX8_kindOfNumber_56 : decode cX8_kindOfNumber 56 = .ok (.goto (-47), 3) := by decide +kernel
theorem dX8_kindOfNumber_59 : decode cX8_kindOfNumber 59 = .ok (.aload_n 0, 1) := by decide +kernel
theorem dX8_kindOfNumber_60 : decode cX8_kindOfNumber 60 = .ok (.iload_n 2, 1) := by decide +kernel
theorem dX8_kindOfNumber_61 : decode cX8_kindOfNumber 61 = .ok (.iload_n 3, 1) := by decide +kernel
theorem dX8_kindOfNumber_62 : decode cX8_kindOfNumber 62 = .ok (.iadd, 1) := by decide +kernel
theorem dX8_kindOfNumber_63 : decode cX8_kindOfNumber 63 = .ok (.putfield 33, 3) := by decide +kernel
theorem dX8_kindOfNumber_66 : decode cX8_kindOfNumber 66 = .ok (.iload_n 3, 1) := by decide +kernel
theorem dX8_kindOfNumber_67 : decode cX8_kindOfNumber 67 = .ok (.bipush 6, 2) := by decide +kernel
theorem dX8_kindOfNumber_69 : decode cX8_kindOfNumber 69 = .ok (.if_icmp .le 8, 3) := by decide +kernel
theorem dX8_kindOfNumber_72 : decode cX8_kindOfNumber 72 = .ok (.bipush 46, 2) := by decide +kernel
theorem dX8_kindOfNumber_74 : decode cX8_kindOfNumber 74 = .ok (.goto 5, 3) := by decide +kernel
theorem dX8_kindOfNumber_77 : decode cX8_kindOfNumber 77 = .ok (.bipush 29, 2) := by decide +kernel
theorem dX8_kindOfNumber_79 : decode cX8_kindOfNumber 79 = .ok (.ireturn, 1) := by decide +kernel
theorem dX8_kindOfSymbol_0 : decode cX8_kindOfSymbol 0 = .ok (.iload_n 3, 1) := by decide +kernel
theorem dX8_kindOfSymbol_1 : decode cX8_kindOfSymbol 1 = .ok (.bipush 60, 2) := by decide +kernel
theorem dX8_kindOfSymbol_3 : decode cX8_kindOfSymbol 3 = .ok (.if_icmp .eq 9, 3) := by decide +kernel
theorem dX8_kindOfSymbol_6 : decode cX8_kindOfSymbol 6 = .ok (.iload_n 3, 1) := by decide +kernel
theorem dX8_kindOfSymbol_7 : decode cX8_kindOfSymbol 7 = .ok (.bipush 62, 2) := by decide +kernel
theorem dX8_kindOfSymbol_9 : decode cX8_kindOfSymbol 9 = .ok (.if_icmp .ne 36, 3) := by decide +kernel
theorem dX8_kindOfSymbol_12 : decode cX8_kindOfSymbol 12 = .ok (.aload_n 1, 1) := by decide +kernel
theorem dX8_kindOfSymbol_13 : decode cX8_kindOfSymbol 13 = .ok (.iload_n 2, 1) := by decide +kernel
theorem dX8_kindOfSymbol_14 : decode cX8_kindOfSymbol 14 = .ok (.iconst 1, 1) := by decide +kernel
theorem dX8_kindOfSymbol_15 : decode cX8_kindOfSymbol 15 = .ok (.iadd, 1) := by decide +kernel
theorem dX8_kindOfSymbol_16 : decode cX8_kindOfSymbol 16 = .ok (.invokevirtual 63, 3) := by decide +kernel
theorem dX8_kindOfSymbol_19 : decode cX8_kindOfSymbol 19 = .ok (.bipush 61, 2) := by decide +kernel
theorem dX8_kindOfSymbol_21 : decode cX8_kindOfSymbol 21 = .ok (.if_icmp .ne 24, 3) := by decide +kernel
theorem dX8_kindOfSymbol_24 : decode cX8_kindOfSymbol 24 = .ok (.aload_n 0, 1) := by decide +kernel
theorem dX8_kindOfSymbol_25 : decode cX8_kindOfSymbol 25 = .ok (.iload_n 2, 1) := by decide +kernel
theorem dX8_kindOfSymbol_26 : decode cX8_kindOfSymbol 26 = .ok (.iconst 2, 1) := by decide +kernel
theorem dX8_kindOfSymbol_27 : decode cX8_kindOfSymbol 27 = .ok (.iadd, 1) := by decide +kernel
theorem dX8_kindOfSymbol_28 : decode cX8_kindOfSymbol 28 = .ok (.putfield 33, 3) := by decide +kernel
theorem dX8_kindOfSymbol_31 : decode cX8_kindOfSymbol 31 = .ok (.iload_n 3, 1) := by decide +kernel
theorem dX8_kindOfSymbol_32 : decode cX8_kindOfSymbol 32 = .ok (.bipush 60, 2) := by decide +kernel
theorem dX8_kindOfSymbol_34 : decode cX8_kindOfSymbol 34 = .ok (.if_icmp .ne 8, 3) := by decide +kernel
theorem dX8_kindOfSymbol_37 : decode cX8_kindOfSymbol 37 = .ok (.bipush 43, 2) := by decide +kernel
theorem dX8_kindOfSymbol_39 : decode cX8_kindOfSymbol 39 = .ok (.goto 5, 3) := by decide +kernel
theorem dX8_kindOfSymbol_42 : decode cX8_kindOfSymbol 42 = .ok (.bipush 44, 2) := by decide +kernel
theorem dX8_kindOfSymbol_44 : decode cX8_kindOfSymbol 44 = .ok (.ireturn, 1) := by decide +kernel
theorem dX8_kindOfSymbol_45 : decode cX8_kindOfSymbol 45 = .ok (.aload_n 0, 1) := by decide +kernel
theorem dX8_kindOfSymbol_46 : decode cX8_kindOfSymbol 46 = .ok (.iload_n 2, 1) := by decide +kernel
theorem dX8_kindOfSymbol_47 : decode cX8_kindOfSymbol 47 = .ok (.iconst 1, 1) := by decide +kernel
theorem dX8_kindOfSymbol_48 : decode cX8_kindOfSymbol 48 = .ok (.iadd, 1) := by decide +kernel
theorem dX8_kindOfSymbol_49 : decode cX8_kindOfSymbol 49 = .ok (.putfield 33, 3) := by decide +kernel
theorem dX8_kindOfSymbol_52 : decode cX8_kindOfSymbol 52 = .ok (.ldc 87, 2) := by decide +kernel
theorem dX8_kindOfSymbol_54 : decode cX8_kindOfSymbol 54 = .ok (.iload_n 3, 1) := by decide +kernel
theorem dX8_kindOfSymbol_55 : decode cX8_kindOfSymbol 55 = .ok (.i2c, 1) := by decide +kernel
theorem dX8_kindOfSymbol_56 : decode cX8_kindOfSymbol 56 = .ok (.invokevirtual 89, 3) := by decide +kernel
theorem dX8_kindOfSymbol_59 : decode cX8_kindOfSymbol 59 = .ok (.istore 4, 2) := by decide +kernel
theorem dX8_kindOfSymbol_61 : decode cX8_kindOfSymbol 61 = .ok (.iload 4, 2) := by decide +kernel
theorem dX8_kindOfSymbol_63 : decode cX8_kindOfSymbol 63 = .ok (.ifCond .ge 8, 3) := by decide +kernel
theorem dX8_kindOfSymbol_66 : decode cX8_kindOfSymbol 66 = .ok (.bipush 46, 2) := by decide +kernel
theorem dX8_kindOfSymbol_68 : decode cX8_kindOfSymbol 68 = .ok (.goto 8, 3) := by decide +kernel
theorem dX8_kindOfSymbol_71 : decode cX8_kindOfSymbol 71 = .ok (.bipush 30, 2) := by decide +kernel
theorem dX8_kindOfSymbol_73 : decode cX8_kindOfSymbol 73 = .ok (.iload 4, 2) := by decide +kernel
theorem dX8_kindOfSymbol_75 : decode cX8_kindOfSymbol 75 = .ok (.iadd, 1) := by decide +kernel
theorem dX8_kindOfSymbol_76 : decode cX8_kindOfSymbol 76 = .ok (.ireturn, 1) := by decide +kernel
theorem dX8_isLetter_0 : decode cX8_isLetter 0 = .ok (.iload_n 0, 1) := by decide +kernel
theorem dX8_isLetter_1 : decode cX8_isLetter 1 = .ok (.bipush 97, 2) := by decide +kernel
theorem dX8_isLetter_3 : decode cX8_isLetter 3 = .ok (.if_icmp .lt 13, 3) := by decide +kernel
theorem dX8_isLetter_6 : decode cX8_isLetter 6 = .ok (.iload_n 0, 1) := by decide +kernel
theorem dX8_isLetter_7 : decode cX8_isLetter 7 = .ok (.bipush 122, 2) := by decide +kernel
theorem dX8_isLetter_9 : decode cX8_isLetter 9 = .ok (.if_icmp .gt 7, 3) := by decide +kernel
theorem dX8_isLetter_12 : decode cX8_isLetter 12 = .ok (.iconst 1, 1) := by decide +kernel
theorem dX8_isLetter_13 : decode cX8_isLetter 13 = .ok (.goto 4, 3) := by decide +kernel
theorem dX8_isLetter_16 : decode cX8_isLetter 16 = .ok (.iconst 0, 1) := by decide +kernel
theorem dX8_isLetter_17 : decode cX8_isLetter 17 = .ok (.ireturn, 1) := by decide +kernel
theorem dX8_isDigit_0 : decode cX8_isDigit 0 = .ok (.iload_n 0, 1) := by decide +kernel
theorem dX8_isDigit_1 : decode cX8_isDigit 1 = .ok (.bipush 48, 2) := by decide +kernel
theorem dX8_isDigit_3 : decode cX8_isDigit 3 = .ok (.if_icmp .lt 13, 3) := by decide +kernel
theorem dX8_isDigit_6 : decode cX8_isDigit 6 = .ok (.iload_n 0, 1) := by decide +kernel
theorem dX8_isDigit_7 : decode cX8_isDigit 7 = .ok (.bipush 57, 2) := by decide +kernel
theorem dX8_isDigit_9 : decode cX8_isDigit 9 = .ok (.if_icmp .gt 7, 3) := by decide +kernel
theorem dX8_isDigit_12 : decode cX8_isDigit 12 = .ok (.iconst 1, 1) := by decide +kernel
theorem dX8_isDigit_13 : decode cX8_isDigit 13 = .ok (.goto 4, 3) := by decide +kernel
theorem dX8_isDigit_16 : decode cX8_isDigit 16 = .ok (.iconst 0, 1) := by decide +kernel
theorem dX8_isDigit_17 : decode cX8_isDigit 17 = .ok (.ireturn, 1) := by decide +kernel
theorem dX8_numberOfSign_0 : decode cX8_numberOfSign 0 = .ok (.iload_n 0, 1) := by decide +kernel
theorem dX8_numberOfSign_1 : decode cX8_numberOfSign 1 = .ok (.invokestatic 66, 3) := by decide +kernel
theorem dX8_numberOfSign_4 : decode cX8_numberOfSign 4 = .ok (.ifCond .eq 12, 3) := by decide +kernel
theorem dX8_numberOfSign_7 : decode cX8_numberOfSign 7 = .ok (.iload_n 0, 1) := by decide +kernel
theorem dX8_numberOfSign_8 : decode cX8_numberOfSign 8 = .ok (.bipush 97, 2) := by decide +kernel
theorem dX8_numberOfSign_10 : decode cX8_numberOfSign 10 = .ok (.isub, 1) := by decide +kernel
theorem dX8_numberOfSign_11 : decode cX8_numberOfSign 11 = .ok (.iconst 1, 1) := by decide +kernel
theorem dX8_numberOfSign_12 : decode cX8_numberOfSign 12 = .ok (.iadd, 1) := by decide +kernel
theorem dX8_numberOfSign_13 : decode cX8_numberOfSign 13 = .ok (.goto 10, 3) := by decide +kernel
theorem dX8_numberOfSign_16 : decode cX8_numberOfSign 16 = .ok (.iload_n 0, 1) := by decide +kernel
theorem dX8_numberOfSign_17 : decode cX8_numberOfSign 17 = .ok (.bipush 48, 2) := by decide +kernel
theorem dX8_numberOfSign_19 : decode cX8_numberOfSign 19 = .ok (.isub, 1) := by decide +kernel
theorem dX8_numberOfSign_20 : decode cX8_numberOfSign 20 = .ok (.bipush 27, 2) := by decide +kernel
theorem dX8_numberOfSign_22 : decode cX8_numberOfSign 22 = .ok (.iadd, 1) := by decide +kernel
theorem dX8_numberOfSign_23 : decode cX8_numberOfSign 23 = .ok (.ireturn, 1) := by decide +kernel
theorem dX9_init_0 : decode cX9_init 0 = .ok (.aload_n 0, 1) := by decide +kernel
theorem dX9_init_1 : decode cX9_init 1 = .ok (.invokespecial 1, 3) := by decide +kernel
theorem dX9_init_4 : decode cX9_init 4 = .ok (.aload_n 0, 1) := by decide +kernel
theorem dX9_init_5 : decode cX9_init 5 = .ok (.iconst 0, 1) := by decide +kernel
theorem dX9_init_6 : decode cX9_init 6 = .ok (.putfield 7, 3) := by decide +kernel
theorem dX9_init_9 : decode cX9_init 9 = .ok (.aload_n 0, 1) := by decide +kernel
theorem dX9_init_10 : decode cX9_init 10 = .ok (.iconst 0, 1) := by decide +kernel
theorem dX9_init_11 : decode cX9_init 11 = .ok (.putfield 13, 3) := by decide +kernel
theorem dX9_init_14 : decode cX9_init 14 = .ok (.aload_n 0, 1) := by decide +kernel
theorem dX9_init_15 : decode cX9_init 15 = .ok (.iconst 0, 1) := by decide +kernel
theorem dX9_init_16 : decode cX9_init 16 = .ok (.putfield 16, 3) := by decide +kernel
theorem dX9_init_19 : decode cX9_init 19 = .ok (.aload_n 0, 1) := by decide +kernel
theorem dX9_init_20 : decode cX9_init 20 = .ok (.iconst 0, 1) := by decide +kernel
theorem dX9_init_21 : decode cX9_init 21 = .ok (.putfield 19, 3) := by decide +kernel
theorem dX9_init_24 : decode cX9_init 24 = .ok (.aload_n 0, 1) := by decide +kernel
theorem dX9_init_25 : decode cX9_init 25 = .ok (.iconst 0, 1) := by decide +kernel
theorem dX9_init_26 : decode cX9_init 26 = .ok (.putfield 22, 3) := by decide +kernel
theorem dX9_init_29 : decode cX9_init 29 = .ok (.aload_n 0, 1) := by decide +kernel
theorem dX9_init_30 : decode cX9_init 30 = .ok (.bipush 6, 2) := by decide +kernel
theorem dX9_init_32 : decode cX9_init 32 = .ok (.newarray .int, 2) := by decide +kernel
theorem dX9_init_34 : decode cX9_init 34 = .ok (.putfield 25, 3) := by decide +kernel
theorem dX9_init_37 : decode cX9_init 37 = .ok (.aload_n 0, 1) := by decide +kernel
theorem dX9_init_38 : decode cX9_init 38 = .ok (.bipush 16, 2) := by decide +kernel
theorem dX9_init_40 : decode cX9_init 40 = .ok (.newarray .int, 2) := by decide +kernel
theorem dX9_init_42 : decode cX9_init 42 = .ok (.putfield 29, 3) := by decide +kernel
theorem dX9_init_45 : decode cX9_init 45 = .ok (.aload_n 0, 1) := by decide +kernel
theorem dX9_init_46 : decode cX9_init 46 = .ok (.bipush 16, 2) := by decide +kernel
theorem dX9_init_48 : decode cX9_init 48 = .ok (.newarray .int, 2) := by decide +kernel
theorem dX9_init_50 : decode cX9_init 50 = .ok (.putfield 32, 3) := by decide +kernel
theorem dX9_init_53 : decode cX9_init 53 = .ok (.aload_n 0, 1) := by decide +kernel
theorem dX9_init_54 : decode cX9_init 54 = .ok (.bipush 16, 2) := by decide +kernel
theorem dX9_init_56 : decode cX9_init 56 = .ok (.newarray .int, 2) := by decide +kernel
theorem dX9_init_58 : decode cX9_init 58 = .ok (.putfield 35, 3) := by decide +kernel
theorem dX9_init_61 : decode cX9_init 61 = .ok (.aload_n 0, 1) := by decide +kernel
theorem dX9_init_62 : decode cX9_init 62 = .ok (.bipush 6, 2) := by decide +kernel
theorem dX9_init_64 : decode cX9_init 64 = .ok (.newarray .int, 2) := by decide +kernel
theorem dX9_init_66 : decode cX9_init 66 = .ok (.putfield 38, 3) := by decide +kernel
theorem dX9_init_69 : decode cX9_init 69 = .ok (.aload_n 0, 1) := by decide +kernel
theorem dX9_init_70 : decode cX9_init 70 = .ok (.bipush 6, 2) := by decide +kernel
theorem dX9_init_72 : decode cX9_init 72 = .ok (.bipush 8, 2) := by decide +kernel
theorem dX9_init_74 : decode cX9_init 74 = .ok (.multianewarray 41 2, 4) := by decide +kernel
theorem dX9_init_78 : decode cX9_init 78 = .ok (.putfield 43, 3) := by decide +kernel
theorem dX9_init_81 : decode cX9_init 81 = .ok (.aload_n 0, 1) := by decide +kernel
theorem dX9_init_82 : decode cX9_init 82 = .ok (.iconst 5, 1) := by decide +kernel
theorem dX9_init_83 : decode cX9_init 83 = .ok (.newarray .int, 2) := by decide +kernel
theorem dX9_init_85 : decode cX9_init 85 = .ok (.putfield 46, 3) := by decide +kernel
theorem dX9_init_88 : decode cX9_init 88 = .ok (.aload_n 0, 1) := by decide +kernel
theorem dX9_init_89 : decode cX9_init 89 = .ok (.bipush 20, 2) := by decide +kernel
theorem dX9_init_91 : decode cX9_init 91 = .ok (.newarray .boolean, 2) := by decide +kernel
theorem dX9_init_93 : decode cX9_init 93 = .ok (.putfield 49, 3) := by decide +kernel
theorem dX9_init_96 : decode cX9_init 96 = .ok (.aload_n 0, 1) := by decide +kernel
theorem dX9_init_97 : decode cX9_init 97 = .ok (.bipush 20, 2) := by decide +kernel
theorem dX9_init_99 : decode cX9_init 99 = .ok (.newarray .int, 2) := by decide +kernel
theorem dX9_init_101 : decode cX9_init 101 = .ok (.putfield 53, 3) := by decide +kernel
theorem dX9_init_104 : decode cX9_init 104 = .ok (.aload_n 0, 1) := by decide +kernel
theorem dX9_init_105 : decode cX9_init 105 = .ok (.bipush 20, 2) := by decide +kernel
theorem dX9_init_107 : decode cX9_init 107 = .ok (.newarray .int, 2) := by decide +kernel
theorem dX9_init_109 : decode cX9_init 109 = .ok (.putfield 56, 3) := by decide +kernel
theorem dX9_init_112 : decode cX9_init 112 = .ok (.aload_n 0, 1) := by decide +kernel
theorem dX9_init_113 : decode cX9_init 113 = .ok (.bipush 20, 2) := by decide +kernel
theorem dX9_init_115 : decode cX9_init 115 = .ok (.newarray .int, 2) := by decide +kernel
theorem dX9_init_117 : decode cX9_init 117 = .ok (.putfield 59, 3) := by decide +kernel
theorem dX9_init_120 : decode cX9_init 120 = .ok (.aload_n 0, 1) := by decide +kernel
theorem dX9_init_121 : decode cX9_init 121 = .ok (.bipush 20, 2) := by decide +kernel
theorem dX9_init_123 : decode cX9_init 123 = .ok (.newarray .int, 2) := by decide +kernel
theorem dX9_init_125 : decode cX9_init 125 = .ok (.putfield 62, 3) := by decide +kernel
theorem dX9_init_128 : decode cX9_init 128 = .ok (.aload_n 0, 1) := by decide +kernel
theorem dX9_init_129 : decode cX9_init 129 = .ok (.new 65, 3) := by decide +kernel
theorem dX9_init_132 : decode cX9_init 132 = .ok (.dup, 1) := by decide +kernel
theorem dX9_init_133 : decode cX9_init 133 = .ok (.invokespecial 67, 3) := by decide +kernel
theorem dX9_init_136 : decode cX9_init 136 = .ok (.putfield 68, 3) := by decide +kernel
theorem dX9_init_139 : decode cX9_init 139 = .ok (.return_, 1) := by decide +kernel
theorem dX9_clear_0 : decode cX9_clear 0 = .ok (.aload_n 0, 1) := by decide +kernel
theorem dX9_clear_1 : decode cX9_clear 1 = .ok (.iconst 0, 1) := by decide +kernel
theorem dX9_clear_2 : decode cX9_clear 2 = .ok (.putfield 7, 3) := by decide +kernel
theorem dX9_clear_5 : decode cX9_clear 5 = .ok (.aload_n 0, 1) := by decide +kernel
theorem dX9_clear_6 : decode cX9_clear 6 = .ok (.iconst 0, 1) := by decide +kernel
theorem dX9_clear_7 : decode cX9_clear 7 = .ok (.putfield 13, 3) := by decide +kernel
theorem dX9_clear_10 : decode cX9_clear 10 = .ok (.aload_n 0, 1) := by decide +kernel
theorem dX9_clear_11 : decode cX9_clear 11 = .ok (.iconst 0, 1) := by decide +kernel
theorem dX9_clear_12 : decode cX9_clear 12 = .ok (.putfield 16, 3) := by decide +kernel
theorem dX9_clear_15 : decode cX9_clear 15 = .ok (.aload_n 0, 1) := by decide +kernel
theorem dX9_clear_16 : decode cX9_clear 16 = .ok (.iconst 0, 1) := by decide +kernel
theorem dX9_clear_17 : decode cX9_clear 17 = .ok (.putfield 19, 3) := by decide +kernel
theorem dX9_clear_20 : decode cX9_clear 20 = .ok (.aload_n 0, 1) := by decide +kernel
theorem dX9_clear_21 : decode cX9_clear 21 = .ok (.iconst 0, 1) := by decide +kernel
theorem dX9_clear_22 : decode cX9_clear 22 = .ok (.putfield 22, 3) := by decide +kernel
theorem dX9_clear_25 : decode cX9_clear 25 = .ok (.return_, 1) := by decide +kernel
theorem dX9_hasColour_0 : decode cX9_hasColour 0 = .ok (.iload_n 1, 1) := by decide +kernel
theorem dX9_hasColour_1 : decode cX9_hasColour 1 = .ok (.ifCond .lt 21, 3) := by decide +kernel
theorem dX9_hasColour_4 : decode cX9_hasColour 4 = .ok (.iload_n 1, 1) := by decide +kernel
theorem dX9_hasColour_5 : decode cX9_hasColour 5 = .ok (.aload_n 0, 1) := by decide +kernel
theorem dX9_hasColour_6 : decode cX9_hasColour 6 = .ok (.getfield 7, 3) := by decide +kernel
theorem dX9_hasColour_9 : decode cX9_hasColour 9 = .ok (.if_icmp .ge 13, 3) := by decide +kernel
theorem dX9_hasColour_12 : decode cX9_hasColour 12 = .ok (.iload_n 1, 1) := by decide +kernel
theorem dX9_hasColour_13 : decode cX9_hasColour 13 = .ok (.bipush 6, 2) := by decide +kernel
theorem dX9_hasColour_15 : decode cX9_hasColour 15 = .ok (.if_icmp .ge 7, 3) := by decide +kernel
theorem dX9_hasColour_18 : decode cX9_hasColour 18 = .ok (.iconst 1, 1) := by decide +kernel
theorem dX9_hasColour_19 : decode cX9_hasColour 19 = .ok (.goto 4, 3) := by decide +kernel
theorem dX9_hasColour_22 : decode cX9_hasColour 22 = .ok (.iconst 0, 1) := by decide +kernel
theorem dX9_hasColour_23 : decode cX9_hasColour 23 = .ok (.ireturn, 1) := by decide +kernel
theorem dX9_hasCord_0 : decode cX9_hasCord 0 = .ok (.iload_n 1, 1) := by decide +kernel
theorem dX9_hasCord_1 : decode cX9_hasCord 1 = .ok (.ifCond .lt 21, 3) := by decide +kernel
theorem dX9_hasCord_4 : decode cX9_hasCord 4 = .ok (.iload_n 1, 1) := by decide +kernel
theorem dX9_hasCord_5 : decode cX9_hasCord 5 = .ok (.aload_n 0, 1) := by decide +kernel
theorem dX9_hasCord_6 : decode cX9_hasCord 6 = .ok (.getfield 13, 3) := by decide +kernel
theorem dX9_hasCord_9 : decode cX9_hasCord 9 = .ok (.if_icmp .ge 13, 3) := by decide +kernel
theorem dX9_hasCord_12 : decode cX9_hasCord 12 = .ok (.iload_n 1, 1) := by decide +kernel
theorem dX9_hasCord_13 : decode cX9_hasCord 13 = .ok (.bipush 16, 2) := by decide +kernel
theorem dX9_hasCord_15 : decode cX9_hasCord 15 = .ok (.if_icmp .ge 7, 3) := by decide +kernel
theorem dX9_hasCord_18 : decode cX9_hasCord 18 = .ok (.iconst 1, 1) := by decide +kernel
theorem dX9_hasCord_19 : decode cX9_hasCord 19 = .ok (.goto 4, 3) := by decide +kernel
theorem dX9_hasCord_22 : decode cX9_hasCord 22 = .ok (.iconst 0, 1) := by decide +kernel
theorem dX9_hasCord_23 : decode cX9_hasCord 23 = .ok (.ireturn, 1) := by decide +kernel
theorem dX9_hasTop_0 : decode cX9_hasTop 0 = .ok (.iload_n 1, 1) := by decide +kernel
theorem dX9_hasTop_1 : decode cX9_hasTop 1 = .ok (.ifCond .lt 21, 3) := by decide +kernel
theorem dX9_hasTop_4 : decode cX9_hasTop 4 = .ok (.iload_n 1, 1) := by decide +kernel
theorem dX9_hasTop_5 : decode cX9_hasTop 5 = .ok (.aload_n 0, 1) := by decide +kernel
theorem dX9_hasTop_6 : decode cX9_hasTop 6 = .ok (.getfield 16, 3) := by decide +kernel
theorem dX9_hasTop_9 : decode cX9_hasTop 9 = .ok (.if_icmp .ge 13, 3) := by decide +kernel
theorem dX9_hasTop_12 : decode cX9_hasTop 12 = .ok (.iload_n 1, 1) := by decide +kernel
theorem dX9_hasTop_13 : decode cX9_hasTop 13 = .ok (.bipush 6, 2) := by decide +kernel
theorem dX9_hasTop_15 : decode cX9_hasTop 15 = .ok (.if_icmp .ge 7, 3) := by decide +kernel
theorem dX9_hasTop_18 : decode cX9_hasTop 18 = .ok (.iconst 1, 1) := by decide +kernel
theorem dX9_hasTop_19 : decode cX9_hasTop 19 = .ok (.goto 4, 3) := by decide +kernel
theorem dX9_hasTop_22 : decode cX9_hasTop 22 = .ok (.iconst 0, 1) := by decide +kernel
theorem dX9_hasTop_23 : decode cX9_hasTop 23 = .ok (.ireturn, 1) := by decide +kernel
theorem dX9_hasKeeper_0 : decode cX9_hasKeeper 0 = .ok (.iload_n 1, 1) := by decide +kernel
theorem dX9_hasKeeper_1 : decode cX9_hasKeeper 1 = .ok (.ifCond .lt 20, 3) := by decide +kernel
theorem dX9_hasKeeper_4 : decode cX9_hasKeeper 4 = .ok (.iload_n 1, 1) := by decide +kernel
theorem dX9_hasKeeper_5 : decode cX9_hasKeeper 5 = .ok (.aload_n 0, 1) := by decide +kernel
theorem dX9_hasKeeper_6 : decode cX9_hasKeeper 6 = .ok (.getfield 19, 3) := by decide +kernel
theorem dX9_hasKeeper_9 : decode cX9_hasKeeper 9 = .ok (.if_icmp .ge 12, 3) := by decide +kernel
theorem dX9_hasKeeper_12 : decode cX9_hasKeeper 12 = .ok (.iload_n 1, 1) := by decide +kernel
theorem dX9_hasKeeper_13 : decode cX9_hasKeeper 13 = .ok (.iconst 5, 1) := by decide +kernel
theorem dX9_hasKeeper_14 : decode cX9_hasKeeper 14 = .ok (.if_icmp .ge 7, 3) := by decide +kernel
theorem dX9_hasKeeper_17 : decode cX9_hasKeeper 17 = .ok (.iconst 1, 1) := by decide +kernel
theorem dX9_hasKeeper_18 : decode cX9_hasKeeper 18 = .ok (.goto 4, 3) := by decide +kernel
theorem dX9_hasKeeper_21 : decode cX9_hasKeeper 21 = .ok (.iconst 0, 1) := by decide +kernel
theorem dX9_hasKeeper_22 : decode cX9_hasKeeper 22 = .ok (.ireturn, 1) := by decide +kernel
theorem dX9_isOver_0 : decode cX9_isOver 0 = .ok (.iconst 0, 1) := by decide +kernel
theorem dX9_isOver_1 : decode cX9_isOver 1 = .ok (.istore_n 3, 1) := by decide +kernel
theorem dX9_isOver_2 : decode cX9_isOver 2 = .ok (.iload_n 3, 1) := by decide +kernel
theorem dX9_isOver_3 : decode cX9_isOver 3 = .ok (.aload_n 0, 1) := by decide +kernel
theorem dX9_isOver_4 : decode cX9_isOver 4 = .ok (.getfield 38, 3) := by decide +kernel
theorem dX9_isOver_7 : decode cX9_isOver 7 = .ok (.iload_n 1, 1) := by decide +kernel
theorem dX9_isOver_8 : decode cX9_isOver 8 = .ok (.iaload, 1) := by decide +kernel
theorem dX9_isOver_9 : decode cX9_isOver 9 = .ok (.if_icmp .ge 23, 3) := by decide +kernel
theorem dX9_isOver_12 : decode cX9_isOver 12 = .ok (.aload_n 0, 1) := by decide +kernel
theorem dX9_isOver_13 : decode cX9_isOver 13 = .ok (.getfield 43, 3) := by decide +kernel
theorem dX9_isOver_16 : decode cX9_isOver 16 = .ok (.iload_n 1, 1) := by decide +kernel
theorem dX9_isOver_17 : decode cX9_isOver 17 = .ok (.aaload, 1) := by decide +kernel
theorem dX9_isOver_18 : decode cX9_isOver 18 = .ok (.iload_n 3, 1) := by decide +kernel
theorem dX9_isOver_19 : decode cX9_isOver 19 = .ok (.iaload, 1) := by decide +kernel
theorem dX9_isOver_20 : decode cX9_isOver 20 = .ok (.iload_n 2, 1) := by decide +kernel
theorem dX9_isOver_21 : decode cX9_isOver 21 = .ok (.if_icmp .ne 5, 3) := by decide +kernel
theorem dX9_isOver_24 : decode cX9_isOver 24 = .ok (.iconst 1, 1) := by decide +kernel
theorem dX9_isOver_25 : decode cX9_isOver 25 = .ok (.ireturn, 1) := by decide +kernel
theorem dX9_isOver_26 : decode cX9_isOver 26 = .ok (.iinc 3 1, 3) := by decide +kernel
theorem dX9_isOver_29 : decode cX9_isOver 29 = .ok (.goto (-27), 3) := by decide +kernel
theorem dX9_isOver_32 : decode cX9_isOver 32 = .ok (.iconst 0, 1) := by decide +kernel
theorem dX9_isOver_33 : decode cX9_isOver 33 = .ok (.ireturn, 1) := by decide +kernel
theorem dX10_init_0 : decode cX10_init 0 = .ok (.aload_n 0, 1) := by decide +kernel
theorem dX10_init_1 : decode cX10_init 1 = .ok (.invokespecial 1, 3) := by decide +kernel
theorem dX10_init_4 : decode cX10_init 4 = .ok (.aload_n 0, 1) := by decide +kernel
theorem dX10_init_5 : decode cX10_init 5 = .ok (.new 7, 3) := by decide +kernel
theorem dX10_init_8 : decode cX10_init 8 = .ok (.dup, 1) := by decide +kernel
theorem dX10_init_9 : decode cX10_init 9 = .ok (.invokespecial 9, 3) := by decide +kernel
theorem dX10_init_12 : decode cX10_init 12 = .ok (.putfield 10, 3) := by decide +kernel
theorem dX10_init_15 : decode cX10_init 15 = .ok (.aload_n 0, 1) := by decide +kernel
theorem dX10_init_16 : decode cX10_init 16 = .ok (.new 7, 3) := by decide +kernel
theorem dX10_init_19 : decode cX10_init 19 = .ok (.dup, 1) := by decide +kernel
theorem dX10_init_20 : decode cX10_init 20 = .ok (.invokespecial 9, 3) := by decide +kernel
theorem dX10_init_23 : decode cX10_init 23 = .ok (.putfield 16, 3) := by decide +kernel
theorem dX10_init_26 : decode cX10_init 26 = .ok (.aload_n 0, 1) := by decide +kernel
theorem dX10_init_27 : decode cX10_init 27 = .ok (.new 19, 3) := by decide +kernel
theorem dX10_init_30 : decode cX10_init 30 = .ok (.dup, 1) := by decide +kernel
theorem dX10_init_31 : decode cX10_init 31 = .ok (.invokespecial 21, 3) := by decide +kernel
theorem dX10_init_34 : decode cX10_init 34 = .ok (.putfield 22, 3) := by decide +kernel
theorem dX10_init_37 : decode cX10_init 37 = .ok (.aload_n 0, 1) := by decide +kernel
theorem dX10_init_38 : decode cX10_init 38 = .ok (.new 26, 3) := by decide +kernel
theorem dX10_init_41 : decode cX10_init 41 = .ok (.dup, 1) := by decide +kernel
theorem dX10_init_42 : decode cX10_init 42 = .ok (.invokespecial 28, 3) := by decide +kernel
theorem dX10_init_45 : decode cX10_init 45 = .ok (.putfield 29, 3) := by decide +kernel
theorem dX10_init_48 : decode cX10_init 48 = .ok (.aload_n 0, 1) := by decide +kernel
theorem dX10_init_49 : decode cX10_init 49 = .ok (.new 33, 3) := by decide +kernel
theorem dX10_init_52 : decode cX10_init 52 = .ok (.dup, 1) := by decide +kernel
theorem dX10_init_53 : decode cX10_init 53 = .ok (.aload_n 0, 1) := by decide +kernel
theorem dX10_init_54 : decode cX10_init 54 = .ok (.getfield 29, 3) := by decide +kernel
theorem dX10_init_57 : decode cX10_init 57 = .ok (.aload_n 0, 1) := by decide +kernel
theorem dX10_init_58 : decode cX10_init 58 = .ok (.getfield 16, 3) := by decide +kernel
theorem dX10_init_61 : decode cX10_init 61 = .ok (.getfield 35, 3) := by decide +kernel
theorem dX10_init_64 : decode cX10_init 64 = .ok (.invokespecial 39, 3) := by decide +kernel
theorem dX10_init_67 : decode cX10_init 67 = .ok (.putfield 42, 3) := by decide +kernel
theorem dX10_init_70 : decode cX10_init 70 = .ok (.aload_n 0, 1) := by decide +kernel
theorem dX10_init_71 : decode cX10_init 71 = .ok (.new 46, 3) := by decide +kernel
theorem dX10_init_74 : decode cX10_init 74 = .ok (.dup, 1) := by decide +kernel
theorem dX10_init_75 : decode cX10_init 75 = .ok (.invokespecial 48, 3) := by decide +kernel
theorem dX10_init_78 : decode cX10_init 78 = .ok (.putfield 49, 3) := by decide +kernel
theorem dX10_init_81 : decode cX10_init 81 = .ok (.aload_n 0, 1) := by decide +kernel
theorem dX10_init_82 : decode cX10_init 82 = .ok (.new 53, 3) := by decide +kernel
theorem dX10_init_85 : decode cX10_init 85 = .ok (.dup, 1) := by decide +kernel
theorem dX10_init_86 : decode cX10_init 86 = .ok (.aload_n 0, 1) := by decide +kernel
theorem dX10_init_87 : decode cX10_init 87 = .ok (.getfield 10, 3) := by decide +kernel
theorem dX10_init_90 : decode cX10_init 90 = .ok (.invokespecial 55, 3) := by decide +kernel
theorem dX10_init_93 : decode cX10_init 93 = .ok (.putfield 58, 3) := by decide +kernel
theorem dX10_init_96 : decode cX10_init 96 = .ok (.aload_n 0, 1) := by decide +kernel
theorem dX10_init_97 : decode cX10_init 97 = .ok (.new 53, 3) := by decide +kernel
theorem dX10_init_100 : decode cX10_init 100 = .ok (.dup, 1) := by decide +kernel
theorem dX10_init_101 : decode cX10_init 101 = .ok (.aload_n 0, 1) := by decide +kernel
theorem dX10_init_102 : decode cX10_init 102 = .ok (.getfield 10, 3) := by decide +kernel
theorem dX10_init_105 : decode cX10_init 105 = .ok (.invokespecial 55, 3) := by decide +kernel
theorem dX10_init_108 : decode cX10_init 108 = .ok (.putfield 62, 3) := by decide +kernel
theorem dX10_init_111 : decode cX10_init 111 = .ok (.aload_n 0, 1) := by decide +kernel
theorem dX10_init_112 : decode cX10_init 112 = .ok (.new 65, 3) := by decide +kernel
theorem dX10_init_115 : decode cX10_init 115 = .ok (.dup, 1) := by decide +kernel
theorem dX10_init_116 : decode cX10_init 116 = .ok (.invokespecial 67, 3) := by decide +kernel
theorem dX10_init_119 : decode cX10_init 119 = .ok (.putfield 68, 3) := by decide +kernel
theorem dX10_init_122 : decode cX10_init 122 = .ok (.aload_n 0, 1) := by decide +kernel
theorem dX10_init_123 : decode cX10_init 123 = .ok (.iconst (-1), 1) := by decide +kernel
theorem dX10_init_124 : decode cX10_init 124 = .ok (.putfield 72, 3) := by decide +kernel
theorem dX10_init_127 : decode cX10_init 127 = .ok (.return_, 1) := by decide +kernel
theorem dX10_feed_0 : decode cX10_feed 0 = .ok (.aload_n 0, 1) := by decide +kernel
theorem dX10_feed_1 : decode cX10_feed 1 = .ok (.getfield 22, 3) := by decide +kernel
theorem dX10_feed_4 : decode cX10_feed 4 = .ok (.invokevirtual 76, 3) := by decide +kernel
theorem dX10_feed_7 : decode cX10_feed 7 = .ok (.bipush 20, 2) := by decide +kernel
theorem dX10_feed_9 : decode cX10_feed 9 = .ok (.iadd, 1) := by decide +kernel
theorem dX10_feed_10 : decode cX10_feed 10 = .ok (.sipush 2000, 3) := by decide +kernel
theorem dX10_feed_13 : decode cX10_feed 13 = .ok (.if_icmp .le 13, 3) := by decide +kernel
theorem dX10_feed_16 : decode cX10_feed 16 = .ok (.new 80, 3) := by decide +kernel
theorem dX10_feed_19 : decode cX10_feed 19 = .ok (.dup, 1) := by decide +kernel
theorem dX10_feed_20 : decode cX10_feed 20 = .ok (.ldc 82, 2) := by decide +kernel
theorem dX10_feed_22 : decode cX10_feed 22 = .ok (.invokespecial 84, 3) := by decide +kernel
theorem dX10_feed_25 : decode cX10_feed 25 = .ok (.athrow, 1) := by decide +kernel
theorem dX10_feed_26 : decode cX10_feed 26 = .ok (.aload_n 0, 1) := by decide +kernel
theorem dX10_feed_27 : decode cX10_feed 27 = .ok (.getfield 22, 3) := by decide +kernel
theorem dX10_feed_30 : decode cX10_feed 30 = .ok (.iload_n 1, 1) := by decide +kernel
theorem dX10_feed_31 : decode cX10_feed 31 = .ok (.invokevirtual 87, 3) := by decide +kernel
theorem dX10_feed_34 : decode cX10_feed 34 = .ok (.aload_n 0, 1) := by decide +kernel
theorem dX10_feed_35 : decode cX10_feed 35 = .ok (.getfield 22, 3) := by decide +kernel
theorem dX10_feed_38 : decode cX10_feed 38 = .ok (.iload_n 2, 1) := by decide +kernel
theorem dX10_feed_39 : decode cX10_feed 39 = .ok (.invokevirtual 87, 3) := by decide +kernel
theorem dX10_feed_42 : decode cX10_feed 42 = .ok (.aload_n 0, 1) := by decide +kernel
theorem dX10_feed_43 : decode cX10_feed 43 = .ok (.getfield 22, 3) := by decide +kernel
theorem dX10_feed_46 : decode cX10_feed 46 = .ok (.iload_n 3, 1) := by decide +kernel
theorem dX10_feed_47 : decode cX10_feed 47 = .ok (.invokevirtual 87, 3) := by decide +kernel
theorem dX10_feed_50 : decode cX10_feed 50 = .ok (.aload_n 0, 1) := by decide +kernel
theorem dX10_feed_51 : decode cX10_feed 51 = .ok (.getfield 22, 3) := by decide +kernel
theorem dX10_feed_54 : decode cX10_feed 54 = .ok (.iload 4, 2) := by decide +kernel
theorem dX10_feed_56 : decode cX10_feed 56 = .ok (.invokevirtual 87, 3) := by decide +kernel
theorem dX10_feed_59 : decode cX10_feed 59 = .ok (.aload_n 0, 1) := by decide +kernel
theorem dX10_feed_60 : decode cX10_feed 60 = .ok (.getfield 22, 3) := by decide +kernel
theorem dX10_feed_63 : decode cX10_feed 63 = .ok (.iload 5, 2) := by decide +kernel
theorem dX10_feed_65 : decode cX10_feed 65 = .ok (.invokevirtual 87, 3) := by decide +kernel
theorem dX10_feed_68 : decode cX10_feed 68 = .ok (.aload_n 0, 1) := by decide +kernel
theorem dX10_feed_69 : decode cX10_feed 69 = .ok (.getfield 22, 3) := by decide +kernel
theorem dX10_feed_72 : decode cX10_feed 72 = .ok (.invokevirtual 76, 3) := by decide +kernel
theorem dX10_feed_75 : decode cX10_feed 75 = .ok (.ireturn, 1) := by decide +kernel
theorem dX10_trim_0 : decode cX10_trim 0 = .ok (.iload_n 1, 1) := by decide +kernel
theorem dX10_trim_1 : decode cX10_trim 1 = .ok (.ifCond .lt 14, 3) := by decide +kernel
theorem dX10_trim_4 : decode cX10_trim 4 = .ok (.iload_n 1, 1) := by decide +kernel
theorem dX10_trim_5 : decode cX10_trim 5 = .ok (.aload_n 0, 1) := by decide +kernel
theorem dX10_trim_6 : decode cX10_trim 6 = .ok (.getfield 22, 3) := by decide +kernel
theorem dX10_trim_9 : decode cX10_trim 9 = .ok (.invokevirtual 76, 3) := by decide +kernel
theorem dX10_trim_12 : decode cX10_trim 12 = .ok (.if_icmp .le 13, 3) := by decide +kernel
theorem dX10_trim_15 : decode cX10_trim 15 = .ok (.new 91, 3) := by decide +kernel
theorem dX10_trim_18 : decode cX10_trim 18 = .ok (.dup, 1) := by decide +kernel
theorem dX10_trim_19 : decode cX10_trim 19 = .ok (.ldc 93, 2) := by decide +kernel
theorem dX10_trim_21 : decode cX10_trim 21 = .ok (.invokespecial 95, 3) := by decide +kernel
theorem dX10_trim_24 : decode cX10_trim 24 = .ok (.athrow, 1) := by decide +kernel
theorem dX10_trim_25 : decode cX10_trim 25 = .ok (.aload_n 0, 1) := by decide +kernel
theorem dX10_trim_26 : decode cX10_trim 26 = .ok (.getfield 22, 3) := by decide +kernel
theorem dX10_trim_29 : decode cX10_trim 29 = .ok (.iload_n 1, 1) := by decide +kernel
theorem dX10_trim_30 : decode cX10_trim 30 = .ok (.invokevirtual 96, 3) := by decide +kernel
theorem dX10_trim_33 : decode cX10_trim 33 = .ok (.iload_n 1, 1) := by decide +kernel
theorem dX10_trim_34 : decode cX10_trim 34 = .ok (.ireturn, 1) := by decide +kernel
theorem dX10_teach_0 : decode cX10_teach 0 = .ok (.aload_n 0, 1) := by decide +kernel
theorem dX10_teach_1 : decode cX10_teach 1 = .ok (.getfield 29, 3) := by decide +kernel
theorem dX10_teach_4 : decode cX10_teach 4 = .ok (.aload_n 0, 1) := by decide +kernel
theorem dX10_teach_5 : decode cX10_teach 5 = .ok (.getfield 22, 3) := by decide +kernel
theorem dX10_teach_8 : decode cX10_teach 8 = .ok (.invokevirtual 99, 3) := by decide +kernel
theorem dX10_teach_11 : decode cX10_teach 11 = .ok (.aload_n 0, 1) := by decide +kernel
theorem dX10_teach_12 : decode cX10_teach 12 = .ok (.getfield 22, 3) := by decide +kernel
theorem dX10_teach_15 : decode cX10_teach 15 = .ok (.iconst 0, 1) := by decide +kernel
theorem dX10_teach_16 : decode cX10_teach 16 = .ok (.invokevirtual 96, 3) := by decide +kernel
theorem dX10_teach_19 : decode cX10_teach 19 = .ok (.aload_n 0, 1) := by decide +kernel
theorem dX10_teach_20 : decode cX10_teach 20 = .ok (.getfield 42, 3) := by decide +kernel
theorem dX10_teach_23 : decode cX10_teach 23 = .ok (.aload_n 0, 1) := by decide +kernel
theorem dX10_teach_24 : decode cX10_teach 24 = .ok (.getfield 16, 3) := by decide +kernel
theorem dX10_teach_27 : decode cX10_teach 27 = .ok (.getfield 35, 3) := by decide +kernel
theorem dX10_teach_30 : decode cX10_teach 30 = .ok (.invokevirtual 103, 3) := by decide +kernel
theorem dX10_teach_33 : decode cX10_teach 33 = .ok (.istore_n 1, 1) := by decide +kernel
theorem dX10_teach_34 : decode cX10_teach 34 = .ok (.iload_n 1, 1) := by decide +kernel
theorem dX10_teach_35 : decode cX10_teach 35 = .ok (.ifCond .ge 7, 3) := by decide +kernel
theorem dX10_teach_38 : decode cX10_teach 38 = .ok (.iconst 0, 1) := by decide +kernel
theorem dX10_teach_39 : decode cX10_teach 39 = .ok (.goto 4, 3) := by decide +kernel
theorem dX10_teach_42 : decode cX10_teach 42 = .ok (.iconst 1, 1) := by decide +kernel
theorem dX10_teach_43 : decode cX10_teach 43 = .ok (.istore_n 2, 1) := by decide +kernel
theorem dX10_teach_44 : decode cX10_teach 44 = .ok (.iload_n 2, 1) := by decide +kernel
theorem dX10_teach_45 : decode cX10_teach 45 = .ok (.ifCond .ne 34, 3) := by decide +kernel
theorem dX10_teach_48 : decode cX10_teach 48 = .ok (.aload_n 0, 1) := by decide +kernel
theorem dX10_teach_49 : decode cX10_teach 49 = .ok (.getfield 49, 3) := by decide +kernel
theorem dX10_teach_52 : decode cX10_teach 52 = .ok (.aload_n 0, 1) := by decide +kernel
theorem dX10_teach_53 : decode cX10_teach 53 = .ok (.getfield 29, 3) := by decide +kernel
theorem dX10_teach_56 : decode cX10_teach 56 = .ok (.aload_n 0, 1) := by decide +kernel
theorem dX10_teach_57 : decode cX10_teach 57 = .ok (.getfield 42, 3) := by decide +kernel
theorem dX10_teach_60 : decode cX10_teach 60 = .ok (.getfield 107, 3) := by decide +kernel
theorem dX10_teach_63 : decode cX10_teach 63 = .ok (.aload_n 0, 1) := by decide +kernel
theorem dX10_teach_64 : decode cX10_teach 64 = .ok (.getfield 16, 3) := by decide +kernel
theorem dX10_teach_67 : decode cX10_teach 67 = .ok (.invokevirtual 111, 3) := by decide +kernel
theorem dX10_teach_70 : decode cX10_teach 70 = .ok (.istore_n 1, 1) := by decide +kernel
theorem dX10_teach_71 : decode cX10_teach 71 = .ok (.aload_n 0, 1) := by decide +kernel
theorem dX10_teach_72 : decode cX10_teach 72 = .ok (.getfield 49, 3) := by decide +kernel
theorem dX10_teach_75 : decode cX10_teach 75 = .ok (.getfield 114, 3) := by decide +kernel
theorem dX10_teach_78 : decode cX10_teach 78 = .ok (.istore_n 2, 1) := by decide +kernel
theorem dX10_teach_79 : decode cX10_teach 79 = .ok (.aload_n 0, 1) := by decide +kernel
theorem dX10_teach_80 : decode cX10_teach 80 = .ok (.aload_n 0, 1) := by decide +kernel
theorem dX10_teach_81 : decode cX10_teach 81 = .ok (.getfield 29, 3) := by decide +kernel
theorem dX10_teach_84 : decode cX10_teach 84 = .ok (.iload_n 1, 1) := by decide +kernel
theorem dX10_teach_85 : decode cX10_teach 85 = .ok (.invokevirtual 117, 3) := by decide +kernel
theorem dX10_teach_88 : decode cX10_teach 88 = .ok (.putfield 72, 3) := by decide +kernel
theorem dX10_teach_91 : decode cX10_teach 91 = .ok (.iload_n 2, 1) := by decide +kernel
theorem dX10_teach_92 : decode cX10_teach 92 = .ok (.ifCond .ne 32, 3) := by decide +kernel
theorem dX10_teach_95 : decode cX10_teach 95 = .ok (.aload_n 0, 1) := by decide +kernel
theorem dX10_teach_96 : decode cX10_teach 96 = .ok (.getfield 10, 3) := by decide +kernel
theorem dX10_teach_99 : decode cX10_teach 99 = .ok (.astore_n 3, 1) := by decide +kernel
theorem dX10_teach_100 : decode cX10_teach 100 = .ok (.aload_n 0, 1) := by decide +kernel
theorem dX10_teach_101 : decode cX10_teach 101 = .ok (.aload_n 0, 1) := by decide +kernel
theorem dX10_teach_102 : decode cX10_teach 102 = .ok (.getfield 16, 3) := by decide +kernel
theorem dX10_teach_105 : decode cX10_teach 105 = .ok (.putfield 10, 3) := by decide +kernel
theorem dX10_teach_108 : decode cX10_teach 108 = .ok (.aload_n 0, 1) := by decide +kernel
theorem dX10_teach_109 : decode cX10_teach 109 = .ok (.aload_n 3, 1) := by decide +kernel
theorem dX10_teach_110 : decode cX10_teach 110 = .ok (.putfield 16, 3) := by decide +kernel
theorem dX10_teach_113 : decode cX10_teach 113 = .ok (.aload_n 0, 1) := by decide +kernel
theorem dX10_teach_114 : decode cX10_teach 114 = .ok (.getfield 58, 3) := by decide +kernel
theorem dX10_teach_117 : decode cX10_teach 117 = .ok (.aload_n 0, 1) := by decide +kernel
theorem dX10_teach_118 : decode cX10_teach 118 = .ok (.getfield 10, 3) := by decide +kernel
theorem dX10_teach_121 : decode cX10_teach 121 = .ok (.invokevirtual 121, 3) := by decide +kernel
theorem dX10_teach_124 : decode cX10_teach 124 = .ok (.iload_n 2, 1) := by decide +kernel
theorem dX10_teach_125 : decode cX10_teach 125 = .ok (.ireturn, 1) := by decide +kernel
theorem dX10_errorAt_0 : decode cX10_errorAt 0 = .ok (.aload_n 0, 1) := by decide +kernel
theorem dX10_errorAt_1 : decode cX10_errorAt 1 = .ok (.getfield 72, 3) := by decide +kernel
theorem dX10_errorAt_4 : decode cX10_errorAt 4 = .ok (.ireturn, 1) := by decide +kernel
theorem dX10_count_0 : decode cX10_count 0 = .ok (.iload_n 1, 1) := by decide +kernel
theorem dX10_count_1 : decode cX10_count 1 = .ok (.ifCond .lt 9, 3) := by decide +kernel
theorem dX10_count_4 : decode cX10_count 4 = .ok (.iload_n 1, 1) := by decide +kernel
theorem dX10_count_5 : decode cX10_count 5 = .ok (.bipush 12, 2) := by decide +kernel
theorem dX10_count_7 : decode cX10_count 7 = .ok (.if_icmp .le 13, 3) := by decide +kernel
theorem dX10_count_10 : decode cX10_count 10 = .ok (.new 124, 3) := by decide +kernel
theorem dX10_count_13 : decode cX10_count 13 = .ok (.dup, 1) := by decide +kernel
theorem dX10_count_14 : decode cX10_count 14 = .ok (.ldc 126, 2) := by decide +kernel
theorem dX10_count_16 : decode cX10_count 16 = .ok (.invokespecial 128, 3) := by decide +kernel
theorem dX10_count_19 : decode cX10_count 19 = .ok (.athrow, 1) := by decide +kernel
theorem dX10_count_20 : decode cX10_count 20 = .ok (.iload_n 1, 1) := by decide +kernel
theorem dX10_count_21 : decode cX10_count 21 = .ok (.bipush 12, 2) := by decide +kernel
theorem dX10_count_23 : decode cX10_count 23 = .ok (.if_icmp .ne 13, 3) := by decide +kernel
theorem dX10_count_26 : decode cX10_count 26 = .ok (.aload_n 0, 1) := by decide +kernel
theorem dX10_count_27 : decode cX10_count 27 = .ok (.getfield 22, 3) := by decide +kernel
theorem dX10_count_30 : decode cX10_count 30 = .ok (.invokevirtual 76, 3) := by decide +kernel
theorem dX10_count_33 : decode cX10_count 33 = .ok (.goto 11, 3) := by decide +kernel
theorem dX10_count_36 : decode cX10_count 36 = .ok (.aload_n 0, 1) := by decide +kernel
theorem dX10_count_37 : decode cX10_count 37 = .ok (.getfield 58, 3) := by decide +kernel
theorem dX10_count_40 : decode cX10_count 40 = .ok (.iload_n 1, 1) := by decide +kernel
theorem dX10_count_41 : decode cX10_count 41 = .ok (.invokevirtual 129, 3) := by decide +kernel
theorem dX10_count_44 : decode cX10_count 44 = .ok (.ireturn, 1) := by decide +kernel
theorem dX10_colour_0 : decode cX10_colour 0 = .ok (.aload_n 0, 1) := by decide +kernel
theorem dX10_colour_1 : decode cX10_colour 1 = .ok (.getfield 10, 3) := by decide +kernel
theorem dX10_colour_4 : decode cX10_colour 4 = .ok (.iload_n 1, 1) := by decide +kernel
theorem dX10_colour_5 : decode cX10_colour 5 = .ok (.invokevirtual 132, 3) := by decide +kernel
theorem dX10_colour_8 : decode cX10_colour 8 = .ok (.ifCond .eq 12, 3) := by decide +kernel
theorem dX10_colour_11 : decode cX10_colour 11 = .ok (.iload_n 2, 1) := by decide +kernel
theorem dX10_colour_12 : decode cX10_colour 12 = .ok (.ifCond .lt 8, 3) := by decide +kernel
theorem dX10_colour_15 : decode cX10_colour 15 = .ok (.iload_n 2, 1) := by decide +kernel
theorem dX10_colour_16 : decode cX10_colour 16 = .ok (.iconst 2, 1) := by decide +kernel
theorem dX10_colour_17 : decode cX10_colour 17 = .ok (.if_icmp .le 13, 3) := by decide +kernel
theorem dX10_colour_20 : decode cX10_colour 20 = .ok (.new 124, 3) := by decide +kernel
theorem dX10_colour_23 : decode cX10_colour 23 = .ok (.dup, 1) := by decide +kernel
theorem dX10_colour_24 : decode cX10_colour 24 = .ok (.ldc 136, 2) := by decide +kernel
theorem dX10_colour_26 : decode cX10_colour 26 = .ok (.invokespecial 128, 3) := by decide +kernel
theorem dX10_colour_29 : decode cX10_colour 29 = .ok (.athrow, 1) := by decide +kernel
theorem dX10_colour_30 : decode cX10_colour 30 = .ok (.aload_n 0, 1) := by decide +kernel
theorem dX10_colour_31 : decode cX10_colour 31 = .ok (.getfield 58, 3) := by decide +kernel
theorem dX10_colour_34 : decode cX10_colour 34 = .ok (.iload_n 1, 1) := by decide +kernel
theorem dX10_colour_35 : decode cX10_colour 35 = .ok (.iload_n 2, 1) := by decide +kernel
theorem dX10_colour_36 : decode cX10_colour 36 = .ok (.invokevirtual 138, 3) := by decide +kernel
theorem dX10_colour_39 : decode cX10_colour 39 = .ok (.ireturn, 1) := by decide +kernel
theorem dX10_cord_0 : decode cX10_cord 0 = .ok (.aload_n 0, 1) := by decide +kernel
theorem dX10_cord_1 : decode cX10_cord 1 = .ok (.getfield 10, 3) := by decide +kernel
theorem dX10_cord_4 : decode cX10_cord 4 = .ok (.iload_n 1, 1) := by decide +kernel
theorem dX10_cord_5 : decode cX10_cord 5 = .ok (.invokevirtual 142, 3) := by decide +kernel
theorem dX10_cord_8 : decode cX10_cord 8 = .ok (.ifCond .eq 13, 3) := by decide +kernel
theorem dX10_cord_11 : decode cX10_cord 11 = .ok (.iload_n 2, 1) := by decide +kernel
theorem dX10_cord_12 : decode cX10_cord 12 = .ok (.ifCond .lt 9, 3) := by decide +kernel
theorem dX10_cord_15 : decode cX10_cord 15 = .ok (.iload_n 2, 1) := by decide +kernel
theorem dX10_cord_16 : decode cX10_cord 16 = .ok (.bipush 8, 2) := by decide +kernel
theorem dX10_cord_18 : decode cX10_cord 18 = .ok (.if_icmp .le 13, 3) := by decide +kernel
theorem dX10_cord_21 : decode cX10_cord 21 = .ok (.new 124, 3) := by decide +kernel
theorem dX10_cord_24 : decode cX10_cord 24 = .ok (.dup, 1) := by decide +kernel
theorem dX10_cord_25 : decode cX10_cord 25 = .ok (.ldc 145, 2) := by decide +kernel
theorem dX10_cord_27 : decode cX10_cord 27 = .ok (.invokespecial 128, 3) := by decide +kernel
theorem dX10_cord_30 : decode cX10_cord 30 = .ok (.athrow, 1) := by decide +kernel
theorem dX10_cord_31 : decode cX10_cord 31 = .ok (.aload_n 0, 1) := by decide +kernel
theorem dX10_cord_32 : decode cX10_cord 32 = .ok (.getfield 58, 3) := by decide +kernel
theorem dX10_cord_35 : decode cX10_cord 35 = .ok (.iload_n 1, 1) := by decide +kernel
theorem dX10_cord_36 : decode cX10_cord 36 = .ok (.iload_n 2, 1) := by decide +kernel
theorem dX10_cord_37 : decode cX10_cord 37 = .ok (.invokevirtual 147, 3) := by decide +kernel
theorem dX10_cord_40 : decode cX10_cord 40 = .ok (.ireturn, 1) := by decide +kernel
theorem dX10_digit_0 : decode cX10_digit 0 = .ok (.aload_n 0, 1) := by decide +kernel
theorem dX10_digit_1 : decode cX10_digit 1 = .ok (.getfield 10, 3) := by decide +kernel
theorem dX10_digit_4 : decode cX10_digit 4 = .ok (.iload_n 1, 1) := by decide +kernel
theorem dX10_digit_5 : decode cX10_digit 5 = .ok (.invokevirtual 142, 3) := by decide +kernel
theorem dX10_digit_8 : decode cX10_digit 8 = .ok (.ifCond .eq 12, 3) := by decide +kernel
theorem dX10_digit_11 : decode cX10_digit 11 = .ok (.iload_n 2, 1) := by decide +kernel
theorem dX10_digit_12 : decode cX10_digit 12 = .ok (.ifCond .lt 8, 3) := by decide +kernel
theorem dX10_digit_15 : decode cX10_digit 15 = .ok (.iload_n 2, 1) := by decide +kernel
theorem dX10_digit_16 : decode cX10_digit 16 = .ok (.iconst 3, 1) := by decide +kernel
theorem dX10_digit_17 : decode cX10_digit 17 = .ok (.if_icmp .le 13, 3) := by decide +kernel
theorem dX10_digit_20 : decode cX10_digit 20 = .ok (.new 124, 3) := by decide +kernel
theorem dX10_digit_23 : decode cX10_digit 23 = .ok (.dup, 1) := by decide +kernel
theorem dX10_digit_24 : decode cX10_digit 24 = .ok (.ldc 150, 2) := by decide +kernel
theorem dX10_digit_26 : decode cX10_digit 26 = .ok (.invokespecial 128, 3) := by decide +kernel
theorem dX10_digit_29 : decode cX10_digit 29 = .ok (.athrow, 1) := by decide +kernel
theorem dX10_digit_30 : decode cX10_digit 30 = .ok (.aload_n 0, 1) := by decide +kernel
theorem dX10_digit_31 : decode cX10_digit 31 = .ok (.getfield 58, 3) := by decide +kernel
theorem dX10_digit_34 : decode cX10_digit 34 = .ok (.getfield 152, 3) := by decide +kernel
theorem dX10_digit_37 : decode cX10_digit 37 = .ok (.iload_n 1, 1) := by decide +kernel
theorem dX10_digit_38 : decode cX10_digit 38 = .ok (.iaload, 1) := by decide +kernel
theorem dX10_digit_39 : decode cX10_digit 39 = .ok (.iload_n 2, 1) := by decide +kernel
theorem dX10_digit_40 : decode cX10_digit 40 = .ok (.invokestatic 155, 3) := by decide +kernel
theorem dX10_digit_43 : decode cX10_digit 43 = .ok (.ireturn, 1) := by decide +kernel
theorem dX10_top_0 : decode cX10_top 0 = .ok (.aload_n 0, 1) := by decide +kernel
theorem dX10_top_1 : decode cX10_top 1 = .ok (.getfield 10, 3) := by decide +kernel
theorem dX10_top_4 : decode cX10_top 4 = .ok (.iload_n 1, 1) := by decide +kernel
theorem dX10_top_5 : decode cX10_top 5 = .ok (.invokevirtual 160, 3) := by decide +kernel
theorem dX10_top_8 : decode cX10_top 8 = .ok (.ifCond .eq 12, 3) := by decide +kernel
theorem dX10_top_11 : decode cX10_top 11 = .ok (.iload_n 2, 1) := by decide +kernel
theorem dX10_top_12 : decode cX10_top 12 = .ok (.ifCond .lt 8, 3) := by decide +kernel
theorem dX10_top_15 : decode cX10_top 15 = .ok (.iload_n 2, 1) := by decide +kernel
theorem dX10_top_16 : decode cX10_top 16 = .ok (.iconst 3, 1) := by decide +kernel
theorem dX10_top_17 : decode cX10_top 17 = .ok (.if_icmp .le 13, 3) := by decide +kernel
theorem dX10_top_20 : decode cX10_top 20 = .ok (.new 124, 3) := by decide +kernel
theorem dX10_top_23 : decode cX10_top 23 = .ok (.dup, 1) := by decide +kernel
theorem dX10_top_24 : decode cX10_top 24 = .ok (.ldc 163, 2) := by decide +kernel
theorem dX10_top_26 : decode cX10_top 26 = .ok (.invokespecial 128, 3) := by decide +kernel
theorem dX10_top_29 : decode cX10_top 29 = .ok (.athrow, 1) := by decide +kernel
theorem dX10_top_30 : decode cX10_top 30 = .ok (.aload_n 0, 1) := by decide +kernel
theorem dX10_top_31 : decode cX10_top 31 = .ok (.getfield 58, 3) := by decide +kernel
theorem dX10_top_34 : decode cX10_top 34 = .ok (.iload_n 1, 1) := by decide +kernel
theorem dX10_top_35 : decode cX10_top 35 = .ok (.iload_n 2, 1) := by decide +kernel
theorem dX10_top_36 : decode cX10_top 36 = .ok (.invokevirtual 165, 3) := by decide +kernel
theorem dX10_top_39 : decode cX10_top 39 = .ok (.ireturn, 1) := by decide +kernel
theorem dX10_keeper_0 : decode cX10_keeper 0 = .ok (.aload_n 0, 1) := by decide +kernel
theorem dX10_keeper_1 : decode cX10_keeper 1 = .ok (.getfield 10, 3) := by decide +kernel
theorem dX10_keeper_4 : decode cX10_keeper 4 = .ok (.iload_n 1, 1) := by decide +kernel
theorem dX10_keeper_5 : decode cX10_keeper 5 = .ok (.invokevirtual 168, 3) := by decide +kernel
theorem dX10_keeper_8 : decode cX10_keeper 8 = .ok (.ifCond .eq 12, 3) := by decide +kernel
theorem dX10_keeper_11 : decode cX10_keeper 11 = .ok (.iload_n 2, 1) := by decide +kernel
theorem dX10_keeper_12 : decode cX10_keeper 12 = .ok (.ifCond .lt 8, 3) := by decide +kernel
theorem dX10_keeper_15 : decode cX10_keeper 15 = .ok (.iload_n 2, 1) := by decide +kernel
theorem dX10_keeper_16 : decode cX10_keeper 16 = .ok (.iconst 3, 1) := by decide +kernel
theorem dX10_keeper_17 : decode cX10_keeper 17 = .ok (.if_icmp .le 13, 3) := by decide +kernel
theorem dX10_keeper_20 : decode cX10_keeper 20 = .ok (.new 124, 3) := by decide +kernel
theorem dX10_keeper_23 : decode cX10_keeper 23 = .ok (.dup, 1) := by decide +kernel
theorem dX10_keeper_24 : decode cX10_keeper 24 = .ok (.ldc 171, 2) := by decide +kernel
theorem dX10_keeper_26 : decode cX10_keeper 26 = .ok (.invokespecial 128, 3) := by decide +kernel
theorem dX10_keeper_29 : decode cX10_keeper 29 = .ok (.athrow, 1) := by decide +kernel
theorem dX10_keeper_30 : decode cX10_keeper 30 = .ok (.aload_n 0, 1) := by decide +kernel
theorem dX10_keeper_31 : decode cX10_keeper 31 = .ok (.getfield 58, 3) := by decide +kernel
theorem dX10_keeper_34 : decode cX10_keeper 34 = .ok (.iload_n 1, 1) := by decide +kernel
theorem dX10_keeper_35 : decode cX10_keeper 35 = .ok (.iload_n 2, 1) := by decide +kernel
theorem dX10_keeper_36 : decode cX10_keeper 36 = .ok (.invokevirtual 173, 3) := by decide +kernel
theorem dX10_keeper_39 : decode cX10_keeper 39 = .ok (.ireturn, 1) := by decide +kernel
theorem dX10_apart_0 : decode cX10_apart 0 = .ok (.aload_n 0, 1) := by decide +kernel
theorem dX10_apart_1 : decode cX10_apart 1 = .ok (.getfield 10, 3) := by decide +kernel
theorem dX10_apart_4 : decode cX10_apart 4 = .ok (.iload_n 1, 1) := by decide +kernel
theorem dX10_apart_5 : decode cX10_apart 5 = .ok (.invokevirtual 142, 3) := by decide +kernel
theorem dX10_apart_8 : decode cX10_apart 8 = .ok (.ifCond .eq 14, 3) := by decide +kernel
theorem dX10_apart_11 : decode cX10_apart 11 = .ok (.aload_n 0, 1) := by decide +kernel
theorem dX10_apart_12 : decode cX10_apart 12 = .ok (.getfield 10, 3) := by decide +kernel
theorem dX10_apart_15 : decode cX10_apart 15 = .ok (.iload_n 2, 1) := by decide +kernel
theorem dX10_apart_16 : decode cX10_apart 16 = .ok (.invokevirtual 142, 3) := by decide +kernel
theorem dX10_apart_19 : decode cX10_apart 19 = .ok (.ifCond .ne 13, 3) := by decide +kernel
theorem dX10_apart_22 : decode cX10_apart 22 = .ok (.new 124, 3) := by decide +kernel
theorem dX10_apart_25 : decode cX10_apart 25 = .ok (.dup, 1) := by decide +kernel
theorem dX10_apart_26 : decode cX10_apart 26 = .ok (.ldc 176, 2) := by decide +kernel
theorem dX10_apart_28 : decode cX10_apart 28 = .ok (.invokespecial 128, 3) := by decide +kernel
theorem dX10_apart_31 : decode cX10_apart 31 = .ok (.athrow, 1) := by decide +kernel
theorem dX10_apart_32 : decode cX10_apart 32 = .ok (.aload_n 0, 1) := by decide +kernel
theorem dX10_apart_33 : decode cX10_apart 33 = .ok (.getfield 58, 3) := by decide +kernel
theorem dX10_apart_36 : decode cX10_apart 36 = .ok (.iload_n 1, 1) := by decide +kernel
theorem dX10_apart_37 : decode cX10_apart 37 = .ok (.iload_n 2, 1) := by decide +kernel
theorem dX10_apart_38 : decode cX10_apart 38 = .ok (.invokevirtual 178, 3) := by decide +kernel
theorem dX10_apart_41 : decode cX10_apart 41 = .ok (.ireturn, 1) := by decide +kernel
theorem dX10_order_0 : decode cX10_order 0 = .ok (.aload_n 0, 1) := by decide +kernel
theorem dX10_order_1 : decode cX10_order 1 = .ok (.getfield 10, 3) := by decide +kernel
theorem dX10_order_4 : decode cX10_order 4 = .ok (.iload_n 1, 1) := by decide +kernel
theorem dX10_order_5 : decode cX10_order 5 = .ok (.invokevirtual 142, 3) := by decide +kernel
theorem dX10_order_8 : decode cX10_order 8 = .ok (.ifCond .ne 13, 3) := by decide +kernel
theorem dX10_order_11 : decode cX10_order 11 = .ok (.new 124, 3) := by decide +kernel
theorem dX10_order_14 : decode cX10_order 14 = .ok (.dup, 1) := by decide +kernel
theorem dX10_order_15 : decode cX10_order 15 = .ok (.ldc 181, 2) := by decide +kernel
theorem dX10_order_17 : decode cX10_order 17 = .ok (.invokespecial 128, 3) := by decide +kernel
theorem dX10_order_20 : decode cX10_order 20 = .ok (.athrow, 1) := by decide +kernel
theorem dX10_order_21 : decode cX10_order 21 = .ok (.aload_n 0, 1) := by decide +kernel
theorem dX10_order_22 : decode cX10_order 22 = .ok (.getfield 58, 3) := by decide +kernel
theorem dX10_order_25 : decode cX10_order 25 = .ok (.iload_n 1, 1) := by decide +kernel
theorem dX10_order_26 : decode cX10_order 26 = .ok (.invokevirtual 183, 3) := by decide +kernel
theorem dX10_order_29 : decode cX10_order 29 = .ok (.ireturn, 1) := by decide +kernel
theorem dX10_find_0 : decode cX10_find 0 = .ok (.aload_n 0, 1) := by decide +kernel
theorem dX10_find_1 : decode cX10_find 1 = .ok (.getfield 58, 3) := by decide +kernel
theorem dX10_find_4 : decode cX10_find 4 = .ok (.iload_n 1, 1) := by decide +kernel
theorem dX10_find_5 : decode cX10_find 5 = .ok (.invokevirtual 186, 3) := by decide +kernel
theorem dX10_find_8 : decode cX10_find 8 = .ok (.ireturn, 1) := by decide +kernel
theorem dX10_disorder_0 : decode cX10_disorder 0 = .ok (.aload_n 0, 1) := by decide +kernel
theorem dX10_disorder_1 : decode cX10_disorder 1 = .ok (.getfield 58, 3) := by decide +kernel
theorem dX10_disorder_4 : decode cX10_disorder 4 = .ok (.invokevirtual 189, 3) := by decide +kernel
theorem dX10_disorder_7 : decode cX10_disorder 7 = .ok (.ireturn, 1) := by decide +kernel
theorem dX10_set_0 : decode cX10_set 0 = .ok (.aload_n 0, 1) := by decide +kernel
theorem dX10_set_1 : decode cX10_set 1 = .ok (.getfield 10, 3) := by decide +kernel
theorem dX10_set_4 : decode cX10_set 4 = .ok (.iload_n 1, 1) := by decide +kernel
theorem dX10_set_5 : decode cX10_set 5 = .ok (.invokevirtual 142, 3) := by decide +kernel
theorem dX10_set_8 : decode cX10_set 8 = .ok (.ifCond .ne 13, 3) := by decide +kernel
theorem dX10_set_11 : decode cX10_set 11 = .ok (.new 124, 3) := by decide +kernel
theorem dX10_set_14 : decode cX10_set 14 = .ok (.dup, 1) := by decide +kernel
theorem dX10_set_15 : decode cX10_set 15 = .ok (.ldc 176, 2) := by decide +kernel
theorem dX10_set_17 : decode cX10_set 17 = .ok (.invokespecial 128, 3) := by decide +kernel
theorem dX10_set_20 : decode cX10_set 20 = .ok (.athrow, 1) := by decide +kernel
theorem dX10_set_21 : decode cX10_set 21 = .ok (.iload_n 2, 1) := by decide +kernel
theorem dX10_set_22 : decode cX10_set 22 = .ok (.ifCond .lt 10, 3) := by decide +kernel
theorem dX10_set_25 : decode cX10_set 25 = .ok (.iload_n 2, 1) := by decide +kernel
theorem dX10_set_26 : decode cX10_set 26 = .ok (.sipush 9999, 3) := by decide +kernel
theorem dX10_set_29 : decode cX10_set 29 = .ok (.if_icmp .le 13, 3) := by decide +kernel
theorem dX10_set_32 : decode cX10_set 32 = .ok (.new 91, 3) := by decide +kernel
theorem dX10_set_35 : decode cX10_set 35 = .ok (.dup, 1) := by decide +kernel
theorem dX10_set_36 : decode cX10_set 36 = .ok (.ldc 192, 2) := by decide +kernel
theorem dX10_set_38 : decode cX10_set 38 = .ok (.invokespecial 95, 3) := by decide +kernel
theorem dX10_set_41 : decode cX10_set 41 = .ok (.athrow, 1) := by decide +kernel
theorem dX10_set_42 : decode cX10_set 42 = .ok (.aload_n 0, 1) := by decide +kernel
theorem dX10_set_43 : decode cX10_set 43 = .ok (.getfield 58, 3) := by decide +kernel
theorem dX10_set_46 : decode cX10_set 46 = .ok (.getfield 152, 3) := by decide +kernel
theorem dX10_set_49 : decode cX10_set 49 = .ok (.iload_n 1, 1) := by decide +kernel
theorem dX10_set_50 : decode cX10_set 50 = .ok (.iaload, 1) := by decide +kernel
theorem dX10_set_51 : decode cX10_set 51 = .ok (.istore_n 3, 1) := by decide +kernel
theorem dX10_set_52 : decode cX10_set 52 = .ok (.aload_n 0, 1) := by decide +kernel
theorem dX10_set_53 : decode cX10_set 53 = .ok (.getfield 58, 3) := by decide +kernel
theorem dX10_set_56 : decode cX10_set 56 = .ok (.iload_n 1, 1) := by decide +kernel
theorem dX10_set_57 : decode cX10_set 57 = .ok (.iload_n 2, 1) := by decide +kernel
theorem dX10_set_58 : decode cX10_set 58 = .ok (.invokevirtual 194, 3) := by decide +kernel
theorem dX10_set_61 : decode cX10_set 61 = .ok (.iload_n 3, 1) := by decide +kernel
theorem dX10_set_62 : decode cX10_set 62 = .ok (.ireturn, 1) := by decide +kernel
theorem dX10_rest_0 : decode cX10_rest 0 = .ok (.aload_n 0, 1) := by decide +kernel
theorem dX10_rest_1 : decode cX10_rest 1 = .ok (.getfield 10, 3) := by decide +kernel
theorem dX10_rest_4 : decode cX10_rest 4 = .ok (.iload_n 1, 1) := by decide +kernel
theorem dX10_rest_5 : decode cX10_rest 5 = .ok (.invokevirtual 168, 3) := by decide +kernel
theorem dX10_rest_8 : decode cX10_rest 8 = .ok (.ifCond .ne 13, 3) := by decide +kernel
theorem dX10_rest_11 : decode cX10_rest 11 = .ok (.new 124, 3) := by decide +kernel
theorem dX10_rest_14 : decode cX10_rest 14 = .ok (.dup, 1) := by decide +kernel
theorem dX10_rest_15 : decode cX10_rest 15 = .ok (.ldc 198, 2) := by decide +kernel
theorem dX10_rest_17 : decode cX10_rest 17 = .ok (.invokespecial 128, 3) := by decide +kernel
theorem dX10_rest_20 : decode cX10_rest 20 = .ok (.athrow, 1) := by decide +kernel
theorem dX10_rest_21 : decode cX10_rest 21 = .ok (.aload_n 0, 1) := by decide +kernel
theorem dX10_rest_22 : decode cX10_rest 22 = .ok (.getfield 58, 3) := by decide +kernel
theorem dX10_rest_25 : decode cX10_rest 25 = .ok (.getfield 200, 3) := by decide +kernel
theorem dX10_rest_28 : decode cX10_rest 28 = .ok (.iload_n 1, 1) := by decide +kernel
theorem dX10_rest_29 : decode cX10_rest 29 = .ok (.iaload, 1) := by decide +kernel
theorem dX10_rest_30 : decode cX10_rest 30 = .ok (.istore_n 2, 1) := by decide +kernel
theorem dX10_rest_31 : decode cX10_rest 31 = .ok (.aload_n 0, 1) := by decide +kernel
theorem dX10_rest_32 : decode cX10_rest 32 = .ok (.getfield 58, 3) := by decide +kernel
theorem dX10_rest_35 : decode cX10_rest 35 = .ok (.getfield 200, 3) := by decide +kernel
theorem dX10_rest_38 : decode cX10_rest 38 = .ok (.iload_n 1, 1) := by decide +kernel
theorem dX10_rest_39 : decode cX10_rest 39 = .ok (.iconst 0, 1) := by decide +kernel
theorem dX10_rest_40 : decode cX10_rest 40 = .ok (.iastore, 1) := by decide +kernel
theorem dX10_rest_41 : decode cX10_rest 41 = .ok (.iload_n 2, 1) := by decide +kernel
theorem dX10_rest_42 : decode cX10_rest 42 = .ok (.ireturn, 1) := by decide +kernel
theorem dX10_dye_0 : decode cX10_dye 0 = .ok (.aload_n 0, 1) := by decide +kernel
theorem dX10_dye_1 : decode cX10_dye 1 = .ok (.getfield 10, 3) := by decide +kernel
theorem dX10_dye_4 : decode cX10_dye 4 = .ok (.iload_n 1, 1) := by decide +kernel
theorem dX10_dye_5 : decode cX10_dye 5 = .ok (.invokevirtual 142, 3) := by decide +kernel
theorem dX10_dye_8 : decode cX10_dye 8 = .ok (.ifCond .eq 14, 3) := by decide +kernel
theorem dX10_dye_11 : decode cX10_dye 11 = .ok (.aload_n 0, 1) := by decide +kernel
theorem dX10_dye_12 : decode cX10_dye 12 = .ok (.getfield 10, 3) := by decide +kernel
theorem dX10_dye_15 : decode cX10_dye 15 = .ok (.iload_n 2, 1) := by decide +kernel
theorem dX10_dye_16 : decode cX10_dye 16 = .ok (.invokevirtual 132, 3) := by decide +kernel
theorem dX10_dye_19 : decode cX10_dye 19 = .ok (.ifCond .ne 13, 3) := by decide +kernel
theorem dX10_dye_22 : decode cX10_dye 22 = .ok (.new 124, 3) := by decide +kernel
theorem dX10_dye_25 : decode cX10_dye 25 = .ok (.dup, 1) := by decide +kernel
theorem dX10_dye_26 : decode cX10_dye 26 = .ok (.ldc 203, 2) := by decide +kernel
theorem dX10_dye_28 : decode cX10_dye 28 = .ok (.invokespecial 128, 3) := by decide +kernel
theorem dX10_dye_31 : decode cX10_dye 31 = .ok (.athrow, 1) := by decide +kernel
theorem dX10_dye_32 : decode cX10_dye 32 = .ok (.aload_n 0, 1) := by decide +kernel
theorem dX10_dye_33 : decode cX10_dye 33 = .ok (.getfield 58, 3) := by decide +kernel
theorem dX10_dye_36 : decode cX10_dye 36 = .ok (.getfield 205, 3) := by decide +kernel
theorem dX10_dye_39 : decode cX10_dye 39 = .ok (.iload_n 1, 1) := by decide +kernel
theorem dX10_dye_40 : decode cX10_dye 40 = .ok (.iaload, 1) := by decide +kernel
theorem dX10_dye_41 : decode cX10_dye 41 = .ok (.istore_n 3, 1) := by decide +kernel
theorem dX10_dye_42 : decode cX10_dye 42 = .ok (.aload_n 0, 1) := by decide +kernel
theorem dX10_dye_43 : decode cX10_dye 43 = .ok (.getfield 58, 3) := by decide +kernel
theorem dX10_dye_46 : decode cX10_dye 46 = .ok (.getfield 205, 3) := by decide +kernel
theorem dX10_dye_49 : decode cX10_dye 49 = .ok (.iload_n 1, 1) := by decide +kernel
theorem dX10_dye_50 : decode cX10_dye 50 = .ok (.iload_n 2, 1) := by decide +kernel
theorem dX10_dye_51 : decode cX10_dye 51 = .ok (.iastore, 1) := by decide +kernel
theorem dX10_dye_52 : decode cX10_dye 52 = .ok (.iload_n 3, 1) := by decide +kernel
theorem dX10_dye_53 : decode cX10_dye 53 = .ok (.ireturn, 1) := by decide +kernel
theorem dX10_hang_0 : decode cX10_hang 0 = .ok (.aload_n 0, 1) := by decide +kernel
theorem dX10_hang_1 : decode cX10_hang 1 = .ok (.getfield 10, 3) := by decide +kernel
theorem dX10_hang_4 : decode cX10_hang 4 = .ok (.iload_n 1, 1) := by decide +kernel
theorem dX10_hang_5 : decode cX10_hang 5 = .ok (.invokevirtual 142, 3) := by decide +kernel
theorem dX10_hang_8 : decode cX10_hang 8 = .ok (.ifCond .eq 19, 3) := by decide +kernel
theorem dX10_hang_11 : decode cX10_hang 11 = .ok (.iload_n 2, 1) := by decide +kernel
theorem dX10_hang_12 : decode cX10_hang 12 = .ok (.iconst (-1), 1) := by decide +kernel
theorem dX10_hang_13 : decode cX10_hang 13 = .ok (.if_icmp .eq 24, 3) := by decide +kernel
theorem dX10_hang_16 : decode cX10_hang 16 = .ok (.aload_n 0, 1) := by decide +kernel
theorem dX10_hang_17 : decode cX10_hang 17 = .ok (.getfield 10, 3) := by decide +kernel
theorem dX10_hang_20 : decode cX10_hang 20 = .ok (.iload_n 2, 1) := by decide +kernel
theorem dX10_hang_21 : decode cX10_hang 21 = .ok (.invokevirtual 142, 3) := by decide +kernel
theorem dX10_hang_24 : decode cX10_hang 24 = .ok (.ifCond .ne 13, 3) := by decide +kernel
theorem dX10_hang_27 : decode cX10_hang 27 = .ok (.new 124, 3) := by decide +kernel
theorem dX10_hang_30 : decode cX10_hang 30 = .ok (.dup, 1) := by decide +kernel
theorem dX10_hang_31 : decode cX10_hang 31 = .ok (.ldc 176, 2) := by decide +kernel
theorem dX10_hang_33 : decode cX10_hang 33 = .ok (.invokespecial 128, 3) := by decide +kernel
theorem dX10_hang_36 : decode cX10_hang 36 = .ok (.athrow, 1) := by decide +kernel
theorem dX10_hang_37 : decode cX10_hang 37 = .ok (.aload_n 0, 1) := by decide +kernel
theorem dX10_hang_38 : decode cX10_hang 38 = .ok (.getfield 58, 3) := by decide +kernel
theorem dX10_hang_41 : decode cX10_hang 41 = .ok (.iload_n 2, 1) := by decide +kernel
theorem dX10_hang_42 : decode cX10_hang 42 = .ok (.iload_n 1, 1) := by decide +kernel
theorem dX10_hang_43 : decode cX10_hang 43 = .ok (.invokevirtual 208, 3) := by decide +kernel
theorem dX10_hang_46 : decode cX10_hang 46 = .ok (.ifCond .eq 13, 3) := by decide +kernel
theorem dX10_hang_49 : decode cX10_hang 49 = .ok (.new 80, 3) := by decide +kernel
theorem dX10_hang_52 : decode cX10_hang 52 = .ok (.dup, 1) := by decide +kernel
theorem dX10_hang_53 : decode cX10_hang 53 = .ok (.ldc 212, 2) := by decide +kernel
theorem dX10_hang_55 : decode cX10_hang 55 = .ok (.invokespecial 84, 3) := by decide +kernel
theorem dX10_hang_58 : decode cX10_hang 58 = .ok (.athrow, 1) := by decide +kernel
theorem dX10_hang_59 : decode cX10_hang 59 = .ok (.aload_n 0, 1) := by decide +kernel
theorem dX10_hang_60 : decode cX10_hang 60 = .ok (.getfield 58, 3) := by decide +kernel
theorem dX10_hang_63 : decode cX10_hang 63 = .ok (.iload_n 2, 1) := by decide +kernel
theorem dX10_hang_64 : decode cX10_hang 64 = .ok (.invokevirtual 214, 3) := by decide +kernel
theorem dX10_hang_67 : decode cX10_hang 67 = .ok (.aload_n 0, 1) := by decide +kernel
theorem dX10_hang_68 : decode cX10_hang 68 = .ok (.getfield 58, 3) := by decide +kernel
theorem dX10_hang_71 : decode cX10_hang 71 = .ok (.iload_n 1, 1) := by decide +kernel
theorem dX10_hang_72 : decode cX10_hang 72 = .ok (.invokevirtual 217, 3) := by decide +kernel
theorem dX10_hang_75 : decode cX10_hang 75 = .ok (.iadd, 1) := by decide +kernel
theorem dX10_hang_76 : decode cX10_hang 76 = .ok (.iconst 4, 1) := by decide +kernel
theorem dX10_hang_77 : decode cX10_hang 77 = .ok (.if_icmp .le 13, 3) := by decide +kernel
theorem dX10_hang_80 : decode cX10_hang 80 = .ok (.new 80, 3) := by decide +kernel
theorem dX10_hang_83 : decode cX10_hang 83 = .ok (.dup, 1) := by decide +kernel
theorem dX10_hang_84 : decode cX10_hang 84 = .ok (.ldc 220, 2) := by decide +kernel
theorem dX10_hang_86 : decode cX10_hang 86 = .ok (.invokespecial 84, 3) := by decide +kernel
theorem dX10_hang_89 : decode cX10_hang 89 = .ok (.athrow, 1) := by decide +kernel
theorem dX10_hang_90 : decode cX10_hang 90 = .ok (.aload_n 0, 1) := by decide +kernel
theorem dX10_hang_91 : decode cX10_hang 91 = .ok (.getfield 58, 3) := by decide +kernel
theorem dX10_hang_94 : decode cX10_hang 94 = .ok (.iload_n 1, 1) := by decide +kernel
theorem dX10_hang_95 : decode cX10_hang 95 = .ok (.iload_n 2, 1) := by decide +kernel
theorem dX10_hang_96 : decode cX10_hang 96 = .ok (.invokevirtual 222, 3) := by decide +kernel
theorem dX10_hang_99 : decode cX10_hang 99 = .ok (.aload_n 0, 1) := by decide +kernel
theorem dX10_hang_100 : decode cX10_hang 100 = .ok (.getfield 58, 3) := by decide +kernel
theorem dX10_hang_103 : decode cX10_hang 103 = .ok (.iload_n 1, 1) := by decide +kernel
theorem dX10_hang_104 : decode cX10_hang 104 = .ok (.invokevirtual 214, 3) := by decide +kernel
theorem dX10_hang_107 : decode cX10_hang 107 = .ok (.ireturn, 1) := by decide +kernel
theorem dX10_pass_0 : decode cX10_pass 0 = .ok (.iload_n 1, 1) := by decide +kernel
theorem dX10_pass_1 : decode cX10_pass 1 = .ok (.iconst 1, 1) := by decide +kernel
theorem dX10_pass_2 : decode cX10_pass 2 = .ok (.if_icmp .lt 9, 3) := by decide +kernel
theorem dX10_pass_5 : decode cX10_pass 5 = .ok (.iload_n 1, 1) := by decide +kernel
theorem dX10_pass_6 : decode cX10_pass 6 = .ok (.bipush 120, 2) := by decide +kernel
theorem dX10_pass_8 : decode cX10_pass 8 = .ok (.if_icmp .le 13, 3) := by decide +kernel
theorem dX10_pass_11 : decode cX10_pass 11 = .ok (.new 91, 3) := by decide +kernel
theorem dX10_pass_14 : decode cX10_pass 14 = .ok (.dup, 1) := by decide +kernel
theorem dX10_pass_15 : decode cX10_pass 15 = .ok (.ldc 225, 2) := by decide +kernel
theorem dX10_pass_17 : decode cX10_pass 17 = .ok (.invokespecial 95, 3) := by decide +kernel
theorem dX10_pass_20 : decode cX10_pass 20 = .ok (.athrow, 1) := by decide +kernel
theorem dX10_pass_21 : decode cX10_pass 21 = .ok (.aload_n 0, 1) := by decide +kernel
theorem dX10_pass_22 : decode cX10_pass 22 = .ok (.getfield 58, 3) := by decide +kernel
theorem dX10_pass_25 : decode cX10_pass 25 = .ok (.getfield 227, 3) := by decide +kernel
theorem dX10_pass_28 : decode cX10_pass 28 = .ok (.istore_n 2, 1) := by decide +kernel
theorem dX10_pass_29 : decode cX10_pass 29 = .ok (.aload_n 0, 1) := by decide +kernel
theorem dX10_pass_30 : decode cX10_pass 30 = .ok (.getfield 68, 3) := by decide +kernel
theorem dX10_pass_33 : decode cX10_pass 33 = .ok (.aload_n 0, 1) := by decide +kernel
theorem dX10_pass_34 : decode cX10_pass 34 = .ok (.getfield 58, 3) := by decide +kernel
theorem dX10_pass_37 : decode cX10_pass 37 = .ok (.iload_n 1, 1) := by decide +kernel
theorem dX10_pass_38 : decode cX10_pass 38 = .ok (.invokevirtual 230, 3) := by decide +kernel
theorem dX10_pass_41 : decode cX10_pass 41 = .ok (.aload_n 0, 1) := by decide +kernel
theorem dX10_pass_42 : decode cX10_pass 42 = .ok (.getfield 58, 3) := by decide +kernel
theorem dX10_pass_45 : decode cX10_pass 45 = .ok (.getfield 227, 3) := by decide +kernel
theorem dX10_pass_48 : decode cX10_pass 48 = .ok (.iload_n 2, 1) := by decide +kernel
theorem dX10_pass_49 : decode cX10_pass 49 = .ok (.isub, 1) := by decide +kernel
theorem dX10_pass_50 : decode cX10_pass 50 = .ok (.ireturn, 1) := by decide +kernel
theorem dX10_until_0 : decode cX10_until 0 = .ok (.aload_n 0, 1) := by decide +kernel
theorem dX10_until_1 : decode cX10_until 1 = .ok (.getfield 10, 3) := by decide +kernel
theorem dX10_until_4 : decode cX10_until 4 = .ok (.iload_n 1, 1) := by decide +kernel
theorem dX10_until_5 : decode cX10_until 5 = .ok (.invokevirtual 160, 3) := by decide +kernel
theorem dX10_until_8 : decode cX10_until 8 = .ok (.ifCond .ne 13, 3) := by decide +kernel
theorem dX10_until_11 : decode cX10_until 11 = .ok (.new 124, 3) := by decide +kernel
theorem dX10_until_14 : decode cX10_until 14 = .ok (.dup, 1) := by decide +kernel
theorem dX10_until_15 : decode cX10_until 15 = .ok (.ldc 234, 2) := by decide +kernel
theorem dX10_until_17 : decode cX10_until 17 = .ok (.invokespecial 128, 3) := by decide +kernel
theorem dX10_until_20 : decode cX10_until 20 = .ok (.athrow, 1) := by decide +kernel
theorem dX10_until_21 : decode cX10_until 21 = .ok (.aload_n 0, 1) := by decide +kernel
theorem dX10_until_22 : decode cX10_until 22 = .ok (.getfield 62, 3) := by decide +kernel
theorem dX10_until_25 : decode cX10_until 25 = .ok (.aload_n 0, 1) := by decide +kernel
theorem dX10_until_26 : decode cX10_until 26 = .ok (.getfield 58, 3) := by decide +kernel
theorem dX10_until_29 : decode cX10_until 29 = .ok (.invokevirtual 236, 3) := by decide +kernel
theorem dX10_until_32 : decode cX10_until 32 = .ok (.iconst 0, 1) := by decide +kernel
theorem dX10_until_33 : decode cX10_until 33 = .ok (.istore_n 2, 1) := by decide +kernel
theorem dX10_until_34 : decode cX10_until 34 = .ok (.iload_n 2, 1) := by decide +kernel
theorem dX10_until_35 : decode cX10_until 35 = .ok (.sipush 150, 3) := by decide +kernel
theorem dX10_until_38 : decode cX10_until 38 = .ok (.if_icmp .ge 34, 3) := by decide +kernel
theorem dX10_until_41 : decode cX10_until 41 = .ok (.aload_n 0, 1) := by decide +kernel
theorem dX10_until_42 : decode cX10_until 42 = .ok (.getfield 62, 3) := by decide +kernel
theorem dX10_until_45 : decode cX10_until 45 = .ok (.iload_n 1, 1) := by decide +kernel
theorem dX10_until_46 : decode cX10_until 46 = .ok (.invokevirtual 240, 3) := by decide +kernel
theorem dX10_until_49 : decode cX10_until 49 = .ok (.ifCond .eq 5, 3) := by decide +kernel
theorem dX10_until_52 : decode cX10_until 52 = .ok (.iload_n 2, 1) := by decide +kernel
theorem dX10_until_53 : decode cX10_until 53 = .ok (.ireturn, 1) := by decide +kernel
theorem dX10_until_54 : decode cX10_until 54 = .ok (.aload_n 0, 1) := by decide +kernel
theorem dX10_until_55 : decode cX10_until 55 = .ok (.getfield 68, 3) := by decide +kernel
theorem dX10_until_58 : decode cX10_until 58 = .ok (.aload_n 0, 1) := by decide +kernel
theorem dX10_until_59 : decode cX10_until 59 = .ok (.getfield 62, 3) := by decide +kernel
theorem dX10_until_62 : decode cX10_until 62 = .ok (.iconst 1, 1) := by decide +kernel
theorem dX10_until_63 : decode cX10_until 63 = .ok (.invokevirtual 230, 3) := by decide +kernel
theorem dX10_until_66 : decode cX10_until 66 = .ok (.iinc 2 1, 3) := by decide +kernel
theorem dX10_until_69 : decode cX10_until 69 = .ok (.goto (-35), 3) := by decide +kernel
theorem dX10_until_72 : decode cX10_until 72 = .ok (.aload_n 0, 1) := by decide +kernel
theorem dX10_until_73 : decode cX10_until 73 = .ok (.getfield 62, 3) := by decide +kernel
theorem dX10_until_76 : decode cX10_until 76 = .ok (.iload_n 1, 1) := by decide +kernel
theorem dX10_until_77 : decode cX10_until 77 = .ok (.invokevirtual 240, 3) := by decide +kernel
theorem dX10_until_80 : decode cX10_until 80 = .ok (.ifCond .eq 9, 3) := by decide +kernel
theorem dX10_until_83 : decode cX10_until 83 = .ok (.sipush 150, 3) := by decide +kernel
theorem dX10_until_86 : decode cX10_until 86 = .ok (.goto 4, 3) := by decide +kernel
theorem dX10_until_89 : decode cX10_until 89 = .ok (.iconst (-1), 1) := by decide +kernel
theorem dX10_until_90 : decode cX10_until 90 = .ok (.ireturn, 1) := by decide +kernel
theorem dX10_foresee_0 : decode cX10_foresee 0 = .ok (.iload_n 1, 1) := by decide +kernel
theorem dX10_foresee_1 : decode cX10_foresee 1 = .ok (.iconst 1, 1) := by decide +kernel
theorem dX10_foresee_2 : decode cX10_foresee 2 = .ok (.if_icmp .lt 9, 3) := by decide +kernel
theorem dX10_foresee_5 : decode cX10_foresee 5 = .ok (.iload_n 1, 1) := by decide +kernel
theorem dX10_foresee_6 : decode cX10_foresee 6 = .ok (.bipush 120, 2) := by decide +kernel
theorem dX10_foresee_8 : decode cX10_foresee 8 = .ok (.if_icmp .le 13, 3) := by decide +kernel
theorem dX10_foresee_11 : decode cX10_foresee 11 = .ok (.new 91, 3) := by decide +kernel
theorem dX10_foresee_14 : decode cX10_foresee 14 = .ok (.dup, 1) := by decide +kernel
theorem dX10_foresee_15 : decode cX10_foresee 15 = .ok (.ldc 225, 2) := by decide +kernel
theorem dX10_foresee_17 : decode cX10_foresee 17 = .ok (.invokespecial 95, 3) := by decide +kernel
theorem dX10_foresee_20 : decode cX10_foresee 20 = .ok (.athrow, 1) := by decide +kernel
theorem dX10_foresee_21 : decode cX10_foresee 21 = .ok (.iload_n 2, 1) := by decide +kernel
theorem dX10_foresee_22 : decode cX10_foresee 22 = .ok (.bipush 6, 2) := by decide +kernel
theorem dX10_foresee_24 : decode cX10_foresee 24 = .ok (.if_icmp .lt 9, 3) := by decide +kernel
theorem dX10_foresee_27 : decode cX10_foresee 27 = .ok (.iload_n 2, 1) := by decide +kernel
theorem dX10_foresee_28 : decode cX10_foresee 28 = .ok (.bipush 11, 2) := by decide +kernel
theorem dX10_foresee_30 : decode cX10_foresee 30 = .ok (.if_icmp .le 13, 3) := by decide +kernel
theorem dX10_foresee_33 : decode cX10_foresee 33 = .ok (.new 124, 3) := by decide +kernel
theorem dX10_foresee_36 : decode cX10_foresee 36 = .ok (.dup, 1) := by decide +kernel
theorem dX10_foresee_37 : decode cX10_foresee 37 = .ok (.ldc 126, 2) := by decide +kernel
theorem dX10_foresee_39 : decode cX10_foresee 39 = .ok (.invokespecial 128, 3) := by decide +kernel
theorem dX10_foresee_42 : decode cX10_foresee 42 = .ok (.athrow, 1) := by decide +kernel
theorem dX10_foresee_43 : decode cX10_foresee 43 = .ok (.aload_n 0, 1) := by decide +kernel
theorem dX10_foresee_44 : decode cX10_foresee 44 = .ok (.getfield 62, 3) := by decide +kernel
theorem dX10_foresee_47 : decode cX10_foresee 47 = .ok (.aload_n 0, 1) := by decide +kernel
theorem dX10_foresee_48 : decode cX10_foresee 48 = .ok (.getfield 58, 3) := by decide +kernel
theorem dX10_foresee_51 : decode cX10_foresee 51 = .ok (.invokevirtual 236, 3) := by decide +kernel
theorem dX10_foresee_54 : decode cX10_foresee 54 = .ok (.aload_n 0, 1) := by decide +kernel
theorem dX10_foresee_55 : decode cX10_foresee 55 = .ok (.getfield 68, 3) := by decide +kernel
theorem dX10_foresee_58 : decode cX10_foresee 58 = .ok (.aload_n 0, 1) := by decide +kernel
theorem dX10_foresee_59 : decode cX10_foresee 59 = .ok (.getfield 62, 3) := by decide +kernel
theorem dX10_foresee_62 : decode cX10_foresee 62 = .ok (.iload_n 1, 1) := by decide +kernel
theorem dX10_foresee_63 : decode cX10_foresee 63 = .ok (.invokevirtual 230, 3) := by decide +kernel
theorem dX10_foresee_66 : decode cX10_foresee 66 = .ok (.aload_n 0, 1) := by decide +kernel
theorem dX10_foresee_67 : decode cX10_foresee 67 = .ok (.getfield 62, 3) := by decide +kernel
theorem dX10_foresee_70 : decode cX10_foresee 70 = .ok (.iload_n 2, 1) := by decide +kernel
theorem dX10_foresee_71 : decode cX10_foresee 71 = .ok (.invokevirtual 129, 3) := by decide +kernel
theorem dX10_foresee_74 : decode cX10_foresee 74 = .ok (.ireturn, 1) := by decide +kernel
theorem dX10_advise_0 : decode cX10_advise 0 = .ok (.iload_n 1, 1) := by decide +kernel
theorem dX10_advise_1 : decode cX10_advise 1 = .ok (.iconst 1, 1) := by decide +kernel
theorem dX10_advise_2 : decode cX10_advise 2 = .ok (.if_icmp .lt 9, 3) := by decide +kernel
theorem dX10_advise_5 : decode cX10_advise 5 = .ok (.iload_n 1, 1) := by decide +kernel
theorem dX10_advise_6 : decode cX10_advise 6 = .ok (.bipush 90, 2) := by decide +kernel
theorem dX10_advise_8 : decode cX10_advise 8 = .ok (.if_icmp .le 13, 3) := by decide +kernel
theorem dX10_advise_11 : decode cX10_advise 11 = .ok (.new 91, 3) := by decide +kernel
theorem dX10_advise_14 : decode cX10_advise 14 = .ok (.dup, 1) := by decide +kernel
theorem dX10_advise_15 : decode cX10_advise 15 = .ok (.ldc 225, 2) := by decide +kernel
theorem dX10_advise_17 : decode cX10_advise 17 = .ok (.invokespecial 95, 3) := by decide +kernel
theorem dX10_advise_20 : decode cX10_advise 20 = .ok (.athrow, 1) := by decide +kernel
theorem dX10_advise_21 : decode cX10_advise 21 = .ok (.iconst (-1), 1) := by decide +kernel
theorem dX10_advise_22 : decode cX10_advise 22 = .ok (.istore_n 2, 1) := by decide +kernel
theorem dX10_advise_23 : decode cX10_advise 23 = .ok (.aload_n 0, 1) := by decide +kernel
theorem dX10_advise_24 : decode cX10_advise 24 = .ok (.iload_n 1, 1) := by decide +kernel
theorem dX10_advise_25 : decode cX10_advise 25 = .ok (.iconst (-1), 1) := by decide +kernel
theorem dX10_advise_26 : decode cX10_advise 26 = .ok (.invokevirtual 243, 3) := by decide +kernel
theorem dX10_advise_29 : decode cX10_advise 29 = .ok (.istore_n 3, 1) := by decide +kernel
theorem dX10_advise_30 : decode cX10_advise 30 = .ok (.iconst 0, 1) := by decide +kernel
theorem dX10_advise_31 : decode cX10_advise 31 = .ok (.istore 4, 2) := by decide +kernel
theorem dX10_advise_33 : decode cX10_advise 33 = .ok (.iload 4, 2) := by decide +kernel
theorem dX10_advise_35 : decode cX10_advise 35 = .ok (.aload_n 0, 1) := by decide +kernel
theorem dX10_advise_36 : decode cX10_advise 36 = .ok (.getfield 10, 3) := by decide +kernel
theorem dX10_advise_39 : decode cX10_advise 39 = .ok (.getfield 246, 3) := by decide +kernel
theorem dX10_advise_42 : decode cX10_advise 42 = .ok (.if_icmp .ge 30, 3) := by decide +kernel
theorem dX10_advise_45 : decode cX10_advise 45 = .ok (.aload_n 0, 1) := by decide +kernel
theorem dX10_advise_46 : decode cX10_advise 46 = .ok (.iload_n 1, 1) := by decide +kernel
theorem dX10_advise_47 : decode cX10_advise 47 = .ok (.iload 4, 2) := by decide +kernel
theorem dX10_advise_49 : decode cX10_advise 49 = .ok (.invokevirtual 243, 3) := by decide +kernel
theorem dX10_advise_52 : decode cX10_advise 52 = .ok (.istore 5, 2) := by decide +kernel
theorem dX10_advise_54 : decode cX10_advise 54 = .ok (.iload 5, 2) := by decide +kernel
theorem dX10_advise_56 : decode cX10_advise 56 = .ok (.iload_n 3, 1) := by decide +kernel
theorem dX10_advise_57 : decode cX10_advise 57 = .ok (.if_icmp .ge 9, 3) := by decide +kernel
theorem dX10_advise_60 : decode cX10_advise 60 = .ok (.iload 5, 2) := by decide +kernel
theorem dX10_advise_62 : decode cX10_advise 62 = .ok (.istore_n 3, 1) := by decide +kernel
theorem dX10_advise_63 : decode cX10_advise 63 = .ok (.iload 4, 2) := by decide +kernel
theorem dX10_advise_65 : decode cX10_advise 65 = .ok (.istore_n 2, 1) := by decide +kernel
theorem dX10_advise_66 : decode cX10_advise 66 = .ok (.iinc 4 1, 3) := by decide +kernel
theorem dX10_advise_69 : decode cX10_advise 69 = .ok (.goto (-36), 3) := by decide +kernel
theorem dX10_advise_72 : decode cX10_advise 72 = .ok (.iload_n 2, 1) := by decide +kernel
theorem dX10_advise_73 : decode cX10_advise 73 = .ok (.ireturn, 1) := by decide +kernel
theorem dX10_mean_0 : decode cX10_mean 0 = .ok (.aload_n 0, 1) := by decide +kernel
theorem dX10_mean_1 : decode cX10_mean 1 = .ok (.getfield 58, 3) := by decide +kernel
theorem dX10_mean_4 : decode cX10_mean 4 = .ok (.iconst (-1), 1) := by decide +kernel
theorem dX10_mean_5 : decode cX10_mean 5 = .ok (.invokevirtual 249, 3) := by decide +kernel
theorem dX10_mean_8 : decode cX10_mean 8 = .ok (.istore_n 1, 1) := by decide +kernel
theorem dX10_mean_9 : decode cX10_mean 9 = .ok (.iload_n 1, 1) := by decide +kernel
theorem dX10_mean_10 : decode cX10_mean 10 = .ok (.ifCond .ne 7, 3) := by decide +kernel
theorem dX10_mean_13 : decode cX10_mean 13 = .ok (.dconst 0, 1) := by decide +kernel
theorem dX10_mean_14 : decode cX10_mean 14 = .ok (.goto 14, 3) := by decide +kernel
theorem dX10_mean_17 : decode cX10_mean 17 = .ok (.aload_n 0, 1) := by decide +kernel
theorem dX10_mean_18 : decode cX10_mean 18 = .ok (.getfield 58, 3) := by decide +kernel
theorem dX10_mean_21 : decode cX10_mean 21 = .ok (.invokevirtual 252, 3) := by decide +kernel
theorem dX10_mean_24 : decode cX10_mean 24 = .ok (.i2d, 1) := by decide +kernel
theorem dX10_mean_25 : decode cX10_mean 25 = .ok (.iload_n 1, 1) := by decide +kernel
theorem dX10_mean_26 : decode cX10_mean 26 = .ok (.i2d, 1) := by decide +kernel
theorem dX10_mean_27 : decode cX10_mean 27 = .ok (.ddiv, 1) := by decide +kernel
theorem dX10_mean_28 : decode cX10_mean 28 = .ok (.dreturn, 1) := by decide +kernel
theorem dX10_digest_0 : decode cX10_digest 0 = .ok (.ldc2_w 255, 3) := by decide +kernel
theorem dX10_digest_3 : decode cX10_digest 3 = .ok (.lstore_n 1, 1) := by decide +kernel
theorem dX10_digest_4 : decode cX10_digest 4 = .ok (.iconst 0, 1) := by decide +kernel
theorem dX10_digest_5 : decode cX10_digest 5 = .ok (.istore_n 3, 1) := by decide +kernel
theorem dX10_digest_6 : decode cX10_digest 6 = .ok (.iload_n 3, 1) := by decide +kernel
theorem dX10_digest_7 : decode cX10_digest 7 = .ok (.bipush 12, 2) := by decide +kernel
theorem dX10_digest_9 : decode cX10_digest 9 = .ok (.if_icmp .ge 25, 3) := by decide +kernel
theorem dX10_digest_12 : decode cX10_digest 12 = .ok (.lload_n 1, 1) := by decide +kernel
theorem dX10_digest_13 : decode cX10_digest 13 = .ok (.ldc2_w 257, 3) := by decide +kernel
theorem dX10_digest_16 : decode cX10_digest 16 = .ok (.lmul, 1) := by decide +kernel
theorem dX10_digest_17 : decode cX10_digest 17 = .ok (.aload_n 0, 1) := by decide +kernel
theorem dX10_digest_18 : decode cX10_digest 18 = .ok (.getfield 58, 3) := by decide +kernel
theorem dX10_digest_21 : decode cX10_digest 21 = .ok (.iload_n 3, 1) := by decide +kernel
theorem dX10_digest_22 : decode cX10_digest 22 = .ok (.invokevirtual 129, 3) := by decide +kernel
theorem dX10_digest_25 : decode cX10_digest 25 = .ok (.i2l, 1) := by decide +kernel
theorem dX10_digest_26 : decode cX10_digest 26 = .ok (.ladd, 1) := by decide +kernel
theorem dX10_digest_27 : decode cX10_digest 27 = .ok (.lstore_n 1, 1) := by decide +kernel
theorem dX10_digest_28 : decode cX10_digest 28 = .ok (.iinc 3 1, 3) := by decide +kernel
theorem dX10_digest_31 : decode cX10_digest 31 = .ok (.goto (-25), 3) := by decide +kernel
theorem dX10_digest_34 : decode cX10_digest 34 = .ok (.lload_n 1, 1) := by decide +kernel
theorem dX10_digest_35 : decode cX10_digest 35 = .ok (.ldc2_w 257, 3) := by decide +kernel
theorem dX10_digest_38 : decode cX10_digest 38 = .ok (.lmul, 1) := by decide +kernel
theorem dX10_digest_39 : decode cX10_digest 39 = .ok (.aload_n 0, 1) := by decide +kernel
theorem dX10_digest_40 : decode cX10_digest 40 = .ok (.getfield 22, 3) := by decide +kernel
theorem dX10_digest_43 : decode cX10_digest 43 = .ok (.invokevirtual 76, 3) := by decide +kernel
theorem dX10_digest_46 : decode cX10_digest 46 = .ok (.i2l, 1) := by decide +kernel
theorem dX10_digest_47 : decode cX10_digest 47 = .ok (.ladd, 1) := by decide +kernel
theorem dX10_digest_48 : decode cX10_digest 48 = .ok (.lstore_n 1, 1) := by decide +kernel
theorem dX10_digest_49 : decode cX10_digest 49 = .ok (.iconst 0, 1) := by decide +kernel
theorem dX10_digest_50 : decode cX10_digest 50 = .ok (.istore_n 3, 1) := by decide +kernel
theorem dX10_digest_51 : decode cX10_digest 51 = .ok (.iload_n 3, 1) := by decide +kernel
theorem dX10_digest_52 : decode cX10_digest 52 = .ok (.aload_n 0, 1) := by decide +kernel
theorem dX10_digest_53 : decode cX10_digest 53 = .ok (.getfield 10, 3) := by decide +kernel
theorem dX10_digest_56 : decode cX10_digest 56 = .ok (.getfield 259, 3) := by decide +kernel
theorem dX10_digest_59 : decode cX10_digest 59 = .ok (.iconst 3, 1) := by decide +kernel
theorem dX10_digest_60 : decode cX10_digest 60 = .ok (.imul, 1) := by decide +kernel
theorem dX10_digest_61 : decode cX10_digest 61 = .ok (.if_icmp .ge 30, 3) := by decide +kernel
theorem dX10_digest_64 : decode cX10_digest 64 = .ok (.lload_n 1, 1) := by decide +kernel
theorem dX10_digest_65 : decode cX10_digest 65 = .ok (.ldc2_w 257, 3) := by decide +kernel
theorem dX10_digest_68 : decode cX10_digest 68 = .ok (.lmul, 1) := by decide +kernel
theorem dX10_digest_69 : decode cX10_digest 69 = .ok (.aload_n 0, 1) := by decide +kernel
theorem dX10_digest_70 : decode cX10_digest 70 = .ok (.getfield 58, 3) := by decide +kernel
theorem dX10_digest_73 : decode cX10_digest 73 = .ok (.iload_n 3, 1) := by decide +kernel
theorem dX10_digest_74 : decode cX10_digest 74 = .ok (.iconst 3, 1) := by decide +kernel
theorem dX10_digest_75 : decode cX10_digest 75 = .ok (.idiv, 1) := by decide +kernel
theorem dX10_digest_76 : decode cX10_digest 76 = .ok (.iload_n 3, 1) := by decide +kernel
theorem dX10_digest_77 : decode cX10_digest 77 = .ok (.iconst 3, 1) := by decide +kernel
theorem dX10_digest_78 : decode cX10_digest 78 = .ok (.irem, 1) := by decide +kernel
theorem dX10_digest_79 : decode cX10_digest 79 = .ok (.invokevirtual 138, 3) := by decide +kernel
theorem dX10_digest_82 : decode cX10_digest 82 = .ok (.i2l, 1) := by decide +kernel
theorem dX10_digest_83 : decode cX10_digest 83 = .ok (.ladd, 1) := by decide +kernel
theorem dX10_digest_84 : decode cX10_digest 84 = .ok (.lstore_n 1, 1) := by decide +kernel
theorem dX10_digest_85 : decode cX10_digest 85 = .ok (.iinc 3 1, 3) := by decide +kernel
theorem dX10_digest_88 : decode cX10_digest 88 = .ok (.goto (-37), 3) := by decide +kernel
theorem dX10_digest_91 : decode cX10_digest 91 = .ok (.iconst 0, 1) := by decide +kernel
theorem dX10_digest_92 : decode cX10_digest 92 = .ok (.istore_n 3, 1) := by decide +kernel
theorem dX10_digest_93 : decode cX10_digest 93 = .ok (.iload_n 3, 1) := by decide +kernel
theorem dX10_digest_94 : decode cX10_digest 94 = .ok (.aload_n 0, 1) := by decide +kernel
theorem dX10_digest_95 : decode cX10_digest 95 = .ok (.getfield 10, 3) := by decide +kernel
theorem dX10_digest_98 : decode cX10_digest 98 = .ok (.getfield 262, 3) := by decide +kernel
theorem dX10_digest_101 : decode cX10_digest 101 = .ok (.bipush 9, 2) := by decide +kernel
theorem dX10_digest_103 : decode cX10_digest 103 = .ok (.imul, 1) := by decide +kernel
theorem dX10_digest_104 : decode cX10_digest 104 = .ok (.if_icmp .ge 32, 3) := by decide +kernel
theorem dX10_digest_107 : decode cX10_digest 107 = .ok (.lload_n 1, 1) := by decide +kernel
theorem dX10_digest_108 : decode cX10_digest 108 = .ok (.ldc2_w 257, 3) := by decide +kernel
theorem dX10_digest_111 : decode cX10_digest 111 = .ok (.lmul, 1) := by decide +kernel
theorem dX10_digest_112 : decode cX10_digest 112 = .ok (.aload_n 0, 1) := by decide +kernel
theorem dX10_digest_113 : decode cX10_digest 113 = .ok (.getfield 58, 3) := by decide +kernel
theorem dX10_digest_116 : decode cX10_digest 116 = .ok (.iload_n 3, 1) := by decide +kernel
theorem dX10_digest_117 : decode cX10_digest 117 = .ok (.bipush 9, 2) := by decide +kernel
theorem dX10_digest_119 : decode cX10_digest 119 = .ok (.idiv, 1) := by decide +kernel
theorem dX10_digest_120 : decode cX10_digest 120 = .ok (.iload_n 3, 1) := by decide +kernel
theorem dX10_digest_121 : decode cX10_digest 121 = .ok (.bipush 9, 2) := by decide +kernel
theorem dX10_digest_123 : decode cX10_digest 123 = .ok (.irem, 1) := by decide +kernel
theorem dX10_digest_124 : decode cX10_digest 124 = .ok (.invokevirtual 147, 3) := by decide +kernel
theorem dX10_digest_127 : decode cX10_digest 127 = .ok (.i2l, 1) := by decide +kernel
theorem dX10_digest_128 : decode cX10_digest 128 = .ok (.ladd, 1) := by decide +kernel
theorem dX10_digest_129 : decode cX10_digest 129 = .ok (.lstore_n 1, 1) := by decide +kernel
theorem dX10_digest_130 : decode cX10_digest 130 = .ok (.iinc 3 1, 3) := by decide +kernel
theorem dX10_digest_133 : decode cX10_digest 133 = .ok (.goto (-40), 3) := by decide +kernel
theorem dX10_digest_136 : decode cX10_digest 136 = .ok (.iconst 0, 1) := by decide +kernel
theorem dX10_digest_137 : decode cX10_digest 137 = .ok (.istore_n 3, 1) := by decide +kernel
theorem dX10_digest_138 : decode cX10_digest 138 = .ok (.iload_n 3, 1) := by decide +kernel
theorem dX10_digest_139 : decode cX10_digest 139 = .ok (.aload_n 0, 1) := by decide +kernel
theorem dX10_digest_140 : decode cX10_digest 140 = .ok (.getfield 10, 3) := by decide +kernel
theorem dX10_digest_143 : decode cX10_digest 143 = .ok (.getfield 265, 3) := by decide +kernel
theorem dX10_digest_146 : decode cX10_digest 146 = .ok (.iconst 4, 1) := by decide +kernel
theorem dX10_digest_147 : decode cX10_digest 147 = .ok (.imul, 1) := by decide +kernel
theorem dX10_digest_148 : decode cX10_digest 148 = .ok (.if_icmp .ge 30, 3) := by decide +kernel
theorem dX10_digest_151 : decode cX10_digest 151 = .ok (.lload_n 1, 1) := by decide +kernel
theorem dX10_digest_152 : decode cX10_digest 152 = .ok (.ldc2_w 257, 3) := by decide +kernel
theorem dX10_digest_155 : decode cX10_digest 155 = .ok (.lmul, 1) := by decide +kernel
theorem dX10_digest_156 : decode cX10_digest 156 = .ok (.aload_n 0, 1) := by decide +kernel
theorem dX10_digest_157 : decode cX10_digest 157 = .ok (.getfield 58, 3) := by decide +kernel
theorem dX10_digest_160 : decode cX10_digest 160 = .ok (.iload_n 3, 1) := by decide +kernel
theorem dX10_digest_161 : decode cX10_digest 161 = .ok (.iconst 4, 1) := by decide +kernel
theorem dX10_digest_162 : decode cX10_digest 162 = .ok (.idiv, 1) := by decide +kernel
theorem dX10_digest_163 : decode cX10_digest 163 = .ok (.iload_n 3, 1) := by decide +kernel
theorem dX10_digest_164 : decode cX10_digest 164 = .ok (.iconst 4, 1) := by decide +kernel
theorem dX10_digest_165 : decode cX10_digest 165 = .ok (.irem, 1) := by decide +kernel
theorem dX10_digest_166 : decode cX10_digest 166 = .ok (.invokevirtual 165, 3) := by decide +kernel
theorem dX10_digest_169 : decode cX10_digest 169 = .ok (.i2l, 1) := by decide +kernel
theorem dX10_digest_170 : decode cX10_digest 170 = .ok (.ladd, 1) := by decide +kernel
theorem dX10_digest_171 : decode cX10_digest 171 = .ok (.lstore_n 1, 1) := by decide +kernel
theorem dX10_digest_172 : decode cX10_digest 172 = .ok (.iinc 3 1, 3) := by decide +kernel
theorem dX10_digest_175 : decode cX10_digest 175 = .ok (.goto (-37), 3) := by decide +kernel
theorem dX10_digest_178 : decode cX10_digest 178 = .ok (.iconst 0, 1) := by decide +kernel
theorem dX10_digest_179 : decode cX10_digest 179 = .ok (.istore_n 3, 1) := by decide +kernel
theorem dX10_digest_180 : decode cX10_digest 180 = .ok (.iload_n 3, 1) := by decide +kernel
theorem dX10_digest_181 : decode cX10_digest 181 = .ok (.aload_n 0, 1) := by decide +kernel
theorem dX10_digest_182 : decode cX10_digest 182 = .ok (.getfield 10, 3) := by decide +kernel
theorem dX10_digest_185 : decode cX10_digest 185 = .ok (.getfield 246, 3) := by decide +kernel
theorem dX10_digest_188 : decode cX10_digest 188 = .ok (.iconst 4, 1) := by decide +kernel
theorem dX10_digest_189 : decode cX10_digest 189 = .ok (.imul, 1) := by decide +kernel
theorem dX10_digest_190 : decode cX10_digest 190 = .ok (.if_icmp .ge 30, 3) := by decide +kernel
theorem dX10_digest_193 : decode cX10_digest 193 = .ok (.lload_n 1, 1) := by decide +kernel
theorem dX10_digest_194 : decode cX10_digest 194 = .ok (.ldc2_w 257, 3) := by decide +kernel
theorem dX10_digest_197 : decode cX10_digest 197 = .ok (.lmul, 1) := by decide +kernel
theorem dX10_digest_198 : decode cX10_digest 198 = .ok (.aload_n 0, 1) := by decide +kernel
theorem dX10_digest_199 : decode cX10_digest 199 = .ok (.getfield 58, 3) := by decide +kernel
theorem dX10_digest_202 : decode cX10_digest 202 = .ok (.iload_n 3, 1) := by decide +kernel
theorem dX10_digest_203 : decode cX10_digest 203 = .ok (.iconst 4, 1) := by decide +kernel
theorem dX10_digest_204 : decode cX10_digest 204 = .ok (.idiv, 1) := by decide +kernel
theorem dX10_digest_205 : decode cX10_digest 205 = .ok (.iload_n 3, 1) := by decide +kernel
theorem dX10_digest_206 : decode cX10_digest 206 = .ok (.iconst 4, 1) := by decide +kernel
theorem dX10_digest_207 : decode cX10_digest 207 = .ok (.irem, 1) := by decide +kernel
theorem dX10_digest_208 : decode cX10_digest 208 = .ok (.invokevirtual 173, 3) := by decide +kernel
theorem dX10_digest_211 : decode cX10_digest 211 = .ok (.i2l, 1) := by decide +kernel
theorem dX10_digest_212 : decode cX10_digest 212 = .ok (.ladd, 1) := by decide +kernel
theorem dX10_digest_213 : decode cX10_digest 213 = .ok (.lstore_n 1, 1) := by decide +kernel
theorem dX10_digest_214 : decode cX10_digest 214 = .ok (.iinc 3 1, 3) := by decide +kernel
theorem dX10_digest_217 : decode cX10_digest 217 = .ok (.goto (-37), 3) := by decide +kernel
theorem dX10_digest_220 : decode cX10_digest 220 = .ok (.lload_n 1, 1) := by decide +kernel
theorem dX10_digest_221 : decode cX10_digest 221 = .ok (.ldc2_w 257, 3) := by decide +kernel
theorem dX10_digest_224 : decode cX10_digest 224 = .ok (.lmul, 1) := by decide +kernel
theorem dX10_digest_225 : decode cX10_digest 225 = .ok (.aload_n 0, 1) := by decide +kernel
theorem dX10_digest_226 : decode cX10_digest 226 = .ok (.getfield 58, 3) := by decide +kernel
theorem dX10_digest_229 : decode cX10_digest 229 = .ok (.invokevirtual 189, 3) := by decide +kernel
theorem dX10_digest_232 : decode cX10_digest 232 = .ok (.i2l, 1) := by decide +kernel
theorem dX10_digest_233 : decode cX10_digest 233 = .ok (.ladd, 1) := by decide +kernel
theorem dX10_digest_234 : decode cX10_digest 234 = .ok (.lreturn, 1) := by decide +kernel
theorem dX10_wrongBehind_0 : decode cX10_wrongBehind 0 = .ok (.aload_n 0, 1) := by decide +kernel
theorem dX10_wrongBehind_1 : decode cX10_wrongBehind 1 = .ok (.getfield 62, 3) := by decide +kernel
theorem dX10_wrongBehind_4 : decode cX10_wrongBehind 4 = .ok (.aload_n 0, 1) := by decide +kernel
theorem dX10_wrongBehind_5 : decode cX10_wrongBehind 5 = .ok (.getfield 58, 3) := by decide +kernel
theorem dX10_wrongBehind_8 : decode cX10_wrongBehind 8 = .ok (.invokevirtual 236, 3) := by decide +kernel
theorem dX10_wrongBehind_11 : decode cX10_wrongBehind 11 = .ok (.aload_n 0, 1) := by decide +kernel
theorem dX10_wrongBehind_12 : decode cX10_wrongBehind 12 = .ok (.getfield 10, 3) := by decide +kernel
theorem dX10_wrongBehind_15 : decode cX10_wrongBehind 15 = .ok (.iload_n 2, 1) := by decide +kernel
theorem dX10_wrongBehind_16 : decode cX10_wrongBehind 16 = .ok (.invokevirtual 168, 3) := by decide +kernel
theorem dX10_wrongBehind_19 : decode cX10_wrongBehind 19 = .ok (.ifCond .eq 13, 3) := by decide +kernel
theorem dX10_wrongBehind_22 : decode cX10_wrongBehind 22 = .ok (.aload_n 0, 1) := by decide +kernel
theorem dX10_wrongBehind_23 : decode cX10_wrongBehind 23 = .ok (.getfield 62, 3) := by decide +kernel
theorem dX10_wrongBehind_26 : decode cX10_wrongBehind 26 = .ok (.getfield 200, 3) := by decide +kernel
theorem dX10_wrongBehind_29 : decode cX10_wrongBehind 29 = .ok (.iload_n 2, 1) := by decide +kernel
theorem dX10_wrongBehind_30 : decode cX10_wrongBehind 30 = .ok (.iconst 0, 1) := by decide +kernel
theorem dX10_wrongBehind_31 : decode cX10_wrongBehind 31 = .ok (.iastore, 1) := by decide +kernel
theorem dX10_wrongBehind_32 : decode cX10_wrongBehind 32 = .ok (.aload_n 0, 1) := by decide +kernel
theorem dX10_wrongBehind_33 : decode cX10_wrongBehind 33 = .ok (.getfield 68, 3) := by decide +kernel
theorem dX10_wrongBehind_36 : decode cX10_wrongBehind 36 = .ok (.aload_n 0, 1) := by decide +kernel
theorem dX10_wrongBehind_37 : decode cX10_wrongBehind 37 = .ok (.getfield 62, 3) := by decide +kernel
theorem dX10_wrongBehind_40 : decode cX10_wrongBehind 40 = .ok (.iload_n 1, 1) := by decide +kernel
theorem dX10_wrongBehind_41 : decode cX10_wrongBehind 41 = .ok (.invokevirtual 230, 3) := by decide +kernel
theorem dX10_wrongBehind_44 : decode cX10_wrongBehind 44 = .ok (.aload_n 0, 1) := by decide +kernel
theorem dX10_wrongBehind_45 : decode cX10_wrongBehind 45 = .ok (.getfield 62, 3) := by decide +kernel
theorem dX10_wrongBehind_48 : decode cX10_wrongBehind 48 = .ok (.invokevirtual 268, 3) := by decide +kernel
theorem dX10_wrongBehind_51 : decode cX10_wrongBehind 51 = .ok (.ireturn, 1) := by decide +kernel
theorem dX11_init_0 : decode cX11_init 0 = .ok (.aload_n 0, 1) := by decide +kernel
theorem dX11_init_1 : decode cX11_init 1 = .ok (.invokespecial 3, 3) := by decide +kernel
theorem dX11_init_4 : decode cX11_init 4 = .ok (.aload_n 0, 1) := by decide +kernel
theorem dX11_init_5 : decode cX11_init 5 = .ok (.bipush 6, 2) := by decide +kernel
theorem dX11_init_7 : decode cX11_init 7 = .ok (.newarray .int, 2) := by decide +kernel
theorem dX11_init_9 : decode cX11_init 9 = .ok (.putfield 9, 3) := by decide +kernel
theorem dX11_init_12 : decode cX11_init 12 = .ok (.aload_n 0, 1) := by decide +kernel
theorem dX11_init_13 : decode cX11_init 13 = .ok (.bipush 16, 2) := by decide +kernel
theorem dX11_init_15 : decode cX11_init 15 = .ok (.newarray .int, 2) := by decide +kernel
theorem dX11_init_17 : decode cX11_init 17 = .ok (.putfield 15, 3) := by decide +kernel
theorem dX11_init_20 : decode cX11_init 20 = .ok (.aload_n 0, 1) := by decide +kernel
theorem dX11_init_21 : decode cX11_init 21 = .ok (.bipush 16, 2) := by decide +kernel
theorem dX11_init_23 : decode cX11_init 23 = .ok (.newarray .int, 2) := by decide +kernel
theorem dX11_init_25 : decode cX11_init 25 = .ok (.putfield 18, 3) := by decide +kernel
theorem dX11_init_28 : decode cX11_init 28 = .ok (.aload_n 0, 1) := by decide +kernel
theorem dX11_init_29 : decode cX11_init 29 = .ok (.bipush 16, 2) := by decide +kernel
theorem dX11_init_31 : decode cX11_init 31 = .ok (.newarray .int, 2) := by decide +kernel
theorem dX11_init_33 : decode cX11_init 33 = .ok (.putfield 21, 3) := by decide +kernel
theorem dX11_init_36 : decode cX11_init 36 = .ok (.aload_n 0, 1) := by decide +kernel
theorem dX11_init_37 : decode cX11_init 37 = .ok (.bipush 54, 2) := by decide +kernel
theorem dX11_init_39 : decode cX11_init 39 = .ok (.newarray .int, 2) := by decide +kernel
theorem dX11_init_41 : decode cX11_init 41 = .ok (.putfield 24, 3) := by decide +kernel
theorem dX11_init_44 : decode cX11_init 44 = .ok (.aload_n 0, 1) := by decide +kernel
theorem dX11_init_45 : decode cX11_init 45 = .ok (.iconst 5, 1) := by decide +kernel
theorem dX11_init_46 : decode cX11_init 46 = .ok (.newarray .int, 2) := by decide +kernel
theorem dX11_init_48 : decode cX11_init 48 = .ok (.putfield 27, 3) := by decide +kernel
theorem dX11_init_51 : decode cX11_init 51 = .ok (.aload_n 0, 1) := by decide +kernel
theorem dX11_init_52 : decode cX11_init 52 = .ok (.bipush 100, 2) := by decide +kernel
theorem dX11_init_54 : decode cX11_init 54 = .ok (.newarray .int, 2) := by decide +kernel
theorem dX11_init_56 : decode cX11_init 56 = .ok (.putfield 30, 3) := by decide +kernel
theorem dX11_init_59 : decode cX11_init 59 = .ok (.aload_n 0, 1) := by decide +kernel
theorem dX11_init_60 : decode cX11_init 60 = .ok (.sipush 401, 3) := by decide +kernel
theorem dX11_init_63 : decode cX11_init 63 = .ok (.newarray .int, 2) := by decide +kernel
theorem dX11_init_65 : decode cX11_init 65 = .ok (.putfield 33, 3) := by decide +kernel
theorem dX11_init_68 : decode cX11_init 68 = .ok (.aload_n 0, 1) := by decide +kernel
theorem dX11_init_69 : decode cX11_init 69 = .ok (.sipush 401, 3) := by decide +kernel
theorem dX11_init_72 : decode cX11_init 72 = .ok (.newarray .int, 2) := by decide +kernel
theorem dX11_init_74 : decode cX11_init 74 = .ok (.putfield 36, 3) := by decide +kernel
theorem dX11_init_77 : decode cX11_init 77 = .ok (.aload_n 0, 1) := by decide +kernel
theorem dX11_init_78 : decode cX11_init 78 = .ok (.sipush 401, 3) := by decide +kernel
theorem dX11_init_81 : decode cX11_init 81 = .ok (.newarray .int, 2) := by decide +kernel
theorem dX11_init_83 : decode cX11_init 83 = .ok (.putfield 39, 3) := by decide +kernel
theorem dX11_init_86 : decode cX11_init 86 = .ok (.return_, 1) := by decide +kernel
theorem dX11_empty_0 : decode cX11_empty 0 = .ok (.aload_n 0, 1) := by decide +kernel
theorem dX11_empty_1 : decode cX11_empty 1 = .ok (.iconst 0, 1) := by decide +kernel
theorem dX11_empty_2 : decode cX11_empty 2 = .ok (.putfield 42, 3) := by decide +kernel
theorem dX11_empty_5 : decode cX11_empty 5 = .ok (.aload_n 0, 1) := by decide +kernel
theorem dX11_empty_6 : decode cX11_empty 6 = .ok (.iconst 0, 1) := by decide +kernel
theorem dX11_empty_7 : decode cX11_empty 7 = .ok (.putfield 46, 3) := by decide +kernel
theorem dX11_empty_10 : decode cX11_empty 10 = .ok (.aload_n 0, 1) := by decide +kernel
theorem dX11_empty_11 : decode cX11_empty 11 = .ok (.iconst 0, 1) := by decide +kernel
theorem dX11_empty_12 : decode cX11_empty 12 = .ok (.putfield 49, 3) := by decide +kernel
theorem dX11_empty_15 : decode cX11_empty 15 = .ok (.aload_n 0, 1) := by decide +kernel
theorem dX11_empty_16 : decode cX11_empty 16 = .ok (.iconst 0, 1) := by decide +kernel
theorem dX11_empty_17 : decode cX11_empty 17 = .ok (.putfield 52, 3) := by decide +kernel
theorem dX11_empty_20 : decode cX11_empty 20 = .ok (.aload_n 0, 1) := by decide +kernel
theorem dX11_empty_21 : decode cX11_empty 21 = .ok (.iconst 0, 1) := by decide +kernel
theorem dX11_empty_22 : decode cX11_empty 22 = .ok (.putfield 55, 3) := by decide +kernel
theorem dX11_empty_25 : decode cX11_empty 25 = .ok (.aload_n 0, 1) := by decide +kernel
theorem dX11_empty_26 : decode cX11_empty 26 = .ok (.iconst 0, 1) := by decide +kernel
theorem dX11_empty_27 : decode cX11_empty 27 = .ok (.putfield 58, 3) := by decide +kernel
theorem dX11_empty_30 : decode cX11_empty 30 = .ok (.return_, 1) := by decide +kernel
theorem dX11_node_0 : decode cX11_node 0 = .ok (.aload_n 0, 1) := by decide +kernel
theorem dX11_node_1 : decode cX11_node 1 = .ok (.getfield 33, 3) := by decide +kernel
theorem dX11_node_4 : decode cX11_node 4 = .ok (.aload_n 0, 1) := by decide +kernel
theorem dX11_node_5 : decode cX11_node 5 = .ok (.getfield 58, 3) := by decide +kernel
theorem dX11_node_8 : decode cX11_node 8 = .ok (.iload_n 1, 1) := by decide +kernel
theorem dX11_node_9 : decode cX11_node 9 = .ok (.iastore, 1) := by decide +kernel
theorem dX11_node_10 : decode cX11_node 10 = .ok (.aload_n 0, 1) := by decide +kernel
theorem dX11_node_11 : decode cX11_node 11 = .ok (.getfield 36, 3) := by decide +kernel
theorem dX11_node_14 : decode cX11_node 14 = .ok (.aload_n 0, 1) := by decide +kernel
theorem dX11_node_15 : decode cX11_node 15 = .ok (.getfield 58, 3) := by decide +kernel
theorem dX11_node_18 : decode cX11_node 18 = .ok (.iload_n 2, 1) := by decide +kernel
theorem dX11_node_19 : decode cX11_node 19 = .ok (.iastore, 1) := by decide +kernel
theorem dX11_node_20 : decode cX11_node 20 = .ok (.aload_n 0, 1) := by decide +kernel
theorem dX11_node_21 : decode cX11_node 21 = .ok (.getfield 39, 3) := by decide +kernel
theorem dX11_node_24 : decode cX11_node 24 = .ok (.aload_n 0, 1) := by decide +kernel
theorem dX11_node_25 : decode cX11_node 25 = .ok (.getfield 58, 3) := by decide +kernel
theorem dX11_node_28 : decode cX11_node 28 = .ok (.iload_n 3, 1) := by decide +kernel
theorem dX11_node_29 : decode cX11_node 29 = .ok (.iastore, 1) := by decide +kernel
theorem dX11_node_30 : decode cX11_node 30 = .ok (.aload_n 0, 1) := by decide +kernel
theorem dX11_node_31 : decode cX11_node 31 = .ok (.dup, 1) := by decide +kernel
theorem dX11_node_32 : decode cX11_node 32 = .ok (.getfield 58, 3) := by decide +kernel
theorem dX11_node_35 : decode cX11_node 35 = .ok (.iconst 1, 1) := by decide +kernel
theorem dX11_node_36 : decode cX11_node 36 = .ok (.iadd, 1) := by decide +kernel
theorem dX11_node_37 : decode cX11_node 37 = .ok (.putfield 58, 3) := by decide +kernel
theorem dX11_node_40 : decode cX11_node 40 = .ok (.aload_n 0, 1) := by decide +kernel
theorem dX11_node_41 : decode cX11_node 41 = .ok (.getfield 58, 3) := by decide +kernel
theorem dX11_node_44 : decode cX11_node 44 = .ok (.iconst 1, 1) := by decide +kernel
theorem dX11_node_45 : decode cX11_node 45 = .ok (.isub, 1) := by decide +kernel
theorem dX11_node_46 : decode cX11_node 46 = .ok (.ireturn, 1) := by decide +kernel
theorem dX11_deep_0 : decode cX11_deep 0 = .ok (.iconst 0, 1) := by decide +kernel
theorem dX11_deep_1 : decode cX11_deep 1 = .ok (.istore_n 2, 1) := by decide +kernel
theorem dX11_deep_2 : decode cX11_deep 2 = .ok (.iload_n 1, 1) := by decide +kernel
theorem dX11_deep_3 : decode cX11_deep 3 = .ok (.istore_n 3, 1) := by decide +kernel
theorem dX11_deep_4 : decode cX11_deep 4 = .ok (.iload_n 3, 1) := by decide +kernel
theorem dX11_deep_5 : decode cX11_deep 5 = .ok (.iconst (-1), 1) := by decide +kernel
theorem dX11_deep_6 : decode cX11_deep 6 = .ok (.if_icmp .eq 16, 3) := by decide +kernel
theorem dX11_deep_9 : decode cX11_deep 9 = .ok (.iinc 2 1, 3) := by decide +kernel
theorem dX11_deep_12 : decode cX11_deep 12 = .ok (.aload_n 0, 1) := by decide +kernel
theorem dX11_deep_13 : decode cX11_deep 13 = .ok (.getfield 18, 3) := by decide +kernel
theorem dX11_deep_16 : decode cX11_deep 16 = .ok (.iload_n 3, 1) := by decide +kernel
theorem dX11_deep_17 : decode cX11_deep 17 = .ok (.iaload, 1) := by decide +kernel
theorem dX11_deep_18 : decode cX11_deep 18 = .ok (.istore_n 3, 1) := by decide +kernel
theorem dX11_deep_19 : decode cX11_deep 19 = .ok (.goto (-15), 3) := by decide +kernel
theorem dX11_deep_22 : decode cX11_deep 22 = .ok (.iload_n 2, 1) := by decide +kernel
theorem dX11_deep_23 : decode cX11_deep 23 = .ok (.ireturn, 1) := by decide +kernel
theorem dJ11_isValidCodePoint_9a6ad_0 : decode cJ11_isValidCodePoint_9a6ad 0 = .ok (.iload_n 0, 1) := by decide +kernel
theorem dJ11_isValidCodePoint_9a6ad_1 : decode cJ11_isValidCodePoint_9a6ad 1 = .ok (.bipush 16, 2) := by decide +kernel
theorem dJ11_isValidCodePoint_9a6ad_3 : decode cJ11_isValidCodePoint_9a6ad 3 = .ok (.iushr, 1) := by decide +kernel
theorem dJ11_isValidCodePoint_9a6ad_4 : decode cJ11_isValidCodePoint_9a6ad 4 = .ok (.istore_n 1, 1) := by decide +kernel
theorem dJ11_isValidCodePoint_9a6ad_5 : decode cJ11_isValidCodePoint_9a6ad 5 = .ok (.iload_n 1, 1) := by decide +kernel
theorem dJ11_isValidCodePoint_9a6ad_6 : decode cJ11_isValidCodePoint_9a6ad 6 = .ok (.bipush 17, 2) := by decide +kernel
theorem dJ11_isValidCodePoint_9a6ad_8 : decode cJ11_isValidCodePoint_9a6ad 8 = .ok (.if_icmp .ge 7, 3) := by decide +kernel
theorem dJ11_isValidCodePoint_9a6ad_11 : decode cJ11_isValidCodePoint_9a6ad 11 = .ok (.iconst 1, 1) := by decide +kernel
theorem dJ11_isValidCodePoint_9a6ad_12 : decode cJ11_isValidCodePoint_9a6ad 12 = .ok (.goto 4, 3) := by decide +kernel
theorem dJ11_isValidCodePoint_9a6ad_15 : decode cJ11_isValidCodePoint_9a6ad 15 = .ok (.iconst 0, 1) := by decide +kernel
theorem dJ11_isValidCodePoint_9a6ad_16 : decode cJ11_isValidCodePoint_9a6ad 16 = .ok (.ireturn, 1) := by decide +kernel
theorem dJ11_highSurrogate_5068e_0 : decode cJ11_highSurrogate_5068e 0 = .ok (.iload_n 0, 1) := by decide +kernel
theorem dJ11_highSurrogate_5068e_1 : decode cJ11_highSurrogate_5068e 1 = .ok (.bipush 10, 2) := by decide +kernel
theorem dJ11_highSurrogate_5068e_3 : decode cJ11_highSurrogate_5068e 3 = .ok (.iushr, 1) := by decide +kernel
theorem dJ11_highSurrogate_5068e_4 : decode cJ11_highSurrogate_5068e 4 = .ok (.ldc 110, 2) := by decide +kernel
theorem dJ11_highSurrogate_5068e_6 : decode cJ11_highSurrogate_5068e 6 = .ok (.iadd, 1) := by decide +kernel
theorem dJ11_highSurrogate_5068e_7 : decode cJ11_highSurrogate_5068e 7 = .ok (.i2c, 1) := by decide +kernel
theorem dJ11_highSurrogate_5068e_8 : decode cJ11_highSurrogate_5068e 8 = .ok (.ireturn, 1) := by decide +kernel
theorem dJ11_lowSurrogate_5068e_0 : decode cJ11_lowSurrogate_5068e 0 = .ok (.iload_n 0, 1) := by decide +kernel
theorem dJ11_lowSurrogate_5068e_1 : decode cJ11_lowSurrogate_5068e 1 = .ok (.sipush 1023, 3) := by decide +kernel
theorem dJ11_lowSurrogate_5068e_4 : decode cJ11_lowSurrogate_5068e 4 = .ok (.iand, 1) := by decide +kernel
theorem dJ11_lowSurrogate_5068e_5 : decode cJ11_lowSurrogate_5068e 5 = .ok (.ldc 76, 2) := by decide +kernel
theorem dJ11_lowSurrogate_5068e_7 : decode cJ11_lowSurrogate_5068e 7 = .ok (.iadd, 1) := by decide +kernel
theorem dJ11_lowSurrogate_5068e_8 : decode cJ11_lowSurrogate_5068e 8 = .ok (.i2c, 1) := by decide +kernel
theorem dJ11_lowSurrogate_5068e_9 : decode cJ11_lowSurrogate_5068e 9 = .ok (.ireturn, 1) := by decide +kernel
theorem dJ9_max_7cf53_0 : decode cJ9_max_7cf53 0 = .ok (.iload_n 0, 1) := by decide +kernel
theorem dJ9_max_7cf53_1 : decode cJ9_max_7cf53 1 = .ok (.iload_n 1, 1) := by decide +kernel
theorem dJ9_max_7cf53_2 : decode cJ9_max_7cf53 2 = .ok (.if_icmp .lt 7, 3) := by decide +kernel
theorem dJ9_max_7cf53_5 : decode cJ9_max_7cf53 5 = .ok (.iload_n 0, 1) := by decide +kernel
theorem dJ9_max_7cf53_6 : decode cJ9_max_7cf53 6 = .ok (.goto 4, 3) := by decide +kernel
theorem dJ9_max_7cf53_9 : decode cJ9_max_7cf53 9 = .ok (.iload_n 1, 1) := by decide +kernel
theorem dJ9_max_7cf53_10 : decode cJ9_max_7cf53 10 = .ok (.ireturn, 1) := by decide +kernel
theorem dJ9_min_7cf53_0 : decode cJ9_min_7cf53 0 = .ok (.iload_n 0, 1) := by decide +kernel
theorem dJ9_min_7cf53_1 : decode cJ9_min_7cf53 1 = .ok (.iload_n 1, 1) := by decide +kernel
theorem dJ9_min_7cf53_2 : decode cJ9_min_7cf53 2 = .ok (.if_icmp .gt 7, 3) := by decide +kernel
theorem dJ9_min_7cf53_5 : decode cJ9_min_7cf53 5 = .ok (.iload_n 0, 1) := by decide +kernel
theorem dJ9_min_7cf53_6 : decode cJ9_min_7cf53 6 = .ok (.goto 4, 3) := by decide +kernel
theorem dJ9_min_7cf53_9 : decode cJ9_min_7cf53 9 = .ok (.iload_n 1, 1) := by decide +kernel
theorem dJ9_min_7cf53_10 : decode cJ9_min_7cf53 10 = .ok (.ireturn, 1) := by decide +kernel
theorem dJ0_length_8abf5_0 : decode cJ0_length_8abf5 0 = .ok (.aload_n 0, 1) := by decide +kernel
theorem dJ0_length_8abf5_1 : decode cJ0_length_8abf5 1 = .ok (.getfield 9, 3) := by decide +kernel
theorem dJ0_length_8abf5_4 : decode cJ0_length_8abf5 4 = .ok (.arraylength, 1) := by decide +kernel
theorem dJ0_length_8abf5_5 : decode cJ0_length_8abf5 5 = .ok (.aload_n 0, 1) := by decide +kernel
theorem dJ0_length_8abf5_6 : decode cJ0_length_8abf5 6 = .ok (.invokevirtual 335, 3) := by decide +kernel
theorem dJ0_length_8abf5_9 : decode cJ0_length_8abf5 9 = .ok (.ishr, 1) := by decide +kernel
theorem dJ0_length_8abf5_10 : decode cJ0_length_8abf5 10 = .ok (.ireturn, 1) := by decide +kernel
theorem dJ0_charAt_5068e_0 : decode cJ0_charAt_5068e 0 = .ok (.aload_n 0, 1) := by decide +kernel
theorem dJ0_charAt_5068e_1 : decode cJ0_charAt_5068e 1 = .ok (.invokevirtual 492, 3) := by decide +kernel
theorem dJ0_charAt_5068e_4 : decode cJ0_charAt_5068e 4 = .ok (.ifCond .eq 12, 3) := by decide +kernel
theorem dJ0_charAt_5068e_7 : decode cJ0_charAt_5068e 7 = .ok (.aload_n 0, 1) := by decide +kernel
theorem dJ0_charAt_5068e_8 : decode cJ0_charAt_5068e 8 = .ok (.getfield 9, 3) := by decide +kernel
theorem dJ0_charAt_5068e_11 : decode cJ0_charAt_5068e 11 = .ok (.iload_n 1, 1) := by decide +kernel
theorem dJ0_charAt_5068e_12 : decode cJ0_charAt_5068e 12 = .ok (.invokestatic 495, 3) := by decide +kernel
theorem dJ0_charAt_5068e_15 : decode cJ0_charAt_5068e 15 = .ok (.ireturn, 1) := by decide +kernel
theorem dJ0_charAt_5068e_16 : decode cJ0_charAt_5068e 16 = .ok (.aload_n 0, 1) := by decide +kernel
theorem dJ0_charAt_5068e_17 : decode cJ0_charAt_5068e 17 = .ok (.getfield 9, 3) := by decide +kernel
theorem dJ0_charAt_5068e_20 : decode cJ0_charAt_5068e 20 = .ok (.iload_n 1, 1) := by decide +kernel
theorem dJ0_charAt_5068e_21 : decode cJ0_charAt_5068e 21 = .ok (.invokestatic 498, 3) := by decide +kernel
theorem dJ0_charAt_5068e_24 : decode cJ0_charAt_5068e 24 = .ok (.ireturn, 1) := by decide +kernel
theorem dJ0_indexOf_0f7a4_0 : decode cJ0_indexOf_0f7a4 0 = .ok (.aload_n 0, 1) := by decide +kernel
theorem dJ0_indexOf_0f7a4_1 : decode cJ0_indexOf_0f7a4 1 = .ok (.iload_n 1, 1) := by decide +kernel
theorem dJ0_indexOf_0f7a4_2 : decode cJ0_indexOf_0f7a4 2 = .ok (.iconst 0, 1) := by decide +kernel
theorem dJ0_indexOf_0f7a4_3 : decode cJ0_indexOf_0f7a4 3 = .ok (.invokevirtual 633, 3) := by decide +kernel
theorem dJ0_indexOf_0f7a4_6 : decode cJ0_indexOf_0f7a4 6 = .ok (.ireturn, 1) := by decide +kernel
theorem dJ0_indexOf_7cf53_0 : decode cJ0_indexOf_7cf53 0 = .ok (.aload_n 0, 1) := by decide +kernel
theorem dJ0_indexOf_7cf53_1 : decode cJ0_indexOf_7cf53 1 = .ok (.invokevirtual 492, 3) := by decide +kernel
theorem dJ0_indexOf_7cf53_4 : decode cJ0_indexOf_7cf53 4 = .ok (.ifCond .eq 19, 3) := by decide +kernel
theorem dJ0_indexOf_7cf53_7 : decode cJ0_indexOf_7cf53 7 = .ok (.aload_n 0, 1) := by decide +kernel
theorem dJ0_indexOf_7cf53_8 : decode cJ0_indexOf_7cf53 8 = .ok (.getfield 9, 3) := by decide +kernel
theorem dJ0_indexOf_7cf53_11 : decode cJ0_indexOf_7cf53 11 = .ok (.iload_n 1, 1) := by decide +kernel
theorem dJ0_indexOf_7cf53_12 : decode cJ0_indexOf_7cf53 12 = .ok (.iload_n 2, 1) := by decide +kernel
theorem dJ0_indexOf_7cf53_13 : decode cJ0_indexOf_7cf53 13 = .ok (.aload_n 0, 1) := by decide +kernel
theorem dJ0_indexOf_7cf53_14 : decode cJ0_indexOf_7cf53 14 = .ok (.invokevirtual 505, 3) := by decide +kernel
theorem dJ0_indexOf_7cf53_17 : decode cJ0_indexOf_7cf53 17 = .ok (.invokestatic 637, 3) := by decide +kernel
theorem dJ0_indexOf_7cf53_20 : decode cJ0_indexOf_7cf53 20 = .ok (.goto 16, 3) := by decide +kernel
theorem dJ0_indexOf_7cf53_23 : decode cJ0_indexOf_7cf53 23 = .ok (.aload_n 0, 1) := by decide +kernel
theorem dJ0_indexOf_7cf53_24 : decode cJ0_indexOf_7cf53 24 = .ok (.getfield 9, 3) := by decide +kernel
theorem dJ0_indexOf_7cf53_27 : decode cJ0_indexOf_7cf53 27 = .ok (.iload_n 1, 1) := by decide +kernel
theorem dJ0_indexOf_7cf53_28 : decode cJ0_indexOf_7cf53 28 = .ok (.iload_n 2, 1) := by decide +kernel
theorem dJ0_indexOf_7cf53_29 : decode cJ0_indexOf_7cf53 29 = .ok (.aload_n 0, 1) := by decide +kernel
theorem dJ0_indexOf_7cf53_30 : decode cJ0_indexOf_7cf53 30 = .ok (.invokevirtual 505, 3) := by decide +kernel
theorem dJ0_indexOf_7cf53_33 : decode cJ0_indexOf_7cf53 33 = .ok (.invokestatic 640, 3) := by decide +kernel
theorem dJ0_indexOf_7cf53_36 : decode cJ0_indexOf_7cf53 36 = .ok (.ireturn, 1) := by decide +kernel
theorem dJ0_coder_7d493_0 : decode cJ0_coder_7d493 0 = .ok (.getstatic 38, 3) := by decide +kernel
theorem dJ0_coder_7d493_3 : decode cJ0_coder_7d493 3 = .ok (.ifCond .eq 10, 3) := by decide +kernel
theorem dJ0_coder_7d493_6 : decode cJ0_coder_7d493 6 = .ok (.aload_n 0, 1) := by decide +kernel
theorem dJ0_coder_7d493_7 : decode cJ0_coder_7d493 7 = .ok (.getfield 15, 3) := by decide +kernel
theorem dJ0_coder_7d493_10 : decode cJ0_coder_7d493 10 = .ok (.goto 4, 3) := by decide +kernel
theorem dJ0_coder_7d493_13 : decode cJ0_coder_7d493 13 = .ok (.iconst 1, 1) := by decide +kernel
theorem dJ0_coder_7d493_14 : decode cJ0_coder_7d493 14 = .ok (.ireturn, 1) := by decide +kernel
theorem dJ0_isLatin1_aae02_0 : decode cJ0_isLatin1_aae02 0 = .ok (.getstatic 38, 3) := by decide +kernel
theorem dJ0_isLatin1_aae02_3 : decode cJ0_isLatin1_aae02 3 = .ok (.ifCond .eq 14, 3) := by decide +kernel
theorem dJ0_isLatin1_aae02_6 : decode cJ0_isLatin1_aae02 6 = .ok (.aload_n 0, 1) := by decide +kernel
theorem dJ0_isLatin1_aae02_7 : decode cJ0_isLatin1_aae02 7 = .ok (.getfield 15, 3) := by decide +kernel
theorem dJ0_isLatin1_aae02_10 : decode cJ0_isLatin1_aae02 10 = .ok (.ifCond .ne 7, 3) := by decide +kernel
theorem dJ0_isLatin1_aae02_13 : decode cJ0_isLatin1_aae02 13 = .ok (.iconst 1, 1) := by decide +kernel
theorem dJ0_isLatin1_aae02_14 : decode cJ0_isLatin1_aae02 14 = .ok (.goto 4, 3) := by decide +kernel
theorem dJ0_isLatin1_aae02_17 : decode cJ0_isLatin1_aae02 17 = .ok (.iconst 0, 1) := by decide +kernel
theorem dJ0_isLatin1_aae02_18 : decode cJ0_isLatin1_aae02 18 = .ok (.ireturn, 1) := by decide +kernel
theorem dJ0_checkIndex_df160_0 : decode cJ0_checkIndex_df160 0 = .ok (.iload_n 0, 1) := by decide +kernel
theorem dJ0_checkIndex_df160_1 : decode cJ0_checkIndex_df160 1 = .ok (.iload_n 1, 1) := by decide +kernel
theorem dJ0_checkIndex_df160_2 : decode cJ0_checkIndex_df160 2 = .ok (.getstatic 1053, 3) := by decide +kernel
theorem dJ0_checkIndex_df160_5 : decode cJ0_checkIndex_df160 5 = .ok (.invokestatic 1059, 3) := by decide +kernel
theorem dJ0_checkIndex_df160_8 : decode cJ0_checkIndex_df160 8 = .ok (.pop, 1) := by decide +kernel
theorem dJ0_checkIndex_df160_9 : decode cJ0_checkIndex_df160 9 = .ok (.return_, 1) := by decide +kernel
theorem dJ0_checkBoundsBeginEnd_23922_0 : decode cJ0_checkBoundsBeginEnd_23922 0 = .ok (.iload_n 0, 1) := by decide +kernel
theorem dJ0_checkBoundsBeginEnd_23922_1 : decode cJ0_checkBoundsBeginEnd_23922 1 = .ok (.iload_n 1, 1) := by decide +kernel
theorem dJ0_checkBoundsBeginEnd_23922_2 : decode cJ0_checkBoundsBeginEnd_23922 2 = .ok (.iload_n 2, 1) := by decide +kernel
theorem dJ0_checkBoundsBeginEnd_23922_3 : decode cJ0_checkBoundsBeginEnd_23922 3 = .ok (.getstatic 1053, 3) := by decide +kernel
theorem dJ0_checkBoundsBeginEnd_23922_6 : decode cJ0_checkBoundsBeginEnd_23922 6 = .ok (.invokestatic 1062, 3) := by decide +kernel
theorem dJ0_checkBoundsBeginEnd_23922_9 : decode cJ0_checkBoundsBeginEnd_23922 9 = .ok (.pop, 1) := by decide +kernel
theorem dJ0_checkBoundsBeginEnd_23922_10 : decode cJ0_checkBoundsBeginEnd_23922 10 = .ok (.return_, 1) := by decide +kernel
theorem dJ1_charAt_3b067_0 : decode cJ1_charAt_3b067 0 = .ok (.iload_n 1, 1) := by decide +kernel
theorem dJ1_charAt_3b067_1 : decode cJ1_charAt_3b067 1 = .ok (.aload_n 0, 1) := by decide +kernel
theorem dJ1_charAt_3b067_2 : decode cJ1_charAt_3b067 2 = .ok (.arraylength, 1) := by decide +kernel
theorem dJ1_charAt_3b067_3 : decode cJ1_charAt_3b067 3 = .ok (.invokestatic 9, 3) := by decide +kernel
theorem dJ1_charAt_3b067_6 : decode cJ1_charAt_3b067 6 = .ok (.aload_n 0, 1) := by decide +kernel
theorem dJ1_charAt_3b067_7 : decode cJ1_charAt_3b067 7 = .ok (.iload_n 1, 1) := by decide +kernel
theorem dJ1_charAt_3b067_8 : decode cJ1_charAt_3b067 8 = .ok (.baload, 1) := by decide +kernel
theorem dJ1_charAt_3b067_9 : decode cJ1_charAt_3b067 9 = .ok (.sipush 255, 3) := by decide +kernel
theorem dJ1_charAt_3b067_12 : decode cJ1_charAt_3b067 12 = .ok (.iand, 1) := by decide +kernel
theorem dJ1_charAt_3b067_13 : decode cJ1_charAt_3b067 13 = .ok (.i2c, 1) := by decide +kernel
theorem dJ1_charAt_3b067_14 : decode cJ1_charAt_3b067 14 = .ok (.ireturn, 1) := by decide +kernel
theorem dJ1_canEncode_9a6ad_0 : decode cJ1_canEncode_9a6ad 0 = .ok (.iload_n 0, 1) := by decide +kernel
theorem dJ1_canEncode_9a6ad_1 : decode cJ1_canEncode_9a6ad 1 = .ok (.ifCond .lt 14, 3) := by decide +kernel
theorem dJ1_canEncode_9a6ad_4 : decode cJ1_canEncode_9a6ad 4 = .ok (.iload_n 0, 1) := by decide +kernel
theorem dJ1_canEncode_9a6ad_5 : decode cJ1_canEncode_9a6ad 5 = .ok (.sipush 255, 3) := by decide +kernel
theorem dJ1_canEncode_9a6ad_8 : decode cJ1_canEncode_9a6ad 8 = .ok (.if_icmp .gt 7, 3) := by decide +kernel
theorem dJ1_canEncode_9a6ad_11 : decode cJ1_canEncode_9a6ad 11 = .ok (.iconst 1, 1) := by decide +kernel
theorem dJ1_canEncode_9a6ad_12 : decode cJ1_canEncode_9a6ad 12 = .ok (.goto 4, 3) := by decide +kernel
theorem dJ1_canEncode_9a6ad_15 : decode cJ1_canEncode_9a6ad 15 = .ok (.iconst 0, 1) := by decide +kernel
theorem dJ1_canEncode_9a6ad_16 : decode cJ1_canEncode_9a6ad 16 = .ok (.ireturn, 1) := by decide +kernel
theorem dJ1_indexOf_4cfef_0 : decode cJ1_indexOf_4cfef 0 = .ok (.iload_n 1, 1) := by decide +kernel
theorem dJ1_indexOf_4cfef_1 : decode cJ1_indexOf_4cfef 1 = .ok (.invokestatic 88, 3) := by decide +kernel
theorem dJ1_indexOf_4cfef_4 : decode cJ1_indexOf_4cfef 4 = .ok (.ifCond .ne 5, 3) := by decide +kernel
theorem dJ1_indexOf_4cfef_7 : decode cJ1_indexOf_4cfef 7 = .ok (.iconst (-1), 1) := by decide +kernel
theorem dJ1_indexOf_4cfef_8 : decode cJ1_indexOf_4cfef 8 = .ok (.ireturn, 1) := by decide +kernel
theorem dJ1_indexOf_4cfef_9 : decode cJ1_indexOf_4cfef 9 = .ok (.iload_n 2, 1) := by decide +kernel
theorem dJ1_indexOf_4cfef_10 : decode cJ1_indexOf_4cfef 10 = .ok (.iconst 0, 1) := by decide +kernel
theorem dJ1_indexOf_4cfef_11 : decode cJ1_indexOf_4cfef 11 = .ok (.invokestatic 92, 3) := by decide +kernel
theorem dJ1_indexOf_4cfef_14 : decode cJ1_indexOf_4cfef 14 = .ok (.istore_n 2, 1) := by decide +kernel
theorem dJ1_indexOf_4cfef_15 : decode cJ1_indexOf_4cfef 15 = .ok (.iload_n 3, 1) := by decide +kernel
theorem dJ1_indexOf_4cfef_16 : decode cJ1_indexOf_4cfef 16 = .ok (.aload_n 0, 1) := by decide +kernel
theorem dJ1_indexOf_4cfef_17 : decode cJ1_indexOf_4cfef 17 = .ok (.arraylength, 1) := by decide +kernel
theorem dJ1_indexOf_4cfef_18 : decode cJ1_indexOf_4cfef 18 = .ok (.invokestatic 38, 3) := by decide +kernel
theorem dJ1_indexOf_4cfef_21 : decode cJ1_indexOf_4cfef 21 = .ok (.istore_n 3, 1) := by decide +kernel
theorem dJ1_indexOf_4cfef_22 : decode cJ1_indexOf_4cfef 22 = .ok (.iload_n 2, 1) := by decide +kernel
theorem dJ1_indexOf_4cfef_23 : decode cJ1_indexOf_4cfef 23 = .ok (.iload_n 3, 1) := by decide +kernel
theorem dJ1_indexOf_4cfef_24 : decode cJ1_indexOf_4cfef 24 = .ok (.if_icmp .lt 5, 3) := by decide +kernel
theorem dJ1_indexOf_4cfef_27 : decode cJ1_indexOf_4cfef 27 = .ok (.iconst (-1), 1) := by decide +kernel
theorem dJ1_indexOf_4cfef_28 : decode cJ1_indexOf_4cfef 28 = .ok (.ireturn, 1) := by decide +kernel
theorem dJ1_indexOf_4cfef_29 : decode cJ1_indexOf_4cfef 29 = .ok (.aload_n 0, 1) := by decide +kernel
theorem dJ1_indexOf_4cfef_30 : decode cJ1_indexOf_4cfef 30 = .ok (.iload_n 1, 1) := by decide +kernel
theorem dJ1_indexOf_4cfef_31 : decode cJ1_indexOf_4cfef 31 = .ok (.iload_n 2, 1) := by decide +kernel
theorem dJ1_indexOf_4cfef_32 : decode cJ1_indexOf_4cfef 32 = .ok (.iload_n 3, 1) := by decide +kernel
theorem dJ1_indexOf_4cfef_33 : decode cJ1_indexOf_4cfef 33 = .ok (.invokestatic 95, 3) := by decide +kernel
theorem dJ1_indexOf_4cfef_36 : decode cJ1_indexOf_4cfef 36 = .ok (.ireturn, 1) := by decide +kernel
theorem dJ1_indexOfChar_4cfef_0 : decode cJ1_indexOfChar_4cfef 0 = .ok (.iload_n 1, 1) := by decide +kernel
theorem dJ1_indexOfChar_4cfef_1 : decode cJ1_indexOfChar_4cfef 1 = .ok (.i2b, 1) := by decide +kernel
theorem dJ1_indexOfChar_4cfef_2 : decode cJ1_indexOfChar_4cfef 2 = .ok (.istore 4, 2) := by decide +kernel
theorem dJ1_indexOfChar_4cfef_4 : decode cJ1_indexOfChar_4cfef 4 = .ok (.iload_n 2, 1) := by decide +kernel
theorem dJ1_indexOfChar_4cfef_5 : decode cJ1_indexOfChar_4cfef 5 = .ok (.istore 5, 2) := by decide +kernel
theorem dJ1_indexOfChar_4cfef_7 : decode cJ1_indexOfChar_4cfef 7 = .ok (.iload 5, 2) := by decide +kernel
theorem dJ1_indexOfChar_4cfef_9 : decode cJ1_indexOfChar_4cfef 9 = .ok (.iload_n 3, 1) := by decide +kernel
theorem dJ1_indexOfChar_4cfef_10 : decode cJ1_indexOfChar_4cfef 10 = .ok (.if_icmp .ge 21, 3) := by decide +kernel
theorem dJ1_indexOfChar_4cfef_13 : decode cJ1_indexOfChar_4cfef 13 = .ok (.aload_n 0, 1) := by decide +kernel
theorem dJ1_indexOfChar_4cfef_14 : decode cJ1_indexOfChar_4cfef 14 = .ok (.iload 5, 2) := by decide +kernel
theorem dJ1_indexOfChar_4cfef_16 : decode cJ1_indexOfChar_4cfef 16 = .ok (.baload, 1) := by decide +kernel
theorem dJ1_indexOfChar_4cfef_17 : decode cJ1_indexOfChar_4cfef 17 = .ok (.iload 4, 2) := by decide +kernel
theorem dJ1_indexOfChar_4cfef_19 : decode cJ1_indexOfChar_4cfef 19 = .ok (.if_icmp .ne 6, 3) := by decide +kernel
theorem dJ1_indexOfChar_4cfef_22 : decode cJ1_indexOfChar_4cfef 22 = .ok (.iload 5, 2) := by decide +kernel
theorem dJ1_indexOfChar_4cfef_24 : decode cJ1_indexOfChar_4cfef 24 = .ok (.ireturn, 1) := by decide +kernel
theorem dJ1_indexOfChar_4cfef_25 : decode cJ1_indexOfChar_4cfef 25 = .ok (.iinc 5 1, 3) := by decide +kernel
theorem dJ1_indexOfChar_4cfef_28 : decode cJ1_indexOfChar_4cfef 28 = .ok (.goto (-21), 3) := by decide +kernel
theorem dJ1_indexOfChar_4cfef_31 : decode cJ1_indexOfChar_4cfef 31 = .ok (.iconst (-1), 1) := by decide +kernel
theorem dJ1_indexOfChar_4cfef_32 : decode cJ1_indexOfChar_4cfef 32 = .ok (.ireturn, 1) := by decide +kernel
theorem dJ2_getChar_3b067_0 : decode cJ2_getChar_3b067 0 = .ok (.getstatic 44, 3) := by decide +kernel
theorem dJ2_getChar_3b067_3 : decode cJ2_getChar_3b067 3 = .ok (.ifCond .ne 25, 3) := by decide +kernel
theorem dJ2_getChar_3b067_6 : decode cJ2_getChar_3b067 6 = .ok (.iload_n 1, 1) := by decide +kernel
theorem dJ2_getChar_3b067_7 : decode cJ2_getChar_3b067 7 = .ok (.ifCond .lt 11, 3) := by decide +kernel
theorem dJ2_getChar_3b067_10 : decode cJ2_getChar_3b067 10 = .ok (.iload_n 1, 1) := by decide +kernel
theorem dJ2_getChar_3b067_11 : decode cJ2_getChar_3b067 11 = .ok (.aload_n 0, 1) := by decide +kernel
theorem dJ2_getChar_3b067_12 : decode cJ2_getChar_3b067 12 = .ok (.invokestatic 48, 3) := by decide +kernel
theorem dJ2_getChar_3b067_15 : decode cJ2_getChar_3b067 15 = .ok (.if_icmp .lt 13, 3) := by decide +kernel
theorem dJ2_getChar_3b067_18 : decode cJ2_getChar_3b067 18 = .ok (.new 52, 3) := by decide +kernel
theorem dJ2_getChar_3b067_21 : decode cJ2_getChar_3b067 21 = .ok (.dup, 1) := by decide +kernel
theorem dJ2_getChar_3b067_22 : decode cJ2_getChar_3b067 22 = .ok (.ldc 54, 2) := by decide +kernel
theorem dJ2_getChar_3b067_24 : decode cJ2_getChar_3b067 24 = .ok (.invokespecial 56, 3) := by decide +kernel
theorem dJ2_getChar_3b067_27 : decode cJ2_getChar_3b067 27 = .ok (.athrow, 1) := by decide +kernel
theorem dJ2_getChar_3b067_28 : decode cJ2_getChar_3b067 28 = .ok (.iload_n 1, 1) := by decide +kernel
theorem dJ2_getChar_3b067_29 : decode cJ2_getChar_3b067 29 = .ok (.iconst 1, 1) := by decide +kernel
theorem dJ2_getChar_3b067_30 : decode cJ2_getChar_3b067 30 = .ok (.ishl, 1) := by decide +kernel
theorem dJ2_getChar_3b067_31 : decode cJ2_getChar_3b067 31 = .ok (.istore_n 1, 1) := by decide +kernel
theorem dJ2_getChar_3b067_32 : decode cJ2_getChar_3b067 32 = .ok (.aload_n 0, 1) := by decide +kernel
theorem dJ2_getChar_3b067_33 : decode cJ2_getChar_3b067 33 = .ok (.iload_n 1, 1) := by decide +kernel
theorem dJ2_getChar_3b067_34 : decode cJ2_getChar_3b067 34 = .ok (.iinc 1 1, 3) := by decide +kernel
theorem dJ2_getChar_3b067_37 : decode cJ2_getChar_3b067 37 = .ok (.baload, 1) := by decide +kernel
theorem dJ2_getChar_3b067_38 : decode cJ2_getChar_3b067 38 = .ok (.sipush 255, 3) := by decide +kernel
theorem dJ2_getChar_3b067_41 : decode cJ2_getChar_3b067 41 = .ok (.iand, 1) := by decide +kernel
theorem dJ2_getChar_3b067_42 : decode cJ2_getChar_3b067 42 = .ok (.getstatic 59, 3) := by decide +kernel
theorem dJ2_getChar_3b067_45 : decode cJ2_getChar_3b067 45 = .ok (.ishl, 1) := by decide +kernel
theorem dJ2_getChar_3b067_46 : decode cJ2_getChar_3b067 46 = .ok (.aload_n 0, 1) := by decide +kernel
theorem dJ2_getChar_3b067_47 : decode cJ2_getChar_3b067 47 = .ok (.iload_n 1, 1) := by decide +kernel
theorem dJ2_getChar_3b067_48 : decode cJ2_getChar_3b067 48 = .ok (.baload, 1) := by decide +kernel
theorem dJ2_getChar_3b067_49 : decode cJ2_getChar_3b067 49 = .ok (.sipush 255, 3) := by decide +kernel
theorem dJ2_getChar_3b067_52 : decode cJ2_getChar_3b067 52 = .ok (.iand, 1) := by decide +kernel
theorem dJ2_getChar_3b067_53 : decode cJ2_getChar_3b067 53 = .ok (.getstatic 63, 3) := by decide +kernel
theorem dJ2_getChar_3b067_56 : decode cJ2_getChar_3b067 56 = .ok (.ishl, 1) := by decide +kernel
theorem dJ2_getChar_3b067_57 : decode cJ2_getChar_3b067 57 = .ok (.ior, 1) := by decide +kernel
theorem dJ2_getChar_3b067_58 : decode cJ2_getChar_3b067 58 = .ok (.i2c, 1) := by decide +kernel
theorem dJ2_getChar_3b067_59 : decode cJ2_getChar_3b067 59 = .ok (.ireturn, 1) := by decide +kernel
theorem dJ2_length_9d52b_0 : decode cJ2_length_9d52b 0 = .ok (.aload_n 0, 1) := by decide +kernel
theorem dJ2_length_9d52b_1 : decode cJ2_length_9d52b 1 = .ok (.arraylength, 1) := by decide +kernel
theorem dJ2_length_9d52b_2 : decode cJ2_length_9d52b 2 = .ok (.iconst 1, 1) := by decide +kernel
theorem dJ2_length_9d52b_3 : decode cJ2_length_9d52b 3 = .ok (.ishr, 1) := by decide +kernel
theorem dJ2_length_9d52b_4 : decode cJ2_length_9d52b 4 = .ok (.ireturn, 1) := by decide +kernel
theorem dJ2_indexOf_4cfef_0 : decode cJ2_indexOf_4cfef 0 = .ok (.iload_n 2, 1) := by decide +kernel
theorem dJ2_indexOf_4cfef_1 : decode cJ2_indexOf_4cfef 1 = .ok (.iconst 0, 1) := by decide +kernel
theorem dJ2_indexOf_4cfef_2 : decode cJ2_indexOf_4cfef 2 = .ok (.invokestatic 224, 3) := by decide +kernel
theorem dJ2_indexOf_4cfef_5 : decode cJ2_indexOf_4cfef 5 = .ok (.istore_n 2, 1) := by decide +kernel
theorem dJ2_indexOf_4cfef_6 : decode cJ2_indexOf_4cfef 6 = .ok (.iload_n 3, 1) := by decide +kernel
theorem dJ2_indexOf_4cfef_7 : decode cJ2_indexOf_4cfef 7 = .ok (.aload_n 0, 1) := by decide +kernel
theorem dJ2_indexOf_4cfef_8 : decode cJ2_indexOf_4cfef 8 = .ok (.arraylength, 1) := by decide +kernel
theorem dJ2_indexOf_4cfef_9 : decode cJ2_indexOf_4cfef 9 = .ok (.iconst 1, 1) := by decide +kernel
theorem dJ2_indexOf_4cfef_10 : decode cJ2_indexOf_4cfef 10 = .ok (.ishr, 1) := by decide +kernel
theorem dJ2_indexOf_4cfef_11 : decode cJ2_indexOf_4cfef 11 = .ok (.invokestatic 183, 3) := by decide +kernel
theorem dJ2_indexOf_4cfef_14 : decode cJ2_indexOf_4cfef 14 = .ok (.istore_n 3, 1) := by decide +kernel
theorem dJ2_indexOf_4cfef_15 : decode cJ2_indexOf_4cfef 15 = .ok (.iload_n 2, 1) := by decide +kernel
theorem dJ2_indexOf_4cfef_16 : decode cJ2_indexOf_4cfef 16 = .ok (.iload_n 3, 1) := by decide +kernel
theorem dJ2_indexOf_4cfef_17 : decode cJ2_indexOf_4cfef 17 = .ok (.if_icmp .lt 5, 3) := by decide +kernel
theorem dJ2_indexOf_4cfef_20 : decode cJ2_indexOf_4cfef 20 = .ok (.iconst (-1), 1) := by decide +kernel
theorem dJ2_indexOf_4cfef_21 : decode cJ2_indexOf_4cfef 21 = .ok (.ireturn, 1) := by decide +kernel
theorem dJ2_indexOf_4cfef_22 : decode cJ2_indexOf_4cfef 22 = .ok (.iload_n 1, 1) := by decide +kernel
theorem dJ2_indexOf_4cfef_23 : decode cJ2_indexOf_4cfef 23 = .ok (.ldc 227, 2) := by decide +kernel
theorem dJ2_indexOf_4cfef_25 : decode cJ2_indexOf_4cfef 25 = .ok (.if_icmp .ge 11, 3) := by decide +kernel
theorem dJ2_indexOf_4cfef_28 : decode cJ2_indexOf_4cfef 28 = .ok (.aload_n 0, 1) := by decide +kernel
theorem dJ2_indexOf_4cfef_29 : decode cJ2_indexOf_4cfef 29 = .ok (.iload_n 1, 1) := by decide +kernel
theorem dJ2_indexOf_4cfef_30 : decode cJ2_indexOf_4cfef 30 = .ok (.iload_n 2, 1) := by decide +kernel
theorem dJ2_indexOf_4cfef_31 : decode cJ2_indexOf_4cfef 31 = .ok (.iload_n 3, 1) := by decide +kernel
theorem dJ2_indexOf_4cfef_32 : decode cJ2_indexOf_4cfef 32 = .ok (.invokestatic 228, 3) := by decide +kernel
theorem dJ2_indexOf_4cfef_35 : decode cJ2_indexOf_4cfef 35 = .ok (.ireturn, 1) := by decide +kernel
theorem dJ2_indexOf_4cfef_36 : decode cJ2_indexOf_4cfef 36 = .ok (.aload_n 0, 1) := by decide +kernel
theorem dJ2_indexOf_4cfef_37 : decode cJ2_indexOf_4cfef 37 = .ok (.iload_n 1, 1) := by decide +kernel
theorem dJ2_indexOf_4cfef_38 : decode cJ2_indexOf_4cfef 38 = .ok (.iload_n 2, 1) := by decide +kernel
theorem dJ2_indexOf_4cfef_39 : decode cJ2_indexOf_4cfef 39 = .ok (.iload_n 3, 1) := by decide +kernel
theorem dJ2_indexOf_4cfef_40 : decode cJ2_indexOf_4cfef 40 = .ok (.invokestatic 232, 3) := by decide +kernel
theorem dJ2_indexOf_4cfef_43 : decode cJ2_indexOf_4cfef 43 = .ok (.ireturn, 1) := by decide +kernel
theorem dJ2_indexOfChar_4cfef_0 : decode cJ2_indexOfChar_4cfef 0 = .ok (.iload_n 2, 1) := by decide +kernel
theorem dJ2_indexOfChar_4cfef_1 : decode cJ2_indexOfChar_4cfef 1 = .ok (.iload_n 3, 1) := by decide +kernel
theorem dJ2_indexOfChar_4cfef_2 : decode cJ2_indexOfChar_4cfef 2 = .ok (.aload_n 0, 1) := by decide +kernel
theorem dJ2_indexOfChar_4cfef_3 : decode cJ2_indexOfChar_4cfef 3 = .ok (.invokestatic 96, 3) := by decide +kernel
theorem dJ2_indexOfChar_4cfef_6 : decode cJ2_indexOfChar_4cfef 6 = .ok (.aload_n 0, 1) := by decide +kernel
theorem dJ2_indexOfChar_4cfef_7 : decode cJ2_indexOfChar_4cfef 7 = .ok (.iload_n 1, 1) := by decide +kernel
theorem dJ2_indexOfChar_4cfef_8 : decode cJ2_indexOfChar_4cfef 8 = .ok (.iload_n 2, 1) := by decide +kernel
theorem dJ2_indexOfChar_4cfef_9 : decode cJ2_indexOfChar_4cfef 9 = .ok (.iload_n 3, 1) := by decide +kernel
theorem dJ2_indexOfChar_4cfef_10 : decode cJ2_indexOfChar_4cfef 10 = .ok (.invokestatic 244, 3) := by decide +kernel
theorem dJ2_indexOfChar_4cfef_13 : decode cJ2_indexOfChar_4cfef 13 = .ok (.ireturn, 1) := by decide +kernel
theorem dJ2_indexOfCharUnsafe_4cfef_0 : decode cJ2_indexOfCharUnsafe_4cfef 0 = .ok (.iload_n 2, 1) := by decide +kernel
theorem dJ2_indexOfCharUnsafe_4cfef_1 : decode cJ2_indexOfCharUnsafe_4cfef 1 = .ok (.istore 4, 2) := by decide +kernel
theorem dJ2_indexOfCharUnsafe_4cfef_3 : decode cJ2_indexOfCharUnsafe_4cfef 3 = .ok (.iload 4, 2) := by decide +kernel
theorem dJ2_indexOfCharUnsafe_4cfef_5 : decode cJ2_indexOfCharUnsafe_4cfef 5 = .ok (.iload_n 3, 1) := by decide +kernel
theorem dJ2_indexOfCharUnsafe_4cfef_6 : decode cJ2_indexOfCharUnsafe_4cfef 6 = .ok (.if_icmp .ge 22, 3) := by decide +kernel
theorem dJ2_indexOfCharUnsafe_4cfef_9 : decode cJ2_indexOfCharUnsafe_4cfef 9 = .ok (.aload_n 0, 1) := by decide +kernel
theorem dJ2_indexOfCharUnsafe_4cfef_10 : decode cJ2_indexOfCharUnsafe_4cfef 10 = .ok (.iload 4, 2) := by decide +kernel
theorem dJ2_indexOfCharUnsafe_4cfef_12 : decode cJ2_indexOfCharUnsafe_4cfef 12 = .ok (.invokestatic 71, 3) := by decide +kernel
theorem dJ2_indexOfCharUnsafe_4cfef_15 : decode cJ2_indexOfCharUnsafe_4cfef 15 = .ok (.iload_n 1, 1) := by decide +kernel
theorem dJ2_indexOfCharUnsafe_4cfef_16 : decode cJ2_indexOfCharUnsafe_4cfef 16 = .ok (.if_icmp .ne 6, 3) := by decide +kernel
theorem dJ2_indexOfCharUnsafe_4cfef_19 : decode cJ2_indexOfCharUnsafe_4cfef 19 = .ok (.iload 4, 2) := by decide +kernel
theorem dJ2_indexOfCharUnsafe_4cfef_21 : decode cJ2_indexOfCharUnsafe_4cfef 21 = .ok (.ireturn, 1) := by decide +kernel
theorem dJ2_indexOfCharUnsafe_4cfef_22 : decode cJ2_indexOfCharUnsafe_4cfef 22 = .ok (.iinc 4 1, 3) := by decide +kernel
theorem dJ2_indexOfCharUnsafe_4cfef_25 : decode cJ2_indexOfCharUnsafe_4cfef 25 = .ok (.goto (-22), 3) := by decide +kernel
theorem dJ2_indexOfCharUnsafe_4cfef_28 : decode cJ2_indexOfCharUnsafe_4cfef 28 = .ok (.iconst (-1), 1) := by decide +kernel
theorem dJ2_indexOfCharUnsafe_4cfef_29 : decode cJ2_indexOfCharUnsafe_4cfef 29 = .ok (.ireturn, 1) := by decide +kernel
theorem dJ2_indexOfSupplementary_4cfef_0 : decode cJ2_indexOfSupplementary_4cfef 0 = .ok (.iload_n 1, 1) := by decide +kernel
theorem dJ2_indexOfSupplementary_4cfef_1 : decode cJ2_indexOfSupplementary_4cfef 1 = .ok (.invokestatic 164, 3) := by decide +kernel
theorem dJ2_indexOfSupplementary_4cfef_4 : decode cJ2_indexOfSupplementary_4cfef 4 = .ok (.ifCond .eq 65, 3) := by decide +kernel
theorem dJ2_indexOfSupplementary_4cfef_7 : decode cJ2_indexOfSupplementary_4cfef 7 = .ok (.iload_n 1, 1) := by decide +kernel
theorem dJ2_indexOfSupplementary_4cfef_8 : decode cJ2_indexOfSupplementary_4cfef 8 = .ok (.invokestatic 157, 3) := by decide +kernel
theorem dJ2_indexOfSupplementary_4cfef_11 : decode cJ2_indexOfSupplementary_4cfef 11 = .ok (.istore 4, 2) := by decide +kernel
theorem dJ2_indexOfSupplementary_4cfef_13 : decode cJ2_indexOfSupplementary_4cfef 13 = .ok (.iload_n 1, 1) := by decide +kernel
theorem dJ2_indexOfSupplementary_4cfef_14 : decode cJ2_indexOfSupplementary_4cfef 14 = .ok (.invokestatic 161, 3) := by decide +kernel
theorem dJ2_indexOfSupplementary_4cfef_17 : decode cJ2_indexOfSupplementary_4cfef 17 = .ok (.istore 5, 2) := by decide +kernel
theorem dJ2_indexOfSupplementary_4cfef_19 : decode cJ2_indexOfSupplementary_4cfef 19 = .ok (.iload_n 2, 1) := by decide +kernel
theorem dJ2_indexOfSupplementary_4cfef_20 : decode cJ2_indexOfSupplementary_4cfef 20 = .ok (.iload_n 3, 1) := by decide +kernel
theorem dJ2_indexOfSupplementary_4cfef_21 : decode cJ2_indexOfSupplementary_4cfef 21 = .ok (.aload_n 0, 1) := by decide +kernel
theorem dJ2_indexOfSupplementary_4cfef_22 : decode cJ2_indexOfSupplementary_4cfef 22 = .ok (.invokestatic 96, 3) := by decide +kernel
theorem dJ2_indexOfSupplementary_4cfef_25 : decode cJ2_indexOfSupplementary_4cfef 25 = .ok (.iload_n 2, 1) := by decide +kernel
theorem dJ2_indexOfSupplementary_4cfef_26 : decode cJ2_indexOfSupplementary_4cfef 26 = .ok (.istore 6, 2) := by decide +kernel
theorem dJ2_indexOfSupplementary_4cfef_28 : decode cJ2_indexOfSupplementary_4cfef 28 = .ok (.iload 6, 2) := by decide +kernel
theorem dJ2_indexOfSupplementary_4cfef_30 : decode cJ2_indexOfSupplementary_4cfef 30 = .ok (.iload_n 3, 1) := by decide +kernel
theorem dJ2_indexOfSupplementary_4cfef_31 : decode cJ2_indexOfSupplementary_4cfef 31 = .ok (.iconst 1, 1) := by decide +kernel
theorem dJ2_indexOfSupplementary_4cfef_32 : decode cJ2_indexOfSupplementary_4cfef 32 = .ok (.isub, 1) := by decide +kernel
theorem dJ2_indexOfSupplementary_4cfef_33 : decode cJ2_indexOfSupplementary_4cfef 33 = .ok (.if_icmp .ge 36, 3) := by decide +kernel
theorem dJ2_indexOfSupplementary_4cfef_36 : decode cJ2_indexOfSupplementary_4cfef 36 = .ok (.aload_n 0, 1) := by decide +kernel
theorem dJ2_indexOfSupplementary_4cfef_37 : decode cJ2_indexOfSupplementary_4cfef 37 = .ok (.iload 6, 2) := by decide +kernel
theorem dJ2_indexOfSupplementary_4cfef_39 : decode cJ2_indexOfSupplementary_4cfef 39 = .ok (.invokestatic 71, 3) := by decide +kernel
theorem dJ2_indexOfSupplementary_4cfef_42 : decode cJ2_indexOfSupplementary_4cfef 42 = .ok (.iload 4, 2) := by decide +kernel
theorem dJ2_indexOfSupplementary_4cfef_44 : decode cJ2_indexOfSupplementary_4cfef 44 = .ok (.if_icmp .ne 19, 3) := by decide +kernel
theorem dJ2_indexOfSupplementary_4cfef_47 : decode cJ2_indexOfSupplementary_4cfef 47 = .ok (.aload_n 0, 1) := by decide +kernel
theorem dJ2_indexOfSupplementary_4cfef_48 : decode cJ2_indexOfSupplementary_4cfef 48 = .ok (.iload 6, 2) := by decide +kernel
theorem dJ2_indexOfSupplementary_4cfef_50 : decode cJ2_indexOfSupplementary_4cfef 50 = .ok (.iconst 1, 1) := by decide +kernel
theorem dJ2_indexOfSupplementary_4cfef_51 : decode cJ2_indexOfSupplementary_4cfef 51 = .ok (.iadd, 1) := by decide +kernel
theorem dJ2_indexOfSupplementary_4cfef_52 : decode cJ2_indexOfSupplementary_4cfef 52 = .ok (.invokestatic 71, 3) := by decide +kernel
theorem dJ2_indexOfSupplementary_4cfef_55 : decode cJ2_indexOfSupplementary_4cfef 55 = .ok (.iload 5, 2) := by decide +kernel
theorem dJ2_indexOfSupplementary_4cfef_57 : decode cJ2_indexOfSupplementary_4cfef 57 = .ok (.if_icmp .ne 6, 3) := by decide +kernel
theorem dJ2_indexOfSupplementary_4cfef_60 : decode cJ2_indexOfSupplementary_4cfef 60 = .ok (.iload 6, 2) := by decide +kernel
theorem dJ2_indexOfSupplementary_4cfef_62 : decode cJ2_indexOfSupplementary_4cfef 62 = .ok (.ireturn, 1) := by decide +kernel
theorem dJ2_indexOfSupplementary_4cfef_63 : decode cJ2_indexOfSupplementary_4cfef 63 = .ok (.iinc 6 1, 3) := by decide +kernel
theorem dJ2_indexOfSupplementary_4cfef_66 : decode cJ2_indexOfSupplementary_4cfef 66 = .ok (.goto (-38), 3) := by decide +kernel
theorem dJ2_indexOfSupplementary_4cfef_69 : decode cJ2_indexOfSupplementary_4cfef 69 = .ok (.iconst (-1), 1) := by decide +kernel
theorem dJ2_indexOfSupplementary_4cfef_70 : decode cJ2_indexOfSupplementary_4cfef 70 = .ok (.ireturn, 1) := by decide +kernel
theorem dJ2_charAt_3b067_0 : decode cJ2_charAt_3b067 0 = .ok (.iload_n 1, 1) := by decide +kernel
theorem dJ2_charAt_3b067_1 : decode cJ2_charAt_3b067 1 = .ok (.aload_n 0, 1) := by decide +kernel
theorem dJ2_charAt_3b067_2 : decode cJ2_charAt_3b067 2 = .ok (.invokestatic 67, 3) := by decide +kernel
theorem dJ2_charAt_3b067_5 : decode cJ2_charAt_3b067 5 = .ok (.aload_n 0, 1) := by decide +kernel
theorem dJ2_charAt_3b067_6 : decode cJ2_charAt_3b067 6 = .ok (.iload_n 1, 1) := by decide +kernel
theorem dJ2_charAt_3b067_7 : decode cJ2_charAt_3b067 7 = .ok (.invokestatic 71, 3) := by decide +kernel
theorem dJ2_charAt_3b067_10 : decode cJ2_charAt_3b067 10 = .ok (.ireturn, 1) := by decide +kernel
theorem dJ2_checkIndex_2214a_0 : decode cJ2_checkIndex_2214a 0 = .ok (.iload_n 0, 1) := by decide +kernel
theorem dJ2_checkIndex_2214a_1 : decode cJ2_checkIndex_2214a 1 = .ok (.aload_n 1, 1) := by decide +kernel
theorem dJ2_checkIndex_2214a_2 : decode cJ2_checkIndex_2214a 2 = .ok (.invokestatic 48, 3) := by decide +kernel
theorem dJ2_checkIndex_2214a_5 : decode cJ2_checkIndex_2214a 5 = .ok (.invokestatic 414, 3) := by decide +kernel
theorem dJ2_checkIndex_2214a_8 : decode cJ2_checkIndex_2214a 8 = .ok (.return_, 1) := by decide +kernel
theorem dJ2_checkBoundsBeginEnd_d044e_0 : decode cJ2_checkBoundsBeginEnd_d044e 0 = .ok (.iload_n 0, 1) := by decide +kernel
theorem dJ2_checkBoundsBeginEnd_d044e_1 : decode cJ2_checkBoundsBeginEnd_d044e 1 = .ok (.iload_n 1, 1) := by decide +kernel
theorem dJ2_checkBoundsBeginEnd_d044e_2 : decode cJ2_checkBoundsBeginEnd_d044e 2 = .ok (.aload_n 2, 1) := by decide +kernel
theorem dJ2_checkBoundsBeginEnd_d044e_3 : decode cJ2_checkBoundsBeginEnd_d044e 3 = .ok (.invokestatic 48, 3) := by decide +kernel
theorem dJ2_checkBoundsBeginEnd_d044e_6 : decode cJ2_checkBoundsBeginEnd_d044e 6 = .ok (.invokestatic 241, 3) := by decide +kernel
theorem dJ2_checkBoundsBeginEnd_d044e_9 : decode cJ2_checkBoundsBeginEnd_d044e 9 = .ok (.return_, 1) := by decide +kernel
theorem dJ7_fill_53178_0 : decode cJ7_fill_53178 0 = .ok (.iconst 0, 1) := by decide +kernel
theorem dJ7_fill_53178_1 : decode cJ7_fill_53178 1 = .ok (.istore_n 2, 1) := by decide +kernel
theorem dJ7_fill_53178_2 : decode cJ7_fill_53178 2 = .ok (.aload_n 0, 1) := by decide +kernel
theorem dJ7_fill_53178_3 : decode cJ7_fill_53178 3 = .ok (.arraylength, 1) := by decide +kernel
theorem dJ7_fill_53178_4 : decode cJ7_fill_53178 4 = .ok (.istore_n 3, 1) := by decide +kernel
theorem dJ7_fill_53178_5 : decode cJ7_fill_53178 5 = .ok (.iload_n 2, 1) := by decide +kernel
theorem dJ7_fill_53178_6 : decode cJ7_fill_53178 6 = .ok (.iload_n 3, 1) := by decide +kernel
theorem dJ7_fill_53178_7 : decode cJ7_fill_53178 7 = .ok (.if_icmp .ge 13, 3) := by decide +kernel
theorem dJ7_fill_53178_10 : decode cJ7_fill_53178 10 = .ok (.aload_n 0, 1) := by decide +kernel
theorem dJ7_fill_53178_11 : decode cJ7_fill_53178 11 = .ok (.iload_n 2, 1) := by decide +kernel
theorem dJ7_fill_53178_12 : decode cJ7_fill_53178 12 = .ok (.iload_n 1, 1) := by decide +kernel
theorem dJ7_fill_53178_13 : decode cJ7_fill_53178 13 = .ok (.iastore, 1) := by decide +kernel
theorem dJ7_fill_53178_14 : decode cJ7_fill_53178 14 = .ok (.iinc 2 1, 3) := by decide +kernel
theorem dJ7_fill_53178_17 : decode cJ7_fill_53178 17 = .ok (.goto (-12), 3) := by decide +kernel
theorem dJ7_fill_53178_20 : decode cJ7_fill_53178 20 = .ok (.return_, 1) := by decide +kernel
theorem dJ3_checkIndex_8e157_0 : decode cJ3_checkIndex_8e157 0 = .ok (.iload_n 0, 1) := by decide +kernel
theorem dJ3_checkIndex_8e157_1 : decode cJ3_checkIndex_8e157 1 = .ok (.ifCond .lt 8, 3) := by decide +kernel
theorem dJ3_checkIndex_8e157_4 : decode cJ3_checkIndex_8e157 4 = .ok (.iload_n 0, 1) := by decide +kernel
theorem dJ3_checkIndex_8e157_5 : decode cJ3_checkIndex_8e157 5 = .ok (.iload_n 1, 1) := by decide +kernel
theorem dJ3_checkIndex_8e157_6 : decode cJ3_checkIndex_8e157 6 = .ok (.if_icmp .lt 10, 3) := by decide +kernel
theorem dJ3_checkIndex_8e157_9 : decode cJ3_checkIndex_8e157 9 = .ok (.aload_n 2, 1) := by decide +kernel
theorem dJ3_checkIndex_8e157_10 : decode cJ3_checkIndex_8e157 10 = .ok (.iload_n 0, 1) := by decide +kernel
theorem dJ3_checkIndex_8e157_11 : decode cJ3_checkIndex_8e157 11 = .ok (.iload_n 1, 1) := by decide +kernel
theorem dJ3_checkIndex_8e157_12 : decode cJ3_checkIndex_8e157 12 = .ok (.invokestatic 95, 3) := by decide +kernel
theorem dJ3_checkIndex_8e157_15 : decode cJ3_checkIndex_8e157 15 = .ok (.athrow, 1) := by decide +kernel
theorem dJ3_checkIndex_8e157_16 : decode cJ3_checkIndex_8e157 16 = .ok (.iload_n 0, 1) := by decide +kernel
theorem dJ3_checkIndex_8e157_17 : decode cJ3_checkIndex_8e157 17 = .ok (.ireturn, 1) := by decide +kernel
theorem dJ3_checkFromToIndex_8c36e_0 : decode cJ3_checkFromToIndex_8c36e 0 = .ok (.iload_n 0, 1) := by decide +kernel
theorem dJ3_checkFromToIndex_8c36e_1 : decode cJ3_checkFromToIndex_8c36e 1 = .ok (.ifCond .lt 13, 3) := by decide +kernel
theorem dJ3_checkFromToIndex_8c36e_4 : decode cJ3_checkFromToIndex_8c36e 4 = .ok (.iload_n 0, 1) := by decide +kernel
theorem dJ3_checkFromToIndex_8c36e_5 : decode cJ3_checkFromToIndex_8c36e 5 = .ok (.iload_n 1, 1) := by decide +kernel
theorem dJ3_checkFromToIndex_8c36e_6 : decode cJ3_checkFromToIndex_8c36e 6 = .ok (.if_icmp .gt 8, 3) := by decide +kernel
theorem dJ3_checkFromToIndex_8c36e_9 : decode cJ3_checkFromToIndex_8c36e 9 = .ok (.iload_n 1, 1) := by decide +kernel
theorem dJ3_checkFromToIndex_8c36e_10 : decode cJ3_checkFromToIndex_8c36e 10 = .ok (.iload_n 2, 1) := by decide +kernel
theorem dJ3_checkFromToIndex_8c36e_11 : decode cJ3_checkFromToIndex_8c36e 11 = .ok (.if_icmp .le 11, 3) := by decide +kernel
theorem dJ3_checkFromToIndex_8c36e_14 : decode cJ3_checkFromToIndex_8c36e 14 = .ok (.aload_n 3, 1) := by decide +kernel
theorem dJ3_checkFromToIndex_8c36e_15 : decode cJ3_checkFromToIndex_8c36e 15 = .ok (.iload_n 0, 1) := by decide +kernel
theorem dJ3_checkFromToIndex_8c36e_16 : decode cJ3_checkFromToIndex_8c36e 16 = .ok (.iload_n 1, 1) := by decide +kernel
theorem dJ3_checkFromToIndex_8c36e_17 : decode cJ3_checkFromToIndex_8c36e 17 = .ok (.iload_n 2, 1) := by decide +kernel
theorem dJ3_checkFromToIndex_8c36e_18 : decode cJ3_checkFromToIndex_8c36e 18 = .ok (.invokestatic 99, 3) := by decide +kernel
theorem dJ3_checkFromToIndex_8c36e_21 : decode cJ3_checkFromToIndex_8c36e 21 = .ok (.athrow, 1) := by decide +kernel
theorem dJ3_checkFromToIndex_8c36e_22 : decode cJ3_checkFromToIndex_8c36e 22 = .ok (.iload_n 0, 1) := by decide +kernel
theorem dJ3_checkFromToIndex_8c36e_23 : decode cJ3_checkFromToIndex_8c36e 23 = .ok (.ireturn, 1) := by decide +kernel
