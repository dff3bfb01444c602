theorem dX0_init_0 : decode cX0_init 0 = .ok (.aload_n 0, 1) := by decide +kernel
theorem dX0_init_1 : decode cX0_init 1 = .ok (.invokespecial 1, 3) := by decide +kernel
theorem dX0_init_4 : decode cX0_init 4 = .ok (.aload_n 0, 1) := by decide +kernel
theorem dX0_init_5 : decode cX0_init 5 = .ok (.sipush 400, 3) := by decide +kernel
theorem dX0_init_8 : decode cX0_init 8 = .ok (.newarray .int, 2) := by decide +kernel
theorem dX0_init_10 : decode cX0_init 10 = .ok (.putfield 9, 3) := by decide +kernel
theorem dX0_init_13 : decode cX0_init 13 = .ok (.aload_n 0, 1) := by decide +kernel
theorem dX0_init_14 : decode cX0_init 14 = .ok (.iconst 0, 1) := by decide +kernel
theorem dX0_init_15 : decode cX0_init 15 = .ok (.putfield 15, 3) := by decide +kernel
theorem dX0_init_18 : decode cX0_init 18 = .ok (.return_, 1) := by decide +kernel
theorem dX0_letPass_0 : decode cX0_letPass 0 = .ok (.iconst 0, 1) := by decide +kernel
theorem dX0_letPass_1 : decode cX0_letPass 1 = .ok (.istore_n 3, 1) := by decide +kernel
theorem dX0_letPass_2 : decode cX0_letPass 2 = .ok (.iload_n 3, 1) := by decide +kernel
theorem dX0_letPass_3 : decode cX0_letPass 3 = .ok (.iload_n 2, 1) := by decide +kernel
theorem dX0_letPass_4 : decode cX0_letPass 4 = .ok (.if_icmp .ge 18, 3) := by decide +kernel
theorem dX0_letPass_7 : decode cX0_letPass 7 = .ok (.aload_n 0, 1) := by decide +kernel
theorem dX0_letPass_8 : decode cX0_letPass 8 = .ok (.aload_n 1, 1) := by decide +kernel
theorem dX0_letPass_9 : decode cX0_letPass 9 = .ok (.invokevirtual 19, 3) := by decide +kernel
theorem dX0_letPass_12 : decode cX0_letPass 12 = .ok (.aload_n 1, 1) := by decide +kernel
theorem dX0_letPass_13 : decode cX0_letPass 13 = .ok (.invokevirtual 23, 3) := by decide +kernel
theorem dX0_letPass_16 : decode cX0_letPass 16 = .ok (.iinc 3 1, 3) := by decide +kernel
theorem dX0_letPass_19 : decode cX0_letPass 19 = .ok (.goto (-17), 3) := by decide +kernel
theorem dX0_letPass_22 : decode cX0_letPass 22 = .ok (.return_, 1) := by decide +kernel
theorem dX0_letOrdersBeCarriedOut_0 : decode cX0_letOrdersBeCarriedOut 0 = .ok (.aload_n 1, 1) := by decide +kernel
theorem dX0_letOrdersBeCarriedOut_1 : decode cX0_letOrdersBeCarriedOut 1 = .ok (.getfield 28, 3) := by decide +kernel
theorem dX0_letOrdersBeCarriedOut_4 : decode cX0_letOrdersBeCarriedOut 4 = .ok (.astore_n 2, 1) := by decide +kernel
theorem dX0_letOrdersBeCarriedOut_5 : decode cX0_letOrdersBeCarriedOut 5 = .ok (.iconst 0, 1) := by decide +kernel
theorem dX0_letOrdersBeCarriedOut_6 : decode cX0_letOrdersBeCarriedOut 6 = .ok (.istore_n 3, 1) := by decide +kernel
theorem dX0_letOrdersBeCarriedOut_7 : decode cX0_letOrdersBeCarriedOut 7 = .ok (.iconst 0, 1) := by decide +kernel
theorem dX0_letOrdersBeCarriedOut_8 : decode cX0_letOrdersBeCarriedOut 8 = .ok (.istore 4, 2) := by decide +kernel
theorem dX0_letOrdersBeCarriedOut_10 : decode cX0_letOrdersBeCarriedOut 10 = .ok (.iload 4, 2) := by decide +kernel
theorem dX0_letOrdersBeCarriedOut_12 : decode cX0_letOrdersBeCarriedOut 12 = .ok (.aload_n 2, 1) := by decide +kernel
theorem dX0_letOrdersBeCarriedOut_13 : decode cX0_letOrdersBeCarriedOut 13 = .ok (.getfield 32, 3) := by decide +kernel
theorem dX0_letOrdersBeCarriedOut_16 : decode cX0_letOrdersBeCarriedOut 16 = .ok (.if_icmp .ge 63, 3) := by decide +kernel
theorem dX0_letOrdersBeCarriedOut_19 : decode cX0_letOrdersBeCarriedOut 19 = .ok (.aload_n 2, 1) := by decide +kernel
theorem dX0_letOrdersBeCarriedOut_20 : decode cX0_letOrdersBeCarriedOut 20 = .ok (.getfield 37, 3) := by decide +kernel
theorem dX0_letOrdersBeCarriedOut_23 : decode cX0_letOrdersBeCarriedOut 23 = .ok (.iload 4, 2) := by decide +kernel
theorem dX0_letOrdersBeCarriedOut_25 : decode cX0_letOrdersBeCarriedOut 25 = .ok (.iaload, 1) := by decide +kernel
theorem dX0_letOrdersBeCarriedOut_26 : decode cX0_letOrdersBeCarriedOut 26 = .ok (.istore 5, 2) := by decide +kernel
theorem dX0_letOrdersBeCarriedOut_28 : decode cX0_letOrdersBeCarriedOut 28 = .ok (.aload_n 2, 1) := by decide +kernel
theorem dX0_letOrdersBeCarriedOut_29 : decode cX0_letOrdersBeCarriedOut 29 = .ok (.getfield 40, 3) := by decide +kernel
theorem dX0_letOrdersBeCarriedOut_32 : decode cX0_letOrdersBeCarriedOut 32 = .ok (.iload 4, 2) := by decide +kernel
theorem dX0_letOrdersBeCarriedOut_34 : decode cX0_letOrdersBeCarriedOut 34 = .ok (.iaload, 1) := by decide +kernel
theorem dX0_letOrdersBeCarriedOut_35 : decode cX0_letOrdersBeCarriedOut 35 = .ok (.istore 6, 2) := by decide +kernel
theorem dX0_letOrdersBeCarriedOut_37 : decode cX0_letOrdersBeCarriedOut 37 = .ok (.iload 5, 2) := by decide +kernel
theorem dX0_letOrdersBeCarriedOut_39 : decode cX0_letOrdersBeCarriedOut 39 = .ok (.iload 6, 2) := by decide +kernel
theorem dX0_letOrdersBeCarriedOut_41 : decode cX0_letOrdersBeCarriedOut 41 = .ok (.if_icmp .eq 15, 3) := by decide +kernel
theorem dX0_letOrdersBeCarriedOut_44 : decode cX0_letOrdersBeCarriedOut 44 = .ok (.aload_n 0, 1) := by decide +kernel
theorem dX0_letOrdersBeCarriedOut_45 : decode cX0_letOrdersBeCarriedOut 45 = .ok (.aload_n 1, 1) := by decide +kernel
theorem dX0_letOrdersBeCarriedOut_46 : decode cX0_letOrdersBeCarriedOut 46 = .ok (.iload 5, 2) := by decide +kernel
theorem dX0_letOrdersBeCarriedOut_48 : decode cX0_letOrdersBeCarriedOut 48 = .ok (.iload 6, 2) := by decide +kernel
theorem dX0_letOrdersBeCarriedOut_50 : decode cX0_letOrdersBeCarriedOut 50 = .ok (.invokevirtual 43, 3) := by decide +kernel
theorem dX0_letOrdersBeCarriedOut_53 : decode cX0_letOrdersBeCarriedOut 53 = .ok (.ifCond .eq 17, 3) := by decide +kernel
theorem dX0_letOrdersBeCarriedOut_56 : decode cX0_letOrdersBeCarriedOut 56 = .ok (.aload_n 1, 1) := by decide +kernel
theorem dX0_letOrdersBeCarriedOut_57 : decode cX0_letOrdersBeCarriedOut 57 = .ok (.iload 4, 2) := by decide +kernel
theorem dX0_letOrdersBeCarriedOut_59 : decode cX0_letOrdersBeCarriedOut 59 = .ok (.aload_n 0, 1) := by decide +kernel
theorem dX0_letOrdersBeCarriedOut_60 : decode cX0_letOrdersBeCarriedOut 60 = .ok (.aload_n 1, 1) := by decide +kernel
theorem dX0_letOrdersBeCarriedOut_61 : decode cX0_letOrdersBeCarriedOut 61 = .ok (.iload_n 3, 1) := by decide +kernel
theorem dX0_letOrdersBeCarriedOut_62 : decode cX0_letOrdersBeCarriedOut 62 = .ok (.iload 5, 2) := by decide +kernel
theorem dX0_letOrdersBeCarriedOut_64 : decode cX0_letOrdersBeCarriedOut 64 = .ok (.invokevirtual 43, 3) := by decide +kernel
theorem dX0_letOrdersBeCarriedOut_67 : decode cX0_letOrdersBeCarriedOut 67 = .ok (.invokevirtual 47, 3) := by decide +kernel
theorem dX0_letOrdersBeCarriedOut_70 : decode cX0_letOrdersBeCarriedOut 70 = .ok (.iload 6, 2) := by decide +kernel
theorem dX0_letOrdersBeCarriedOut_72 : decode cX0_letOrdersBeCarriedOut 72 = .ok (.istore_n 3, 1) := by decide +kernel
theorem dX0_letOrdersBeCarriedOut_73 : decode cX0_letOrdersBeCarriedOut 73 = .ok (.iinc 4 1, 3) := by decide +kernel
theorem dX0_letOrdersBeCarriedOut_76 : decode cX0_letOrdersBeCarriedOut 76 = .ok (.goto (-66), 3) := by decide +kernel
theorem dX0_letOrdersBeCarriedOut_79 : decode cX0_letOrdersBeCarriedOut 79 = .ok (.return_, 1) := by decide +kernel
theorem dX0_reckoned_0 : decode cX0_reckoned 0 = .ok (.aload_n 1, 1) := by decide +kernel
theorem dX0_reckoned_1 : decode cX0_reckoned 1 = .ok (.getfield 28, 3) := by decide +kernel
theorem dX0_reckoned_4 : decode cX0_reckoned 4 = .ok (.getfield 51, 3) := by decide +kernel
theorem dX0_reckoned_7 : decode cX0_reckoned 7 = .ok (.astore 4, 2) := by decide +kernel
theorem dX0_reckoned_9 : decode cX0_reckoned 9 = .ok (.aload_n 0, 1) := by decide +kernel
theorem dX0_reckoned_10 : decode cX0_reckoned 10 = .ok (.iconst 0, 1) := by decide +kernel
theorem dX0_reckoned_11 : decode cX0_reckoned 11 = .ok (.putfield 15, 3) := by decide +kernel
theorem dX0_reckoned_14 : decode cX0_reckoned 14 = .ok (.iload_n 2, 1) := by decide +kernel
theorem dX0_reckoned_15 : decode cX0_reckoned 15 = .ok (.iconst 0, 1) := by decide +kernel
theorem dX0_reckoned_16 : decode cX0_reckoned 16 = .ok (.invokestatic 55, 3) := by decide +kernel
theorem dX0_reckoned_19 : decode cX0_reckoned 19 = .ok (.istore 5, 2) := by decide +kernel
theorem dX0_reckoned_21 : decode cX0_reckoned 21 = .ok (.iload 5, 2) := by decide +kernel
theorem dX0_reckoned_23 : decode cX0_reckoned 23 = .ok (.iload_n 3, 1) := by decide +kernel
theorem dX0_reckoned_24 : decode cX0_reckoned 24 = .ok (.if_icmp .ge 133, 3) := by decide +kernel
theorem dX0_reckoned_27 : decode cX0_reckoned 27 = .ok (.iload 5, 2) := by decide +kernel
theorem dX0_reckoned_29 : decode cX0_reckoned 29 = .ok (.aload 4, 2) := by decide +kernel
theorem dX0_reckoned_31 : decode cX0_reckoned 31 = .ok (.invokevirtual 61, 3) := by decide +kernel
theorem dX0_reckoned_34 : decode cX0_reckoned 34 = .ok (.if_icmp .ge 123, 3) := by decide +kernel
theorem dX0_reckoned_37 : decode cX0_reckoned 37 = .ok (.aload 4, 2) := by decide +kernel
theorem dX0_reckoned_39 : decode cX0_reckoned 39 = .ok (.getfield 67, 3) := by decide +kernel
theorem dX0_reckoned_42 : decode cX0_reckoned 42 = .ok (.iload 5, 2) := by decide +kernel
theorem dX0_reckoned_44 : decode cX0_reckoned 44 = .ok (.iaload, 1) := by decide +kernel
theorem dX0_reckoned_45 : decode cX0_reckoned 45 = .ok (.istore 6, 2) := by decide +kernel
theorem dX0_reckoned_47 : decode cX0_reckoned 47 = .ok (.iload 6, 2) := by decide +kernel
theorem dX0_reckoned_49 : decode cX0_reckoned 49 = .ok (.bipush 22, 2) := by decide +kernel
theorem dX0_reckoned_51 : decode cX0_reckoned 51 = .ok (.if_icmp .le 10, 3) := by decide +kernel
theorem dX0_reckoned_54 : decode cX0_reckoned 54 = .ok (.iload 6, 2) := by decide +kernel
theorem dX0_reckoned_56 : decode cX0_reckoned 56 = .ok (.bipush 29, 2) := by decide +kernel
theorem dX0_reckoned_58 : decode cX0_reckoned 58 = .ok (.if_icmp .ne 24, 3) := by decide +kernel
theorem dX0_reckoned_61 : decode cX0_reckoned 61 = .ok (.aload_n 0, 1) := by decide +kernel
theorem dX0_reckoned_62 : decode cX0_reckoned 62 = .ok (.aload_n 1, 1) := by decide +kernel
theorem dX0_reckoned_63 : decode cX0_reckoned 63 = .ok (.iload 6, 2) := by decide +kernel
theorem dX0_reckoned_65 : decode cX0_reckoned 65 = .ok (.aload 4, 2) := by decide +kernel
theorem dX0_reckoned_67 : decode cX0_reckoned 67 = .ok (.getfield 72, 3) := by decide +kernel
theorem dX0_reckoned_70 : decode cX0_reckoned 70 = .ok (.iload 5, 2) := by decide +kernel
theorem dX0_reckoned_72 : decode cX0_reckoned 72 = .ok (.iaload, 1) := by decide +kernel
theorem dX0_reckoned_73 : decode cX0_reckoned 73 = .ok (.invokestatic 75, 3) := by decide +kernel
theorem dX0_reckoned_76 : decode cX0_reckoned 76 = .ok (.invokevirtual 78, 3) := by decide +kernel
theorem dX0_reckoned_79 : decode cX0_reckoned 79 = .ok (.goto 72, 3) := by decide +kernel
theorem dX0_reckoned_82 : decode cX0_reckoned 82 = .ok (.iload 6, 2) := by decide +kernel
theorem dX0_reckoned_84 : decode cX0_reckoned 84 = .ok (.bipush 47, 2) := by decide +kernel
theorem dX0_reckoned_86 : decode cX0_reckoned 86 = .ok (.if_icmp .eq 10, 3) := by decide +kernel
theorem dX0_reckoned_89 : decode cX0_reckoned 89 = .ok (.iload 6, 2) := by decide +kernel
theorem dX0_reckoned_91 : decode cX0_reckoned 91 = .ok (.bipush 23, 2) := by decide +kernel
theorem dX0_reckoned_93 : decode cX0_reckoned 93 = .ok (.if_icmp .ne 33, 3) := by decide +kernel
theorem dX0_reckoned_96 : decode cX0_reckoned 96 = .ok (.aload_n 0, 1) := by decide +kernel
theorem dX0_reckoned_97 : decode cX0_reckoned 97 = .ok (.invokevirtual 82, 3) := by decide +kernel
theorem dX0_reckoned_100 : decode cX0_reckoned 100 = .ok (.istore 7, 2) := by decide +kernel
theorem dX0_reckoned_102 : decode cX0_reckoned 102 = .ok (.aload_n 0, 1) := by decide +kernel
theorem dX0_reckoned_103 : decode cX0_reckoned 103 = .ok (.iload 6, 2) := by decide +kernel
theorem dX0_reckoned_105 : decode cX0_reckoned 105 = .ok (.bipush 47, 2) := by decide +kernel
theorem dX0_reckoned_107 : decode cX0_reckoned 107 = .ok (.if_icmp .ne 9, 3) := by decide +kernel
theorem dX0_reckoned_110 : decode cX0_reckoned 110 = .ok (.iload 7, 2) := by decide +kernel
theorem dX0_reckoned_112 : decode cX0_reckoned 112 = .ok (.ineg, 1) := by decide +kernel
theorem dX0_reckoned_113 : decode cX0_reckoned 113 = .ok (.goto 7, 3) := by decide +kernel
theorem dX0_reckoned_116 : decode cX0_reckoned 116 = .ok (.iconst 1, 1) := by decide +kernel
theorem dX0_reckoned_117 : decode cX0_reckoned 117 = .ok (.iload 7, 2) := by decide +kernel
theorem dX0_reckoned_119 : decode cX0_reckoned 119 = .ok (.isub, 1) := by decide +kernel
theorem dX0_reckoned_120 : decode cX0_reckoned 120 = .ok (.invokevirtual 78, 3) := by decide +kernel
theorem dX0_reckoned_123 : decode cX0_reckoned 123 = .ok (.goto 28, 3) := by decide +kernel
theorem dX0_reckoned_126 : decode cX0_reckoned 126 = .ok (.aload_n 0, 1) := by decide +kernel
theorem dX0_reckoned_127 : decode cX0_reckoned 127 = .ok (.invokevirtual 82, 3) := by decide +kernel
theorem dX0_reckoned_130 : decode cX0_reckoned 130 = .ok (.istore 7, 2) := by decide +kernel
theorem dX0_reckoned_132 : decode cX0_reckoned 132 = .ok (.aload_n 0, 1) := by decide +kernel
theorem dX0_reckoned_133 : decode cX0_reckoned 133 = .ok (.invokevirtual 82, 3) := by decide +kernel
theorem dX0_reckoned_136 : decode cX0_reckoned 136 = .ok (.istore 8, 2) := by decide +kernel
theorem dX0_reckoned_138 : decode cX0_reckoned 138 = .ok (.aload_n 0, 1) := by decide +kernel
theorem dX0_reckoned_139 : decode cX0_reckoned 139 = .ok (.iload 6, 2) := by decide +kernel
theorem dX0_reckoned_141 : decode cX0_reckoned 141 = .ok (.iload 8, 2) := by decide +kernel
theorem dX0_reckoned_143 : decode cX0_reckoned 143 = .ok (.iload 7, 2) := by decide +kernel
theorem dX0_reckoned_145 : decode cX0_reckoned 145 = .ok (.invokestatic 85, 3) := by decide +kernel
theorem dX0_reckoned_148 : decode cX0_reckoned 148 = .ok (.invokevirtual 78, 3) := by decide +kernel
theorem dX0_reckoned_151 : decode cX0_reckoned 151 = .ok (.iinc 5 1, 3) := by decide +kernel
theorem dX0_reckoned_154 : decode cX0_reckoned 154 = .ok (.goto (-133), 3) := by decide +kernel
theorem dX0_reckoned_157 : decode cX0_reckoned 157 = .ok (.aload_n 0, 1) := by decide +kernel
theorem dX0_reckoned_158 : decode cX0_reckoned 158 = .ok (.invokevirtual 82, 3) := by decide +kernel
theorem dX0_reckoned_161 : decode cX0_reckoned 161 = .ok (.ireturn, 1) := by decide +kernel
theorem dX0_operandOf_0 : decode cX0_operandOf 0 = .ok (.iload_n 1, 1) := by decide +kernel
theorem dX0_operandOf_1 : decode cX0_operandOf 1 = .ok (.tableswitch 191 16 29 #[73, 78, 100, 122, 147, 169, 191, 191, 191, 191, 191, 191, 191, 71], 71) := by decide +kernel
theorem dX0_operandOf_72 : decode cX0_operandOf 72 = .ok (.iload_n 2, 1) := by decide +kernel
theorem dX0_operandOf_73 : decode cX0_operandOf 73 = .ok (.ireturn, 1) := by decide +kernel
theorem dX0_operandOf_74 : decode cX0_operandOf 74 = .ok (.aload_n 0, 1) := by decide +kernel
theorem dX0_operandOf_75 : decode cX0_operandOf 75 = .ok (.getfield 89, 3) := by decide +kernel
theorem dX0_operandOf_78 : decode cX0_operandOf 78 = .ok (.ireturn, 1) := by decide +kernel
theorem dX0_operandOf_79 : decode cX0_operandOf 79 = .ok (.aload_n 0, 1) := by decide +kernel
theorem dX0_operandOf_80 : decode cX0_operandOf 80 = .ok (.getfield 28, 3) := by decide +kernel
theorem dX0_operandOf_83 : decode cX0_operandOf 83 = .ok (.iload_n 2, 1) := by decide +kernel
theorem dX0_operandOf_84 : decode cX0_operandOf 84 = .ok (.invokevirtual 92, 3) := by decide +kernel
theorem dX0_operandOf_87 : decode cX0_operandOf 87 = .ok (.ifCond .eq 12, 3) := by decide +kernel
theorem dX0_operandOf_90 : decode cX0_operandOf 90 = .ok (.aload_n 0, 1) := by decide +kernel
theorem dX0_operandOf_91 : decode cX0_operandOf 91 = .ok (.getfield 96, 3) := by decide +kernel
theorem dX0_operandOf_94 : decode cX0_operandOf 94 = .ok (.iload_n 2, 1) := by decide +kernel
theorem dX0_operandOf_95 : decode cX0_operandOf 95 = .ok (.iaload, 1) := by decide +kernel
theorem dX0_operandOf_96 : decode cX0_operandOf 96 = .ok (.goto 4, 3) := by decide +kernel
theorem dX0_operandOf_99 : decode cX0_operandOf 99 = .ok (.iconst 0, 1) := by decide +kernel
theorem dX0_operandOf_100 : decode cX0_operandOf 100 = .ok (.ireturn, 1) := by decide +kernel
theorem dX0_operandOf_101 : decode cX0_operandOf 101 = .ok (.aload_n 0, 1) := by decide +kernel
theorem dX0_operandOf_102 : decode cX0_operandOf 102 = .ok (.getfield 28, 3) := by decide +kernel
theorem dX0_operandOf_105 : decode cX0_operandOf 105 = .ok (.iload_n 2, 1) := by decide +kernel
theorem dX0_operandOf_106 : decode cX0_operandOf 106 = .ok (.invokevirtual 92, 3) := by decide +kernel
theorem dX0_operandOf_109 : decode cX0_operandOf 109 = .ok (.ifCond .eq 12, 3) := by decide +kernel
theorem dX0_operandOf_112 : decode cX0_operandOf 112 = .ok (.aload_n 0, 1) := by decide +kernel
theorem dX0_operandOf_113 : decode cX0_operandOf 113 = .ok (.getfield 99, 3) := by decide +kernel
theorem dX0_operandOf_116 : decode cX0_operandOf 116 = .ok (.iload_n 2, 1) := by decide +kernel
theorem dX0_operandOf_117 : decode cX0_operandOf 117 = .ok (.iaload, 1) := by decide +kernel
theorem dX0_operandOf_118 : decode cX0_operandOf 118 = .ok (.goto 4, 3) := by decide +kernel
theorem dX0_operandOf_121 : decode cX0_operandOf 121 = .ok (.iconst 0, 1) := by decide +kernel
theorem dX0_operandOf_122 : decode cX0_operandOf 122 = .ok (.ireturn, 1) := by decide +kernel
theorem dX0_operandOf_123 : decode cX0_operandOf 123 = .ok (.aload_n 0, 1) := by decide +kernel
theorem dX0_operandOf_124 : decode cX0_operandOf 124 = .ok (.getfield 28, 3) := by decide +kernel
theorem dX0_operandOf_127 : decode cX0_operandOf 127 = .ok (.iload_n 2, 1) := by decide +kernel
theorem dX0_operandOf_128 : decode cX0_operandOf 128 = .ok (.invokevirtual 92, 3) := by decide +kernel
theorem dX0_operandOf_131 : decode cX0_operandOf 131 = .ok (.ifCond .eq 15, 3) := by decide +kernel
theorem dX0_operandOf_134 : decode cX0_operandOf 134 = .ok (.aload_n 0, 1) := by decide +kernel
theorem dX0_operandOf_135 : decode cX0_operandOf 135 = .ok (.getfield 96, 3) := by decide +kernel
theorem dX0_operandOf_138 : decode cX0_operandOf 138 = .ok (.iload_n 2, 1) := by decide +kernel
theorem dX0_operandOf_139 : decode cX0_operandOf 139 = .ok (.iaload, 1) := by decide +kernel
theorem dX0_operandOf_140 : decode cX0_operandOf 140 = .ok (.invokestatic 102, 3) := by decide +kernel
theorem dX0_operandOf_143 : decode cX0_operandOf 143 = .ok (.goto 4, 3) := by decide +kernel
theorem dX0_operandOf_146 : decode cX0_operandOf 146 = .ok (.iconst 0, 1) := by decide +kernel
theorem dX0_operandOf_147 : decode cX0_operandOf 147 = .ok (.ireturn, 1) := by decide +kernel
theorem dX0_operandOf_148 : decode cX0_operandOf 148 = .ok (.aload_n 0, 1) := by decide +kernel
theorem dX0_operandOf_149 : decode cX0_operandOf 149 = .ok (.getfield 28, 3) := by decide +kernel
theorem dX0_operandOf_152 : decode cX0_operandOf 152 = .ok (.iload_n 2, 1) := by decide +kernel
theorem dX0_operandOf_153 : decode cX0_operandOf 153 = .ok (.invokevirtual 108, 3) := by decide +kernel
theorem dX0_operandOf_156 : decode cX0_operandOf 156 = .ok (.ifCond .eq 12, 3) := by decide +kernel
theorem dX0_operandOf_159 : decode cX0_operandOf 159 = .ok (.aload_n 0, 1) := by decide +kernel
theorem dX0_operandOf_160 : decode cX0_operandOf 160 = .ok (.getfield 111, 3) := by decide +kernel
theorem dX0_operandOf_163 : decode cX0_operandOf 163 = .ok (.iload_n 2, 1) := by decide +kernel
theorem dX0_operandOf_164 : decode cX0_operandOf 164 = .ok (.iaload, 1) := by decide +kernel
theorem dX0_operandOf_165 : decode cX0_operandOf 165 = .ok (.goto 4, 3) := by decide +kernel
theorem dX0_operandOf_168 : decode cX0_operandOf 168 = .ok (.iconst 0, 1) := by decide +kernel
theorem dX0_operandOf_169 : decode cX0_operandOf 169 = .ok (.ireturn, 1) := by decide +kernel
theorem dX0_operandOf_170 : decode cX0_operandOf 170 = .ok (.aload_n 0, 1) := by decide +kernel
theorem dX0_operandOf_171 : decode cX0_operandOf 171 = .ok (.getfield 28, 3) := by decide +kernel
theorem dX0_operandOf_174 : decode cX0_operandOf 174 = .ok (.iload_n 2, 1) := by decide +kernel
theorem dX0_operandOf_175 : decode cX0_operandOf 175 = .ok (.invokevirtual 114, 3) := by decide +kernel
theorem dX0_operandOf_178 : decode cX0_operandOf 178 = .ok (.ifCond .eq 12, 3) := by decide +kernel
theorem dX0_operandOf_181 : decode cX0_operandOf 181 = .ok (.aload_n 0, 1) := by decide +kernel
theorem dX0_operandOf_182 : decode cX0_operandOf 182 = .ok (.getfield 117, 3) := by decide +kernel
theorem dX0_operandOf_185 : decode cX0_operandOf 185 = .ok (.iload_n 2, 1) := by decide +kernel
theorem dX0_operandOf_186 : decode cX0_operandOf 186 = .ok (.iaload, 1) := by decide +kernel
theorem dX0_operandOf_187 : decode cX0_operandOf 187 = .ok (.goto 4, 3) := by decide +kernel
theorem dX0_operandOf_190 : decode cX0_operandOf 190 = .ok (.iconst 0, 1) := by decide +kernel
theorem dX0_operandOf_191 : decode cX0_operandOf 191 = .ok (.ireturn, 1) := by decide +kernel
theorem dX0_operandOf_192 : decode cX0_operandOf 192 = .ok (.aload_n 0, 1) := by decide +kernel
theorem dX0_operandOf_193 : decode cX0_operandOf 193 = .ok (.getfield 28, 3) := by decide +kernel
theorem dX0_operandOf_196 : decode cX0_operandOf 196 = .ok (.iload_n 2, 1) := by decide +kernel
theorem dX0_operandOf_197 : decode cX0_operandOf 197 = .ok (.invokevirtual 108, 3) := by decide +kernel
theorem dX0_operandOf_200 : decode cX0_operandOf 200 = .ok (.istore_n 3, 1) := by decide +kernel
theorem dX0_operandOf_201 : decode cX0_operandOf 201 = .ok (.iload_n 3, 1) := by decide +kernel
theorem dX0_operandOf_202 : decode cX0_operandOf 202 = .ok (.ifCond .eq 21, 3) := by decide +kernel
theorem dX0_operandOf_205 : decode cX0_operandOf 205 = .ok (.aload_n 0, 1) := by decide +kernel
theorem dX0_operandOf_206 : decode cX0_operandOf 206 = .ok (.getfield 111, 3) := by decide +kernel
theorem dX0_operandOf_209 : decode cX0_operandOf 209 = .ok (.iload_n 2, 1) := by decide +kernel
theorem dX0_operandOf_210 : decode cX0_operandOf 210 = .ok (.iaload, 1) := by decide +kernel
theorem dX0_operandOf_211 : decode cX0_operandOf 211 = .ok (.aload_n 0, 1) := by decide +kernel
theorem dX0_operandOf_212 : decode cX0_operandOf 212 = .ok (.iload_n 2, 1) := by decide +kernel
theorem dX0_operandOf_213 : decode cX0_operandOf 213 = .ok (.invokevirtual 120, 3) := by decide +kernel
theorem dX0_operandOf_216 : decode cX0_operandOf 216 = .ok (.if_icmp .eq 7, 3) := by decide +kernel
theorem dX0_operandOf_219 : decode cX0_operandOf 219 = .ok (.iconst 1, 1) := by decide +kernel
theorem dX0_operandOf_220 : decode cX0_operandOf 220 = .ok (.goto 4, 3) := by decide +kernel
theorem dX0_operandOf_223 : decode cX0_operandOf 223 = .ok (.iconst 0, 1) := by decide +kernel
theorem dX0_operandOf_224 : decode cX0_operandOf 224 = .ok (.ireturn, 1) := by decide +kernel
theorem dX0_joined_0 : decode cX0_joined 0 = .ok (.iload_n 0, 1) := by decide +kernel
theorem dX0_joined_1 : decode cX0_joined 1 = .ok (.tableswitch 123 24 39 #[115, 119, 103, 109, 123, 123, 123, 123, 123, 123, 123, 123, 79, 83, 87, 91], 79) := by decide +kernel
theorem dX0_joined_80 : decode cX0_joined 80 = .ok (.iload_n 1, 1) := by decide +kernel
theorem dX0_joined_81 : decode cX0_joined 81 = .ok (.iload_n 2, 1) := by decide +kernel
theorem dX0_joined_82 : decode cX0_joined 82 = .ok (.iadd, 1) := by decide +kernel
theorem dX0_joined_83 : decode cX0_joined 83 = .ok (.ireturn, 1) := by decide +kernel
theorem dX0_joined_84 : decode cX0_joined 84 = .ok (.iload_n 1, 1) := by decide +kernel
theorem dX0_joined_85 : decode cX0_joined 85 = .ok (.iload_n 2, 1) := by decide +kernel
theorem dX0_joined_86 : decode cX0_joined 86 = .ok (.isub, 1) := by decide +kernel
theorem dX0_joined_87 : decode cX0_joined 87 = .ok (.ireturn, 1) := by decide +kernel
theorem dX0_joined_88 : decode cX0_joined 88 = .ok (.iload_n 1, 1) := by decide +kernel
theorem dX0_joined_89 : decode cX0_joined 89 = .ok (.iload_n 2, 1) := by decide +kernel
theorem dX0_joined_90 : decode cX0_joined 90 = .ok (.imul, 1) := by decide +kernel
theorem dX0_joined_91 : decode cX0_joined 91 = .ok (.ireturn, 1) := by decide +kernel
theorem dX0_joined_92 : decode cX0_joined 92 = .ok (.iload_n 2, 1) := by decide +kernel
theorem dX0_joined_93 : decode cX0_joined 93 = .ok (.ifCond .ne 7, 3) := by decide +kernel
theorem dX0_joined_96 : decode cX0_joined 96 = .ok (.iconst 0, 1) := by decide +kernel
theorem dX0_joined_97 : decode cX0_joined 97 = .ok (.goto 6, 3) := by decide +kernel
theorem dX0_joined_100 : decode cX0_joined 100 = .ok (.iload_n 1, 1) := by decide +kernel
theorem dX0_joined_101 : decode cX0_joined 101 = .ok (.iload_n 2, 1) := by decide +kernel
theorem dX0_joined_102 : decode cX0_joined 102 = .ok (.idiv, 1) := by decide +kernel
theorem dX0_joined_103 : decode cX0_joined 103 = .ok (.ireturn, 1) := by decide +kernel
theorem dX0_joined_104 : decode cX0_joined 104 = .ok (.iload_n 1, 1) := by decide +kernel
theorem dX0_joined_105 : decode cX0_joined 105 = .ok (.iload_n 2, 1) := by decide +kernel
theorem dX0_joined_106 : decode cX0_joined 106 = .ok (.invokestatic 123, 3) := by decide +kernel
theorem dX0_joined_109 : decode cX0_joined 109 = .ok (.ireturn, 1) := by decide +kernel
theorem dX0_joined_110 : decode cX0_joined 110 = .ok (.iload_n 1, 1) := by decide +kernel
theorem dX0_joined_111 : decode cX0_joined 111 = .ok (.iload_n 2, 1) := by decide +kernel
theorem dX0_joined_112 : decode cX0_joined 112 = .ok (.invokestatic 55, 3) := by decide +kernel
theorem dX0_joined_115 : decode cX0_joined 115 = .ok (.ireturn, 1) := by decide +kernel
theorem dX0_joined_116 : decode cX0_joined 116 = .ok (.iload_n 1, 1) := by decide +kernel
theorem dX0_joined_117 : decode cX0_joined 117 = .ok (.iload_n 2, 1) := by decide +kernel
theorem dX0_joined_118 : decode cX0_joined 118 = .ok (.iand, 1) := by decide +kernel
theorem dX0_joined_119 : decode cX0_joined 119 = .ok (.ireturn, 1) := by decide +kernel
theorem dX0_joined_120 : decode cX0_joined 120 = .ok (.iload_n 1, 1) := by decide +kernel
theorem dX0_joined_121 : decode cX0_joined 121 = .ok (.iload_n 2, 1) := by decide +kernel
theorem dX0_joined_122 : decode cX0_joined 122 = .ok (.ior, 1) := by decide +kernel
theorem dX0_joined_123 : decode cX0_joined 123 = .ok (.ireturn, 1) := by decide +kernel
theorem dX0_joined_124 : decode cX0_joined 124 = .ok (.iload_n 0, 1) := by decide +kernel
theorem dX0_joined_125 : decode cX0_joined 125 = .ok (.iload_n 1, 1) := by decide +kernel
theorem dX0_joined_126 : decode cX0_joined 126 = .ok (.iload_n 2, 1) := by decide +kernel
theorem dX0_joined_127 : decode cX0_joined 127 = .ok (.invokestatic 126, 3) := by decide +kernel
theorem dX0_joined_130 : decode cX0_joined 130 = .ok (.ifCond .eq 7, 3) := by decide +kernel
theorem dX0_joined_133 : decode cX0_joined 133 = .ok (.iconst 1, 1) := by decide +kernel
theorem dX0_joined_134 : decode cX0_joined 134 = .ok (.goto 4, 3) := by decide +kernel
theorem dX0_joined_137 : decode cX0_joined 137 = .ok (.iconst 0, 1) := by decide +kernel
theorem dX0_joined_138 : decode cX0_joined 138 = .ok (.ireturn, 1) := by decide +kernel
theorem dX0_compares_0 : decode cX0_compares 0 = .ok (.iload_n 0, 1) := by decide +kernel
theorem dX0_compares_1 : decode cX0_compares 1 = .ok (.tableswitch 75 40 43 #[31, 42, 53, 64], 31) := by decide +kernel
theorem dX0_compares_32 : decode cX0_compares 32 = .ok (.iload_n 1, 1) := by decide +kernel
theorem dX0_compares_33 : decode cX0_compares 33 = .ok (.iload_n 2, 1) := by decide +kernel
theorem dX0_compares_34 : decode cX0_compares 34 = .ok (.if_icmp .ge 7, 3) := by decide +kernel
theorem dX0_compares_37 : decode cX0_compares 37 = .ok (.iconst 1, 1) := by decide +kernel
theorem dX0_compares_38 : decode cX0_compares 38 = .ok (.goto 4, 3) := by decide +kernel
theorem dX0_compares_41 : decode cX0_compares 41 = .ok (.iconst 0, 1) := by decide +kernel
theorem dX0_compares_42 : decode cX0_compares 42 = .ok (.ireturn, 1) := by decide +kernel
theorem dX0_compares_43 : decode cX0_compares 43 = .ok (.iload_n 1, 1) := by decide +kernel
theorem dX0_compares_44 : decode cX0_compares 44 = .ok (.iload_n 2, 1) := by decide +kernel
theorem dX0_compares_45 : decode cX0_compares 45 = .ok (.if_icmp .le 7, 3) := by decide +kernel
theorem dX0_compares_48 : decode cX0_compares 48 = .ok (.iconst 1, 1) := by decide +kernel
theorem dX0_compares_49 : decode cX0_compares 49 = .ok (.goto 4, 3) := by decide +kernel
theorem dX0_compares_52 : decode cX0_compares 52 = .ok (.iconst 0, 1) := by decide +kernel
theorem dX0_compares_53 : decode cX0_compares 53 = .ok (.ireturn, 1) := by decide +kernel
theorem dX0_compares_54 : decode cX0_compares 54 = .ok (.iload_n 1, 1) := by decide +kernel
theorem dX0_compares_55 : decode cX0_compares 55 = .ok (.iload_n 2, 1) := by decide +kernel
theorem dX0_compares_56 : decode cX0_compares 56 = .ok (.if_icmp .ne 7, 3) := by decide +kernel
theorem dX0_compares_59 : decode cX0_compares 59 = .ok (.iconst 1, 1) := by decide +kernel
theorem dX0_compares_60 : decode cX0_compares 60 = .ok (.goto 4, 3) := by decide +kernel
theorem dX0_compares_63 : decode cX0_compares 63 = .ok (.iconst 0, 1) := by decide +kernel
theorem dX0_compares_64 : decode cX0_compares 64 = .ok (.ireturn, 1) := by decide +kernel
theorem dX0_compares_65 : decode cX0_compares 65 = .ok (.iload_n 1, 1) := by decide +kernel
theorem dX0_compares_66 : decode cX0_compares 66 = .ok (.iload_n 2, 1) := by decide +kernel
theorem dX0_compares_67 : decode cX0_compares 67 = .ok (.if_icmp .gt 7, 3) := by decide +kernel
theorem dX0_compares_70 : decode cX0_compares 70 = .ok (.iconst 1, 1) := by decide +kernel
theorem dX0_compares_71 : decode cX0_compares 71 = .ok (.goto 4, 3) := by decide +kernel
theorem dX0_compares_74 : decode cX0_compares 74 = .ok (.iconst 0, 1) := by decide +kernel
theorem dX0_compares_75 : decode cX0_compares 75 = .ok (.ireturn, 1) := by decide +kernel
theorem dX0_compares_76 : decode cX0_compares 76 = .ok (.iload_n 1, 1) := by decide +kernel
theorem dX0_compares_77 : decode cX0_compares 77 = .ok (.iload_n 2, 1) := by decide +kernel
theorem dX0_compares_78 : decode cX0_compares 78 = .ok (.if_icmp .lt 7, 3) := by decide +kernel
theorem dX0_compares_81 : decode cX0_compares 81 = .ok (.iconst 1, 1) := by decide +kernel
theorem dX0_compares_82 : decode cX0_compares 82 = .ok (.goto 4, 3) := by decide +kernel
theorem dX0_compares_85 : decode cX0_compares 85 = .ok (.iconst 0, 1) := by decide +kernel
theorem dX0_compares_86 : decode cX0_compares 86 = .ok (.ireturn, 1) := by decide +kernel
theorem dX0_push_0 : decode cX0_push 0 = .ok (.aload_n 0, 1) := by decide +kernel
theorem dX0_push_1 : decode cX0_push 1 = .ok (.getfield 15, 3) := by decide +kernel
theorem dX0_push_4 : decode cX0_push 4 = .ok (.aload_n 0, 1) := by decide +kernel
theorem dX0_push_5 : decode cX0_push 5 = .ok (.getfield 9, 3) := by decide +kernel
theorem dX0_push_8 : decode cX0_push 8 = .ok (.arraylength, 1) := by decide +kernel
theorem dX0_push_9 : decode cX0_push 9 = .ok (.if_icmp .ge 23, 3) := by decide +kernel
theorem dX0_push_12 : decode cX0_push 12 = .ok (.aload_n 0, 1) := by decide +kernel
theorem dX0_push_13 : decode cX0_push 13 = .ok (.getfield 9, 3) := by decide +kernel
theorem dX0_push_16 : decode cX0_push 16 = .ok (.aload_n 0, 1) := by decide +kernel
theorem dX0_push_17 : decode cX0_push 17 = .ok (.getfield 15, 3) := by decide +kernel
theorem dX0_push_20 : decode cX0_push 20 = .ok (.iload_n 1, 1) := by decide +kernel
theorem dX0_push_21 : decode cX0_push 21 = .ok (.iastore, 1) := by decide +kernel
theorem dX0_push_22 : decode cX0_push 22 = .ok (.aload_n 0, 1) := by decide +kernel
theorem dX0_push_23 : decode cX0_push 23 = .ok (.dup, 1) := by decide +kernel
theorem dX0_push_24 : decode cX0_push 24 = .ok (.getfield 15, 3) := by decide +kernel
theorem dX0_push_27 : decode cX0_push 27 = .ok (.iconst 1, 1) := by decide +kernel
theorem dX0_push_28 : decode cX0_push 28 = .ok (.iadd, 1) := by decide +kernel
theorem dX0_push_29 : decode cX0_push 29 = .ok (.putfield 15, 3) := by decide +kernel
theorem dX0_push_32 : decode cX0_push 32 = .ok (.return_, 1) := by decide +kernel
theorem dX0_pop_0 : decode cX0_pop 0 = .ok (.aload_n 0, 1) := by decide +kernel
theorem dX0_pop_1 : decode cX0_pop 1 = .ok (.getfield 15, 3) := by decide +kernel
theorem dX0_pop_4 : decode cX0_pop 4 = .ok (.ifCond .gt 5, 3) := by decide +kernel
theorem dX0_pop_7 : decode cX0_pop 7 = .ok (.iconst 0, 1) := by decide +kernel
theorem dX0_pop_8 : decode cX0_pop 8 = .ok (.ireturn, 1) := by decide +kernel
theorem dX0_pop_9 : decode cX0_pop 9 = .ok (.aload_n 0, 1) := by decide +kernel
theorem dX0_pop_10 : decode cX0_pop 10 = .ok (.dup, 1) := by decide +kernel
theorem dX0_pop_11 : decode cX0_pop 11 = .ok (.getfield 15, 3) := by decide +kernel
theorem dX0_pop_14 : decode cX0_pop 14 = .ok (.iconst 1, 1) := by decide +kernel
theorem dX0_pop_15 : decode cX0_pop 15 = .ok (.isub, 1) := by decide +kernel
theorem dX0_pop_16 : decode cX0_pop 16 = .ok (.putfield 15, 3) := by decide +kernel
theorem dX0_pop_19 : decode cX0_pop 19 = .ok (.aload_n 0, 1) := by decide +kernel
theorem dX0_pop_20 : decode cX0_pop 20 = .ok (.getfield 9, 3) := by decide +kernel
theorem dX0_pop_23 : decode cX0_pop 23 = .ok (.aload_n 0, 1) := by decide +kernel
theorem dX0_pop_24 : decode cX0_pop 24 = .ok (.getfield 15, 3) := by decide +kernel
theorem dX0_pop_27 : decode cX0_pop 27 = .ok (.iaload, 1) := by decide +kernel
theorem dX0_pop_28 : decode cX0_pop 28 = .ok (.ireturn, 1) := by decide +kernel
theorem dX1_init_0 : decode cX1_init 0 = .ok (.aload_n 0, 1) := by decide +kernel
theorem dX1_init_1 : decode cX1_init 1 = .ok (.invokespecial 1, 3) := by decide +kernel
theorem dX1_init_4 : decode cX1_init 4 = .ok (.aload_n 0, 1) := by decide +kernel
theorem dX1_init_5 : decode cX1_init 5 = .ok (.sipush 400, 3) := by decide +kernel
theorem dX1_init_8 : decode cX1_init 8 = .ok (.newarray .int, 2) := by decide +kernel
theorem dX1_init_10 : decode cX1_init 10 = .ok (.putfield 9, 3) := by decide +kernel
theorem dX1_init_13 : decode cX1_init 13 = .ok (.aload_n 0, 1) := by decide +kernel
theorem dX1_init_14 : decode cX1_init 14 = .ok (.sipush 400, 3) := by decide +kernel
theorem dX1_init_17 : decode cX1_init 17 = .ok (.newarray .int, 2) := by decide +kernel
theorem dX1_init_19 : decode cX1_init 19 = .ok (.putfield 15, 3) := by decide +kernel
theorem dX1_init_22 : decode cX1_init 22 = .ok (.aload_n 0, 1) := by decide +kernel
theorem dX1_init_23 : decode cX1_init 23 = .ok (.iconst 0, 1) := by decide +kernel
theorem dX1_init_24 : decode cX1_init 24 = .ok (.putfield 18, 3) := by decide +kernel
theorem dX1_init_27 : decode cX1_init 27 = .ok (.return_, 1) := by decide +kernel
theorem dX1_length_0 : decode cX1_length 0 = .ok (.aload_n 0, 1) := by decide +kernel
theorem dX1_length_1 : decode cX1_length 1 = .ok (.getfield 18, 3) := by decide +kernel
theorem dX1_length_4 : decode cX1_length 4 = .ok (.ireturn, 1) := by decide +kernel
theorem dX1_clear_0 : decode cX1_clear 0 = .ok (.aload_n 0, 1) := by decide +kernel
theorem dX1_clear_1 : decode cX1_clear 1 = .ok (.iconst 0, 1) := by decide +kernel
theorem dX1_clear_2 : decode cX1_clear 2 = .ok (.putfield 18, 3) := by decide +kernel
theorem dX1_clear_5 : decode cX1_clear 5 = .ok (.return_, 1) := by decide +kernel
theorem dX1_append_0 : decode cX1_append 0 = .ok (.aload_n 0, 1) := by decide +kernel
theorem dX1_append_1 : decode cX1_append 1 = .ok (.getfield 18, 3) := by decide +kernel
theorem dX1_append_4 : decode cX1_append 4 = .ok (.sipush 400, 3) := by decide +kernel
theorem dX1_append_7 : decode cX1_append 7 = .ok (.if_icmp .lt 5, 3) := by decide +kernel
theorem dX1_append_10 : decode cX1_append 10 = .ok (.iconst 0, 1) := by decide +kernel
theorem dX1_append_11 : decode cX1_append 11 = .ok (.ireturn, 1) := by decide +kernel
theorem dX1_append_12 : decode cX1_append 12 = .ok (.aload_n 0, 1) := by decide +kernel
theorem dX1_append_13 : decode cX1_append 13 = .ok (.getfield 9, 3) := by decide +kernel
theorem dX1_append_16 : decode cX1_append 16 = .ok (.aload_n 0, 1) := by decide +kernel
theorem dX1_append_17 : decode cX1_append 17 = .ok (.getfield 18, 3) := by decide +kernel
theorem dX1_append_20 : decode cX1_append 20 = .ok (.iload_n 1, 1) := by decide +kernel
theorem dX1_append_21 : decode cX1_append 21 = .ok (.iastore, 1) := by decide +kernel
theorem dX1_append_22 : decode cX1_append 22 = .ok (.aload_n 0, 1) := by decide +kernel
theorem dX1_append_23 : decode cX1_append 23 = .ok (.getfield 15, 3) := by decide +kernel
theorem dX1_append_26 : decode cX1_append 26 = .ok (.aload_n 0, 1) := by decide +kernel
theorem dX1_append_27 : decode cX1_append 27 = .ok (.getfield 18, 3) := by decide +kernel
theorem dX1_append_30 : decode cX1_append 30 = .ok (.iload_n 2, 1) := by decide +kernel
theorem dX1_append_31 : decode cX1_append 31 = .ok (.iastore, 1) := by decide +kernel
theorem dX1_append_32 : decode cX1_append 32 = .ok (.aload_n 0, 1) := by decide +kernel
theorem dX1_append_33 : decode cX1_append 33 = .ok (.dup, 1) := by decide +kernel
theorem dX1_append_34 : decode cX1_append 34 = .ok (.getfield 18, 3) := by decide +kernel
theorem dX1_append_37 : decode cX1_append 37 = .ok (.iconst 1, 1) := by decide +kernel
theorem dX1_append_38 : decode cX1_append 38 = .ok (.iadd, 1) := by decide +kernel
theorem dX1_append_39 : decode cX1_append 39 = .ok (.putfield 18, 3) := by decide +kernel
theorem dX1_append_42 : decode cX1_append 42 = .ok (.iconst 1, 1) := by decide +kernel
theorem dX1_append_43 : decode cX1_append 43 = .ok (.ireturn, 1) := by decide +kernel
theorem dX3_knotsOf_0 : decode cX3_knotsOf 0 = .ok (.iload_n 0, 1) := by decide +kernel
theorem dX3_knotsOf_1 : decode cX3_knotsOf 1 = .ok (.bipush 10, 2) := by decide +kernel
theorem dX3_knotsOf_3 : decode cX3_knotsOf 3 = .ok (.irem, 1) := by decide +kernel
theorem dX3_knotsOf_4 : decode cX3_knotsOf 4 = .ok (.ifCond .ne 7, 3) := by decide +kernel
theorem dX3_knotsOf_7 : decode cX3_knotsOf 7 = .ok (.iconst 0, 1) := by decide +kernel
theorem dX3_knotsOf_8 : decode cX3_knotsOf 8 = .ok (.goto 4, 3) := by decide +kernel
theorem dX3_knotsOf_11 : decode cX3_knotsOf 11 = .ok (.iconst 1, 1) := by decide +kernel
theorem dX3_knotsOf_12 : decode cX3_knotsOf 12 = .ok (.iload_n 0, 1) := by decide +kernel
theorem dX3_knotsOf_13 : decode cX3_knotsOf 13 = .ok (.invokestatic 7, 3) := by decide +kernel
theorem dX3_knotsOf_16 : decode cX3_knotsOf 16 = .ok (.iadd, 1) := by decide +kernel
theorem dX3_knotsOf_17 : decode cX3_knotsOf 17 = .ok (.ireturn, 1) := by decide +kernel
theorem dX3_turnsOf_0 : decode cX3_turnsOf 0 = .ok (.iload_n 0, 1) := by decide +kernel
theorem dX3_turnsOf_1 : decode cX3_turnsOf 1 = .ok (.bipush 10, 2) := by decide +kernel
theorem dX3_turnsOf_3 : decode cX3_turnsOf 3 = .ok (.irem, 1) := by decide +kernel
theorem dX3_turnsOf_4 : decode cX3_turnsOf 4 = .ok (.istore_n 1, 1) := by decide +kernel
theorem dX3_turnsOf_5 : decode cX3_turnsOf 5 = .ok (.iload_n 1, 1) := by decide +kernel
theorem dX3_turnsOf_6 : decode cX3_turnsOf 6 = .ok (.iconst 1, 1) := by decide +kernel
theorem dX3_turnsOf_7 : decode cX3_turnsOf 7 = .ok (.if_icmp .ne 7, 3) := by decide +kernel
theorem dX3_turnsOf_10 : decode cX3_turnsOf 10 = .ok (.iconst 2, 1) := by decide +kernel
theorem dX3_turnsOf_11 : decode cX3_turnsOf 11 = .ok (.goto 4, 3) := by decide +kernel
theorem dX3_turnsOf_14 : decode cX3_turnsOf 14 = .ok (.iload_n 1, 1) := by decide +kernel
theorem dX3_turnsOf_15 : decode cX3_turnsOf 15 = .ok (.iload_n 0, 1) := by decide +kernel
theorem dX3_turnsOf_16 : decode cX3_turnsOf 16 = .ok (.invokestatic 7, 3) := by decide +kernel
theorem dX3_turnsOf_19 : decode cX3_turnsOf 19 = .ok (.iadd, 1) := by decide +kernel
theorem dX3_turnsOf_20 : decode cX3_turnsOf 20 = .ok (.ireturn, 1) := by decide +kernel
theorem dX3_digitOf_0 : decode cX3_digitOf 0 = .ok (.iload_n 0, 1) := by decide +kernel
theorem dX3_digitOf_1 : decode cX3_digitOf 1 = .ok (.istore_n 2, 1) := by decide +kernel
theorem dX3_digitOf_2 : decode cX3_digitOf 2 = .ok (.iconst 0, 1) := by decide +kernel
theorem dX3_digitOf_3 : decode cX3_digitOf 3 = .ok (.istore_n 3, 1) := by decide +kernel
theorem dX3_digitOf_4 : decode cX3_digitOf 4 = .ok (.iload_n 3, 1) := by decide +kernel
theorem dX3_digitOf_5 : decode cX3_digitOf 5 = .ok (.iload_n 1, 1) := by decide +kernel
theorem dX3_digitOf_6 : decode cX3_digitOf 6 = .ok (.if_icmp .ge 20, 3) := by decide +kernel
theorem dX3_digitOf_9 : decode cX3_digitOf 9 = .ok (.iload_n 3, 1) := by decide +kernel
theorem dX3_digitOf_10 : decode cX3_digitOf 10 = .ok (.bipush 10, 2) := by decide +kernel
theorem dX3_digitOf_12 : decode cX3_digitOf 12 = .ok (.if_icmp .ge 14, 3) := by decide +kernel
theorem dX3_digitOf_15 : decode cX3_digitOf 15 = .ok (.iload_n 2, 1) := by decide +kernel
theorem dX3_digitOf_16 : decode cX3_digitOf 16 = .ok (.bipush 10, 2) := by decide +kernel
theorem dX3_digitOf_18 : decode cX3_digitOf 18 = .ok (.idiv, 1) := by decide +kernel
theorem dX3_digitOf_19 : decode cX3_digitOf 19 = .ok (.istore_n 2, 1) := by decide +kernel
theorem dX3_digitOf_20 : decode cX3_digitOf 20 = .ok (.iinc 3 1, 3) := by decide +kernel
theorem dX3_digitOf_23 : decode cX3_digitOf 23 = .ok (.goto (-19), 3) := by decide +kernel
theorem dX3_digitOf_26 : decode cX3_digitOf 26 = .ok (.iload_n 2, 1) := by decide +kernel
theorem dX3_digitOf_27 : decode cX3_digitOf 27 = .ok (.bipush 10, 2) := by decide +kernel
theorem dX3_digitOf_29 : decode cX3_digitOf 29 = .ok (.irem, 1) := by decide +kernel
theorem dX3_digitOf_30 : decode cX3_digitOf 30 = .ok (.ireturn, 1) := by decide +kernel
theorem dX3_eaten_0 : decode cX3_eaten 0 = .ok (.iload_n 0, 1) := by decide +kernel
theorem dX3_eaten_1 : decode cX3_eaten 1 = .ok (.bipush 10, 2) := by decide +kernel
theorem dX3_eaten_3 : decode cX3_eaten 3 = .ok (.if_icmp .ge 5, 3) := by decide +kernel
theorem dX3_eaten_6 : decode cX3_eaten 6 = .ok (.iconst 0, 1) := by decide +kernel
theorem dX3_eaten_7 : decode cX3_eaten 7 = .ok (.ireturn, 1) := by decide +kernel
theorem dX3_eaten_8 : decode cX3_eaten 8 = .ok (.bipush 10, 2) := by decide +kernel
theorem dX3_eaten_10 : decode cX3_eaten 10 = .ok (.istore_n 1, 1) := by decide +kernel
theorem dX3_eaten_11 : decode cX3_eaten 11 = .ok (.iconst 2, 1) := by decide +kernel
theorem dX3_eaten_12 : decode cX3_eaten 12 = .ok (.istore_n 2, 1) := by decide +kernel
theorem dX3_eaten_13 : decode cX3_eaten 13 = .ok (.iload_n 2, 1) := by decide +kernel
theorem dX3_eaten_14 : decode cX3_eaten 14 = .ok (.bipush 10, 2) := by decide +kernel
theorem dX3_eaten_16 : decode cX3_eaten 16 = .ok (.if_icmp .ge 22, 3) := by decide +kernel
theorem dX3_eaten_19 : decode cX3_eaten 19 = .ok (.iload_n 1, 1) := by decide +kernel
theorem dX3_eaten_20 : decode cX3_eaten 20 = .ok (.iload_n 0, 1) := by decide +kernel
theorem dX3_eaten_21 : decode cX3_eaten 21 = .ok (.bipush 10, 2) := by decide +kernel
theorem dX3_eaten_23 : decode cX3_eaten 23 = .ok (.idiv, 1) := by decide +kernel
theorem dX3_eaten_24 : decode cX3_eaten 24 = .ok (.if_icmp .gt 14, 3) := by decide +kernel
theorem dX3_eaten_27 : decode cX3_eaten 27 = .ok (.iload_n 1, 1) := by decide +kernel
theorem dX3_eaten_28 : decode cX3_eaten 28 = .ok (.bipush 10, 2) := by decide +kernel
theorem dX3_eaten_30 : decode cX3_eaten 30 = .ok (.imul, 1) := by decide +kernel
theorem dX3_eaten_31 : decode cX3_eaten 31 = .ok (.istore_n 1, 1) := by decide +kernel
theorem dX3_eaten_32 : decode cX3_eaten 32 = .ok (.iinc 2 1, 3) := by decide +kernel
theorem dX3_eaten_35 : decode cX3_eaten 35 = .ok (.goto (-22), 3) := by decide +kernel
theorem dX3_eaten_38 : decode cX3_eaten 38 = .ok (.iload_n 0, 1) := by decide +kernel
theorem dX3_eaten_39 : decode cX3_eaten 39 = .ok (.iload_n 1, 1) := by decide +kernel
theorem dX3_eaten_40 : decode cX3_eaten 40 = .ok (.isub, 1) := by decide +kernel
theorem dX3_eaten_41 : decode cX3_eaten 41 = .ok (.ireturn, 1) := by decide +kernel
theorem dX3_singleKnotsOf_0 : decode cX3_singleKnotsOf 0 = .ok (.iconst 0, 1) := by decide +kernel
theorem dX3_singleKnotsOf_1 : decode cX3_singleKnotsOf 1 = .ok (.istore_n 1, 1) := by decide +kernel
theorem dX3_singleKnotsOf_2 : decode cX3_singleKnotsOf 2 = .ok (.iload_n 0, 1) := by decide +kernel
theorem dX3_singleKnotsOf_3 : decode cX3_singleKnotsOf 3 = .ok (.bipush 10, 2) := by decide +kernel
theorem dX3_singleKnotsOf_5 : decode cX3_singleKnotsOf 5 = .ok (.idiv, 1) := by decide +kernel
theorem dX3_singleKnotsOf_6 : decode cX3_singleKnotsOf 6 = .ok (.istore_n 2, 1) := by decide +kernel
theorem dX3_singleKnotsOf_7 : decode cX3_singleKnotsOf 7 = .ok (.iconst 1, 1) := by decide +kernel
theorem dX3_singleKnotsOf_8 : decode cX3_singleKnotsOf 8 = .ok (.istore_n 3, 1) := by decide +kernel
theorem dX3_singleKnotsOf_9 : decode cX3_singleKnotsOf 9 = .ok (.iload_n 3, 1) := by decide +kernel
theorem dX3_singleKnotsOf_10 : decode cX3_singleKnotsOf 10 = .ok (.bipush 10, 2) := by decide +kernel
theorem dX3_singleKnotsOf_12 : decode cX3_singleKnotsOf 12 = .ok (.if_icmp .ge 21, 3) := by decide +kernel
theorem dX3_singleKnotsOf_15 : decode cX3_singleKnotsOf 15 = .ok (.iload_n 1, 1) := by decide +kernel
theorem dX3_singleKnotsOf_16 : decode cX3_singleKnotsOf 16 = .ok (.iload_n 2, 1) := by decide +kernel
theorem dX3_singleKnotsOf_17 : decode cX3_singleKnotsOf 17 = .ok (.bipush 10, 2) := by decide +kernel
theorem dX3_singleKnotsOf_19 : decode cX3_singleKnotsOf 19 = .ok (.irem, 1) := by decide +kernel
theorem dX3_singleKnotsOf_20 : decode cX3_singleKnotsOf 20 = .ok (.iadd, 1) := by decide +kernel
theorem dX3_singleKnotsOf_21 : decode cX3_singleKnotsOf 21 = .ok (.istore_n 1, 1) := by decide +kernel
theorem dX3_singleKnotsOf_22 : decode cX3_singleKnotsOf 22 = .ok (.iload_n 2, 1) := by decide +kernel
theorem dX3_singleKnotsOf_23 : decode cX3_singleKnotsOf 23 = .ok (.bipush 10, 2) := by decide +kernel
theorem dX3_singleKnotsOf_25 : decode cX3_singleKnotsOf 25 = .ok (.idiv, 1) := by decide +kernel
theorem dX3_singleKnotsOf_26 : decode cX3_singleKnotsOf 26 = .ok (.istore_n 2, 1) := by decide +kernel
theorem dX3_singleKnotsOf_27 : decode cX3_singleKnotsOf 27 = .ok (.iinc 3 1, 3) := by decide +kernel
theorem dX3_singleKnotsOf_30 : decode cX3_singleKnotsOf 30 = .ok (.goto (-21), 3) := by decide +kernel
theorem dX3_singleKnotsOf_33 : decode cX3_singleKnotsOf 33 = .ok (.iload_n 1, 1) := by decide +kernel
theorem dX3_singleKnotsOf_34 : decode cX3_singleKnotsOf 34 = .ok (.ireturn, 1) := by decide +kernel
theorem dX4_init_0 : decode cX4_init 0 = .ok (.aload_n 0, 1) := by decide +kernel
theorem dX4_init_1 : decode cX4_init 1 = .ok (.invokespecial 1, 3) := by decide +kernel
theorem dX4_init_4 : decode cX4_init 4 = .ok (.aload_n 0, 1) := by decide +kernel
theorem dX4_init_5 : decode cX4_init 5 = .ok (.sipush 401, 3) := by decide +kernel
theorem dX4_init_8 : decode cX4_init 8 = .ok (.newarray .int, 2) := by decide +kernel
theorem dX4_init_10 : decode cX4_init 10 = .ok (.putfield 9, 3) := by decide +kernel
theorem dX4_init_13 : decode cX4_init 13 = .ok (.aload_n 0, 1) := by decide +kernel
theorem dX4_init_14 : decode cX4_init 14 = .ok (.bipush 46, 2) := by decide +kernel
theorem dX4_init_16 : decode cX4_init 16 = .ok (.putfield 17, 3) := by decide +kernel
theorem dX4_init_19 : decode cX4_init 19 = .ok (.aload_n 0, 1) := by decide +kernel
theorem dX4_init_20 : decode cX4_init 20 = .ok (.iconst 0, 1) := by decide +kernel
theorem dX4_init_21 : decode cX4_init 21 = .ok (.putfield 21, 3) := by decide +kernel
theorem dX4_init_24 : decode cX4_init 24 = .ok (.aload_n 0, 1) := by decide +kernel
theorem dX4_init_25 : decode cX4_init 25 = .ok (.aload_n 1, 1) := by decide +kernel
theorem dX4_init_26 : decode cX4_init 26 = .ok (.putfield 24, 3) := by decide +kernel
theorem dX4_init_29 : decode cX4_init 29 = .ok (.aload_n 0, 1) := by decide +kernel
theorem dX4_init_30 : decode cX4_init 30 = .ok (.aload_n 2, 1) := by decide +kernel
theorem dX4_init_31 : decode cX4_init 31 = .ok (.putfield 28, 3) := by decide +kernel
theorem dX4_init_34 : decode cX4_init 34 = .ok (.return_, 1) := by decide +kernel
theorem dX4_firstFault_0 : decode cX4_firstFault 0 = .ok (.aload_n 0, 1) := by decide +kernel
theorem dX4_firstFault_1 : decode cX4_firstFault 1 = .ok (.aload_n 1, 1) := by decide +kernel
theorem dX4_firstFault_2 : decode cX4_firstFault 2 = .ok (.putfield 28, 3) := by decide +kernel
theorem dX4_firstFault_5 : decode cX4_firstFault 5 = .ok (.aload_n 0, 1) := by decide +kernel
theorem dX4_firstFault_6 : decode cX4_firstFault 6 = .ok (.getfield 28, 3) := by decide +kernel
theorem dX4_firstFault_9 : decode cX4_firstFault 9 = .ok (.invokevirtual 32, 3) := by decide +kernel
theorem dX4_firstFault_12 : decode cX4_firstFault 12 = .ok (.aload_n 0, 1) := by decide +kernel
theorem dX4_firstFault_13 : decode cX4_firstFault 13 = .ok (.iconst 0, 1) := by decide +kernel
theorem dX4_firstFault_14 : decode cX4_firstFault 14 = .ok (.putfield 21, 3) := by decide +kernel
theorem dX4_firstFault_17 : decode cX4_firstFault 17 = .ok (.aload_n 0, 1) := by decide +kernel
theorem dX4_firstFault_18 : decode cX4_firstFault 18 = .ok (.aload_n 0, 1) := by decide +kernel
theorem dX4_firstFault_19 : decode cX4_firstFault 19 = .ok (.getfield 24, 3) := by decide +kernel
theorem dX4_firstFault_22 : decode cX4_firstFault 22 = .ok (.iconst 0, 1) := by decide +kernel
theorem dX4_firstFault_23 : decode cX4_firstFault 23 = .ok (.invokevirtual 37, 3) := by decide +kernel
theorem dX4_firstFault_26 : decode cX4_firstFault 26 = .ok (.putfield 17, 3) := by decide +kernel
theorem dX4_firstFault_29 : decode cX4_firstFault 29 = .ok (.iconst 1, 1) := by decide +kernel
theorem dX4_firstFault_30 : decode cX4_firstFault 30 = .ok (.istore_n 2, 1) := by decide +kernel
theorem dX4_firstFault_31 : decode cX4_firstFault 31 = .ok (.iconst 0, 1) := by decide +kernel
theorem dX4_firstFault_32 : decode cX4_firstFault 32 = .ok (.istore_n 3, 1) := by decide +kernel
theorem dX4_firstFault_33 : decode cX4_firstFault 33 = .ok (.iload_n 3, 1) := by decide +kernel
theorem dX4_firstFault_34 : decode cX4_firstFault 34 = .ok (.sipush 400, 3) := by decide +kernel
theorem dX4_firstFault_37 : decode cX4_firstFault 37 = .ok (.if_icmp .ge 27, 3) := by decide +kernel
theorem dX4_firstFault_40 : decode cX4_firstFault 40 = .ok (.iload_n 2, 1) := by decide +kernel
theorem dX4_firstFault_41 : decode cX4_firstFault 41 = .ok (.ifCond .eq 23, 3) := by decide +kernel
theorem dX4_firstFault_44 : decode cX4_firstFault 44 = .ok (.aload_n 0, 1) := by decide +kernel
theorem dX4_firstFault_45 : decode cX4_firstFault 45 = .ok (.getfield 17, 3) := by decide +kernel
theorem dX4_firstFault_48 : decode cX4_firstFault 48 = .ok (.bipush 45, 2) := by decide +kernel
theorem dX4_firstFault_50 : decode cX4_firstFault 50 = .ok (.if_icmp .eq 14, 3) := by decide +kernel
theorem dX4_firstFault_53 : decode cX4_firstFault 53 = .ok (.aload_n 0, 1) := by decide +kernel
theorem dX4_firstFault_54 : decode cX4_firstFault 54 = .ok (.invokevirtual 41, 3) := by decide +kernel
theorem dX4_firstFault_57 : decode cX4_firstFault 57 = .ok (.istore_n 2, 1) := by decide +kernel
theorem dX4_firstFault_58 : decode cX4_firstFault 58 = .ok (.iinc 3 1, 3) := by decide +kernel
theorem dX4_firstFault_61 : decode cX4_firstFault 61 = .ok (.goto (-28), 3) := by decide +kernel
theorem dX4_firstFault_64 : decode cX4_firstFault 64 = .ok (.iload_n 2, 1) := by decide +kernel
theorem dX4_firstFault_65 : decode cX4_firstFault 65 = .ok (.ifCond .eq 16, 3) := by decide +kernel
theorem dX4_firstFault_68 : decode cX4_firstFault 68 = .ok (.aload_n 0, 1) := by decide +kernel
theorem dX4_firstFault_69 : decode cX4_firstFault 69 = .ok (.getfield 17, 3) := by decide +kernel
theorem dX4_firstFault_72 : decode cX4_firstFault 72 = .ok (.bipush 45, 2) := by decide +kernel
theorem dX4_firstFault_74 : decode cX4_firstFault 74 = .ok (.if_icmp .ne 7, 3) := by decide +kernel
theorem dX4_firstFault_77 : decode cX4_firstFault 77 = .ok (.iconst (-1), 1) := by decide +kernel
theorem dX4_firstFault_78 : decode cX4_firstFault 78 = .ok (.goto 7, 3) := by decide +kernel
theorem dX4_firstFault_81 : decode cX4_firstFault 81 = .ok (.aload_n 0, 1) := by decide +kernel
theorem dX4_firstFault_82 : decode cX4_firstFault 82 = .ok (.getfield 21, 3) := by decide +kernel
theorem dX4_firstFault_85 : decode cX4_firstFault 85 = .ok (.ireturn, 1) := by decide +kernel
theorem dX4_line_0 : decode cX4_line 0 = .ok (.aload_n 0, 1) := by decide +kernel
theorem dX4_line_1 : decode cX4_line 1 = .ok (.getfield 17, 3) := by decide +kernel
theorem dX4_line_4 : decode cX4_line 4 = .ok (.tableswitch 488 0 14 #[76, 488, 125, 488, 488, 488, 488, 217, 488, 284, 488, 335, 488, 488, 420], 76) := by decide +kernel
theorem dX4_line_80 : decode cX4_line 80 = .ok (.aload_n 0, 1) := by decide +kernel
theorem dX4_line_81 : decode cX4_line 81 = .ok (.iconst 0, 1) := by decide +kernel
theorem dX4_line_82 : decode cX4_line 82 = .ok (.invokevirtual 45, 3) := by decide +kernel
theorem dX4_line_85 : decode cX4_line 85 = .ok (.ifCond .eq 42, 3) := by decide +kernel
theorem dX4_line_88 : decode cX4_line 88 = .ok (.aload_n 0, 1) := by decide +kernel
theorem dX4_line_89 : decode cX4_line 89 = .ok (.bipush 28, 2) := by decide +kernel
theorem dX4_line_91 : decode cX4_line 91 = .ok (.invokevirtual 45, 3) := by decide +kernel
theorem dX4_line_94 : decode cX4_line 94 = .ok (.ifCond .eq 33, 3) := by decide +kernel
theorem dX4_line_97 : decode cX4_line 97 = .ok (.aload_n 0, 1) := by decide +kernel
theorem dX4_line_98 : decode cX4_line 98 = .ok (.iconst 1, 1) := by decide +kernel
theorem dX4_line_99 : decode cX4_line 99 = .ok (.invokevirtual 45, 3) := by decide +kernel
theorem dX4_line_102 : decode cX4_line 102 = .ok (.ifCond .eq 25, 3) := by decide +kernel
theorem dX4_line_105 : decode cX4_line 105 = .ok (.aload_n 0, 1) := by decide +kernel
theorem dX4_line_106 : decode cX4_line 106 = .ok (.bipush 29, 2) := by decide +kernel
theorem dX4_line_108 : decode cX4_line 108 = .ok (.invokevirtual 45, 3) := by decide +kernel
theorem dX4_line_111 : decode cX4_line 111 = .ok (.ifCond .eq 16, 3) := by decide +kernel
theorem dX4_line_114 : decode cX4_line 114 = .ok (.aload_n 0, 1) := by decide +kernel
theorem dX4_line_115 : decode cX4_line 115 = .ok (.bipush 34, 2) := by decide +kernel
theorem dX4_line_117 : decode cX4_line 117 = .ok (.invokevirtual 45, 3) := by decide +kernel
theorem dX4_line_120 : decode cX4_line 120 = .ok (.ifCond .eq 7, 3) := by decide +kernel
theorem dX4_line_123 : decode cX4_line 123 = .ok (.iconst 1, 1) := by decide +kernel
theorem dX4_line_124 : decode cX4_line 124 = .ok (.goto 4, 3) := by decide +kernel
theorem dX4_line_127 : decode cX4_line 127 = .ok (.iconst 0, 1) := by decide +kernel
theorem dX4_line_128 : decode cX4_line 128 = .ok (.ireturn, 1) := by decide +kernel
theorem dX4_line_129 : decode cX4_line 129 = .ok (.aload_n 0, 1) := by decide +kernel
theorem dX4_line_130 : decode cX4_line 130 = .ok (.iconst 2, 1) := by decide +kernel
theorem dX4_line_131 : decode cX4_line 131 = .ok (.invokevirtual 45, 3) := by decide +kernel
theorem dX4_line_134 : decode cX4_line 134 = .ok (.ifCond .eq 85, 3) := by decide +kernel
theorem dX4_line_137 : decode cX4_line 137 = .ok (.aload_n 0, 1) := by decide +kernel
theorem dX4_line_138 : decode cX4_line 138 = .ok (.bipush 28, 2) := by decide +kernel
theorem dX4_line_140 : decode cX4_line 140 = .ok (.invokevirtual 45, 3) := by decide +kernel
theorem dX4_line_143 : decode cX4_line 143 = .ok (.ifCond .eq 76, 3) := by decide +kernel
theorem dX4_line_146 : decode cX4_line 146 = .ok (.aload_n 0, 1) := by decide +kernel
theorem dX4_line_147 : decode cX4_line 147 = .ok (.iconst 3, 1) := by decide +kernel
theorem dX4_line_148 : decode cX4_line 148 = .ok (.invokevirtual 45, 3) := by decide +kernel
theorem dX4_line_151 : decode cX4_line 151 = .ok (.ifCond .eq 68, 3) := by decide +kernel
theorem dX4_line_154 : decode cX4_line 154 = .ok (.aload_n 0, 1) := by decide +kernel
theorem dX4_line_155 : decode cX4_line 155 = .ok (.bipush 28, 2) := by decide +kernel
theorem dX4_line_157 : decode cX4_line 157 = .ok (.invokevirtual 45, 3) := by decide +kernel
theorem dX4_line_160 : decode cX4_line 160 = .ok (.ifCond .eq 59, 3) := by decide +kernel
theorem dX4_line_163 : decode cX4_line 163 = .ok (.aload_n 0, 1) := by decide +kernel
theorem dX4_line_164 : decode cX4_line 164 = .ok (.iconst 4, 1) := by decide +kernel
theorem dX4_line_165 : decode cX4_line 165 = .ok (.invokevirtual 45, 3) := by decide +kernel
theorem dX4_line_168 : decode cX4_line 168 = .ok (.ifCond .eq 51, 3) := by decide +kernel
theorem dX4_line_171 : decode cX4_line 171 = .ok (.aload_n 0, 1) := by decide +kernel
theorem dX4_line_172 : decode cX4_line 172 = .ok (.iconst 5, 1) := by decide +kernel
theorem dX4_line_173 : decode cX4_line 173 = .ok (.invokevirtual 45, 3) := by decide +kernel
theorem dX4_line_176 : decode cX4_line 176 = .ok (.ifCond .ne 12, 3) := by decide +kernel
theorem dX4_line_179 : decode cX4_line 179 = .ok (.aload_n 0, 1) := by decide +kernel
theorem dX4_line_180 : decode cX4_line 180 = .ok (.bipush 28, 2) := by decide +kernel
theorem dX4_line_182 : decode cX4_line 182 = .ok (.invokevirtual 45, 3) := by decide +kernel
theorem dX4_line_185 : decode cX4_line 185 = .ok (.ifCond .eq 34, 3) := by decide +kernel
theorem dX4_line_188 : decode cX4_line 188 = .ok (.aload_n 0, 1) := by decide +kernel
theorem dX4_line_189 : decode cX4_line 189 = .ok (.bipush 6, 2) := by decide +kernel
theorem dX4_line_191 : decode cX4_line 191 = .ok (.invokevirtual 45, 3) := by decide +kernel
theorem dX4_line_194 : decode cX4_line 194 = .ok (.ifCond .eq 12, 3) := by decide +kernel
theorem dX4_line_197 : decode cX4_line 197 = .ok (.aload_n 0, 1) := by decide +kernel
theorem dX4_line_198 : decode cX4_line 198 = .ok (.bipush 29, 2) := by decide +kernel
theorem dX4_line_200 : decode cX4_line 200 = .ok (.invokevirtual 45, 3) := by decide +kernel
theorem dX4_line_203 : decode cX4_line 203 = .ok (.ifCond .eq 16, 3) := by decide +kernel
theorem dX4_line_206 : decode cX4_line 206 = .ok (.aload_n 0, 1) := by decide +kernel
theorem dX4_line_207 : decode cX4_line 207 = .ok (.bipush 34, 2) := by decide +kernel
theorem dX4_line_209 : decode cX4_line 209 = .ok (.invokevirtual 45, 3) := by decide +kernel
theorem dX4_line_212 : decode cX4_line 212 = .ok (.ifCond .eq 7, 3) := by decide +kernel
theorem dX4_line_215 : decode cX4_line 215 = .ok (.iconst 1, 1) := by decide +kernel
theorem dX4_line_216 : decode cX4_line 216 = .ok (.goto 4, 3) := by decide +kernel
theorem dX4_line_219 : decode cX4_line 219 = .ok (.iconst 0, 1) := by decide +kernel
theorem dX4_line_220 : decode cX4_line 220 = .ok (.ireturn, 1) := by decide +kernel
theorem dX4_line_221 : decode cX4_line 221 = .ok (.aload_n 0, 1) := by decide +kernel
theorem dX4_line_222 : decode cX4_line 222 = .ok (.bipush 7, 2) := by decide +kernel
theorem dX4_line_224 : decode cX4_line 224 = .ok (.invokevirtual 45, 3) := by decide +kernel
theorem dX4_line_227 : decode cX4_line 227 = .ok (.ifCond .eq 59, 3) := by decide +kernel
theorem dX4_line_230 : decode cX4_line 230 = .ok (.aload_n 0, 1) := by decide +kernel
theorem dX4_line_231 : decode cX4_line 231 = .ok (.bipush 28, 2) := by decide +kernel
theorem dX4_line_233 : decode cX4_line 233 = .ok (.invokevirtual 45, 3) := by decide +kernel
theorem dX4_line_236 : decode cX4_line 236 = .ok (.ifCond .eq 50, 3) := by decide +kernel
theorem dX4_line_239 : decode cX4_line 239 = .ok (.aload_n 0, 1) := by decide +kernel
theorem dX4_line_240 : decode cX4_line 240 = .ok (.bipush 8, 2) := by decide +kernel
theorem dX4_line_242 : decode cX4_line 242 = .ok (.invokevirtual 45, 3) := by decide +kernel
theorem dX4_line_245 : decode cX4_line 245 = .ok (.ifCond .eq 41, 3) := by decide +kernel
theorem dX4_line_248 : decode cX4_line 248 = .ok (.aload_n 0, 1) := by decide +kernel
theorem dX4_line_249 : decode cX4_line 249 = .ok (.bipush 28, 2) := by decide +kernel
theorem dX4_line_251 : decode cX4_line 251 = .ok (.invokevirtual 45, 3) := by decide +kernel
theorem dX4_line_254 : decode cX4_line 254 = .ok (.ifCond .eq 32, 3) := by decide +kernel
theorem dX4_line_257 : decode cX4_line 257 = .ok (.aload_n 0, 1) := by decide +kernel
theorem dX4_line_258 : decode cX4_line 258 = .ok (.bipush 28, 2) := by decide +kernel
theorem dX4_line_260 : decode cX4_line 260 = .ok (.invokevirtual 45, 3) := by decide +kernel
theorem dX4_line_263 : decode cX4_line 263 = .ok (.ifCond .eq 23, 3) := by decide +kernel
theorem dX4_line_266 : decode cX4_line 266 = .ok (.aload_n 0, 1) := by decide +kernel
theorem dX4_line_267 : decode cX4_line 267 = .ok (.invokevirtual 49, 3) := by decide +kernel
theorem dX4_line_270 : decode cX4_line 270 = .ok (.ifCond .eq 16, 3) := by decide +kernel
theorem dX4_line_273 : decode cX4_line 273 = .ok (.aload_n 0, 1) := by decide +kernel
theorem dX4_line_274 : decode cX4_line 274 = .ok (.bipush 34, 2) := by decide +kernel
theorem dX4_line_276 : decode cX4_line 276 = .ok (.invokevirtual 45, 3) := by decide +kernel
theorem dX4_line_279 : decode cX4_line 279 = .ok (.ifCond .eq 7, 3) := by decide +kernel
theorem dX4_line_282 : decode cX4_line 282 = .ok (.iconst 1, 1) := by decide +kernel
theorem dX4_line_283 : decode cX4_line 283 = .ok (.goto 4, 3) := by decide +kernel
theorem dX4_line_286 : decode cX4_line 286 = .ok (.iconst 0, 1) := by decide +kernel
theorem dX4_line_287 : decode cX4_line 287 = .ok (.ireturn, 1) := by decide +kernel
theorem dX4_line_288 : decode cX4_line 288 = .ok (.aload_n 0, 1) := by decide +kernel
theorem dX4_line_289 : decode cX4_line 289 = .ok (.bipush 9, 2) := by decide +kernel
theorem dX4_line_291 : decode cX4_line 291 = .ok (.invokevirtual 45, 3) := by decide +kernel
theorem dX4_line_294 : decode cX4_line 294 = .ok (.ifCond .eq 43, 3) := by decide +kernel
theorem dX4_line_297 : decode cX4_line 297 = .ok (.aload_n 0, 1) := by decide +kernel
theorem dX4_line_298 : decode cX4_line 298 = .ok (.bipush 28, 2) := by decide +kernel
theorem dX4_line_300 : decode cX4_line 300 = .ok (.invokevirtual 45, 3) := by decide +kernel
theorem dX4_line_303 : decode cX4_line 303 = .ok (.ifCond .eq 34, 3) := by decide +kernel
theorem dX4_line_306 : decode cX4_line 306 = .ok (.aload_n 0, 1) := by decide +kernel
theorem dX4_line_307 : decode cX4_line 307 = .ok (.bipush 10, 2) := by decide +kernel
theorem dX4_line_309 : decode cX4_line 309 = .ok (.invokevirtual 45, 3) := by decide +kernel
theorem dX4_line_312 : decode cX4_line 312 = .ok (.ifCond .eq 25, 3) := by decide +kernel
theorem dX4_line_315 : decode cX4_line 315 = .ok (.aload_n 0, 1) := by decide +kernel
theorem dX4_line_316 : decode cX4_line 316 = .ok (.bipush 29, 2) := by decide +kernel
theorem dX4_line_318 : decode cX4_line 318 = .ok (.invokevirtual 45, 3) := by decide +kernel
theorem dX4_line_321 : decode cX4_line 321 = .ok (.ifCond .eq 16, 3) := by decide +kernel
theorem dX4_line_324 : decode cX4_line 324 = .ok (.aload_n 0, 1) := by decide +kernel
theorem dX4_line_325 : decode cX4_line 325 = .ok (.bipush 34, 2) := by decide +kernel
theorem dX4_line_327 : decode cX4_line 327 = .ok (.invokevirtual 45, 3) := by decide +kernel
theorem dX4_line_330 : decode cX4_line 330 = .ok (.ifCond .eq 7, 3) := by decide +kernel
theorem dX4_line_333 : decode cX4_line 333 = .ok (.iconst 1, 1) := by decide +kernel
theorem dX4_line_334 : decode cX4_line 334 = .ok (.goto 4, 3) := by decide +kernel
theorem dX4_line_337 : decode cX4_line 337 = .ok (.iconst 0, 1) := by decide +kernel
theorem dX4_line_338 : decode cX4_line 338 = .ok (.ireturn, 1) := by decide +kernel
theorem dX4_line_339 : decode cX4_line 339 = .ok (.aload_n 0, 1) := by decide +kernel
theorem dX4_line_340 : decode cX4_line 340 = .ok (.bipush 11, 2) := by decide +kernel
theorem dX4_line_342 : decode cX4_line 342 = .ok (.invokevirtual 45, 3) := by decide +kernel
theorem dX4_line_345 : decode cX4_line 345 = .ok (.ifCond .eq 77, 3) := by decide +kernel
theorem dX4_line_348 : decode cX4_line 348 = .ok (.aload_n 0, 1) := by decide +kernel
theorem dX4_line_349 : decode cX4_line 349 = .ok (.bipush 28, 2) := by decide +kernel
theorem dX4_line_351 : decode cX4_line 351 = .ok (.invokevirtual 45, 3) := by decide +kernel
theorem dX4_line_354 : decode cX4_line 354 = .ok (.ifCond .eq 68, 3) := by decide +kernel
theorem dX4_line_357 : decode cX4_line 357 = .ok (.aload_n 0, 1) := by decide +kernel
theorem dX4_line_358 : decode cX4_line 358 = .ok (.bipush 12, 2) := by decide +kernel
theorem dX4_line_360 : decode cX4_line 360 = .ok (.invokevirtual 45, 3) := by decide +kernel
theorem dX4_line_363 : decode cX4_line 363 = .ok (.ifCond .eq 59, 3) := by decide +kernel
theorem dX4_line_366 : decode cX4_line 366 = .ok (.aload_n 0, 1) := by decide +kernel
theorem dX4_line_367 : decode cX4_line 367 = .ok (.bipush 28, 2) := by decide +kernel
theorem dX4_line_369 : decode cX4_line 369 = .ok (.invokevirtual 45, 3) := by decide +kernel
theorem dX4_line_372 : decode cX4_line 372 = .ok (.ifCond .eq 50, 3) := by decide +kernel
theorem dX4_line_375 : decode cX4_line 375 = .ok (.aload_n 0, 1) := by decide +kernel
theorem dX4_line_376 : decode cX4_line 376 = .ok (.bipush 13, 2) := by decide +kernel
theorem dX4_line_378 : decode cX4_line 378 = .ok (.invokevirtual 45, 3) := by decide +kernel
theorem dX4_line_381 : decode cX4_line 381 = .ok (.ifCond .eq 41, 3) := by decide +kernel
theorem dX4_line_384 : decode cX4_line 384 = .ok (.aload_n 0, 1) := by decide +kernel
theorem dX4_line_385 : decode cX4_line 385 = .ok (.iconst 0, 1) := by decide +kernel
theorem dX4_line_386 : decode cX4_line 386 = .ok (.invokevirtual 52, 3) := by decide +kernel
theorem dX4_line_389 : decode cX4_line 389 = .ok (.ifCond .eq 33, 3) := by decide +kernel
theorem dX4_line_392 : decode cX4_line 392 = .ok (.aload_n 0, 1) := by decide +kernel
theorem dX4_line_393 : decode cX4_line 393 = .ok (.bipush 15, 2) := by decide +kernel
theorem dX4_line_395 : decode cX4_line 395 = .ok (.invokevirtual 45, 3) := by decide +kernel
theorem dX4_line_398 : decode cX4_line 398 = .ok (.ifCond .eq 11, 3) := by decide +kernel
theorem dX4_line_401 : decode cX4_line 401 = .ok (.aload_n 0, 1) := by decide +kernel
theorem dX4_line_402 : decode cX4_line 402 = .ok (.iconst 0, 1) := by decide +kernel
theorem dX4_line_403 : decode cX4_line 403 = .ok (.invokevirtual 55, 3) := by decide +kernel
theorem dX4_line_406 : decode cX4_line 406 = .ok (.ifCond .eq 16, 3) := by decide +kernel
theorem dX4_line_409 : decode cX4_line 409 = .ok (.aload_n 0, 1) := by decide +kernel
theorem dX4_line_410 : decode cX4_line 410 = .ok (.bipush 34, 2) := by decide +kernel
theorem dX4_line_412 : decode cX4_line 412 = .ok (.invokevirtual 45, 3) := by decide +kernel
theorem dX4_line_415 : decode cX4_line 415 = .ok (.ifCond .eq 7, 3) := by decide +kernel
theorem dX4_line_418 : decode cX4_line 418 = .ok (.iconst 1, 1) := by decide +kernel
theorem dX4_line_419 : decode cX4_line 419 = .ok (.goto 4, 3) := by decide +kernel
theorem dX4_line_422 : decode cX4_line 422 = .ok (.iconst 0, 1) := by decide +kernel
theorem dX4_line_423 : decode cX4_line 423 = .ok (.ireturn, 1) := by decide +kernel
theorem dX4_line_424 : decode cX4_line 424 = .ok (.aload_n 0, 1) := by decide +kernel
theorem dX4_line_425 : decode cX4_line 425 = .ok (.bipush 14, 2) := by decide +kernel
theorem dX4_line_427 : decode cX4_line 427 = .ok (.invokevirtual 45, 3) := by decide +kernel
theorem dX4_line_430 : decode cX4_line 430 = .ok (.ifCond .eq 60, 3) := by decide +kernel
theorem dX4_line_433 : decode cX4_line 433 = .ok (.aload_n 0, 1) := by decide +kernel
theorem dX4_line_434 : decode cX4_line 434 = .ok (.bipush 28, 2) := by decide +kernel
theorem dX4_line_436 : decode cX4_line 436 = .ok (.invokevirtual 45, 3) := by decide +kernel
theorem dX4_line_439 : decode cX4_line 439 = .ok (.ifCond .eq 51, 3) := by decide +kernel
theorem dX4_line_442 : decode cX4_line 442 = .ok (.aload_n 0, 1) := by decide +kernel
theorem dX4_line_443 : decode cX4_line 443 = .ok (.bipush 12, 2) := by decide +kernel
theorem dX4_line_445 : decode cX4_line 445 = .ok (.invokevirtual 45, 3) := by decide +kernel
theorem dX4_line_448 : decode cX4_line 448 = .ok (.ifCond .eq 42, 3) := by decide +kernel
theorem dX4_line_451 : decode cX4_line 451 = .ok (.aload_n 0, 1) := by decide +kernel
theorem dX4_line_452 : decode cX4_line 452 = .ok (.bipush 28, 2) := by decide +kernel
theorem dX4_line_454 : decode cX4_line 454 = .ok (.invokevirtual 45, 3) := by decide +kernel
theorem dX4_line_457 : decode cX4_line 457 = .ok (.ifCond .eq 33, 3) := by decide +kernel
theorem dX4_line_460 : decode cX4_line 460 = .ok (.aload_n 0, 1) := by decide +kernel
theorem dX4_line_461 : decode cX4_line 461 = .ok (.bipush 15, 2) := by decide +kernel
theorem dX4_line_463 : decode cX4_line 463 = .ok (.invokevirtual 45, 3) := by decide +kernel
theorem dX4_line_466 : decode cX4_line 466 = .ok (.ifCond .eq 11, 3) := by decide +kernel
theorem dX4_line_469 : decode cX4_line 469 = .ok (.aload_n 0, 1) := by decide +kernel
theorem dX4_line_470 : decode cX4_line 470 = .ok (.iconst 0, 1) := by decide +kernel
theorem dX4_line_471 : decode cX4_line 471 = .ok (.invokevirtual 55, 3) := by decide +kernel
theorem dX4_line_474 : decode cX4_line 474 = .ok (.ifCond .eq 16, 3) := by decide +kernel
theorem dX4_line_477 : decode cX4_line 477 = .ok (.aload_n 0, 1) := by decide +kernel
theorem dX4_line_478 : decode cX4_line 478 = .ok (.bipush 34, 2) := by decide +kernel
theorem dX4_line_480 : decode cX4_line 480 = .ok (.invokevirtual 45, 3) := by decide +kernel
theorem dX4_line_483 : decode cX4_line 483 = .ok (.ifCond .eq 7, 3) := by decide +kernel
theorem dX4_line_486 : decode cX4_line 486 = .ok (.iconst 1, 1) := by decide +kernel
theorem dX4_line_487 : decode cX4_line 487 = .ok (.goto 4, 3) := by decide +kernel
theorem dX4_line_490 : decode cX4_line 490 = .ok (.iconst 0, 1) := by decide +kernel
theorem dX4_line_491 : decode cX4_line 491 = .ok (.ireturn, 1) := by decide +kernel
theorem dX4_line_492 : decode cX4_line 492 = .ok (.iconst 0, 1) := by decide +kernel
theorem dX4_line_493 : decode cX4_line 493 = .ok (.ireturn, 1) := by decide +kernel
theorem dX4_otherNames_0 : decode cX4_otherNames 0 = .ok (.iconst 1, 1) := by decide +kernel
theorem dX4_otherNames_1 : decode cX4_otherNames 1 = .ok (.istore_n 1, 1) := by decide +kernel
theorem dX4_otherNames_2 : decode cX4_otherNames 2 = .ok (.iconst 0, 1) := by decide +kernel
theorem dX4_otherNames_3 : decode cX4_otherNames 3 = .ok (.istore_n 2, 1) := by decide +kernel
theorem dX4_otherNames_4 : decode cX4_otherNames 4 = .ok (.iload_n 2, 1) := by decide +kernel
theorem dX4_otherNames_5 : decode cX4_otherNames 5 = .ok (.sipush 400, 3) := by decide +kernel
theorem dX4_otherNames_8 : decode cX4_otherNames 8 = .ok (.if_icmp .ge 20, 3) := by decide +kernel
theorem dX4_otherNames_11 : decode cX4_otherNames 11 = .ok (.iload_n 1, 1) := by decide +kernel
theorem dX4_otherNames_12 : decode cX4_otherNames 12 = .ok (.ifCond .eq 16, 3) := by decide +kernel
theorem dX4_otherNames_15 : decode cX4_otherNames 15 = .ok (.aload_n 0, 1) := by decide +kernel
theorem dX4_otherNames_16 : decode cX4_otherNames 16 = .ok (.bipush 28, 2) := by decide +kernel
theorem dX4_otherNames_18 : decode cX4_otherNames 18 = .ok (.invokevirtual 45, 3) := by decide +kernel
theorem dX4_otherNames_21 : decode cX4_otherNames 21 = .ok (.istore_n 1, 1) := by decide +kernel
theorem dX4_otherNames_22 : decode cX4_otherNames 22 = .ok (.iinc 2 1, 3) := by decide +kernel
theorem dX4_otherNames_25 : decode cX4_otherNames 25 = .ok (.goto (-21), 3) := by decide +kernel
theorem dX4_otherNames_28 : decode cX4_otherNames 28 = .ok (.iconst 1, 1) := by decide +kernel
theorem dX4_otherNames_29 : decode cX4_otherNames 29 = .ok (.ireturn, 1) := by decide +kernel
theorem dX4_testAt_0 : decode cX4_testAt 0 = .ok (.aload_n 0, 1) := by decide +kernel
theorem dX4_testAt_1 : decode cX4_testAt 1 = .ok (.iload_n 1, 1) := by decide +kernel
theorem dX4_testAt_2 : decode cX4_testAt 2 = .ok (.invokevirtual 58, 3) := by decide +kernel
theorem dX4_testAt_5 : decode cX4_testAt 5 = .ok (.istore_n 2, 1) := by decide +kernel
theorem dX4_testAt_6 : decode cX4_testAt 6 = .ok (.iconst 0, 1) := by decide +kernel
theorem dX4_testAt_7 : decode cX4_testAt 7 = .ok (.istore_n 3, 1) := by decide +kernel
theorem dX4_testAt_8 : decode cX4_testAt 8 = .ok (.iconst 0, 1) := by decide +kernel
theorem dX4_testAt_9 : decode cX4_testAt 9 = .ok (.istore 4, 2) := by decide +kernel
theorem dX4_testAt_11 : decode cX4_testAt 11 = .ok (.iload 4, 2) := by decide +kernel
theorem dX4_testAt_13 : decode cX4_testAt 13 = .ok (.sipush 400, 3) := by decide +kernel
theorem dX4_testAt_16 : decode cX4_testAt 16 = .ok (.if_icmp .ge 117, 3) := by decide +kernel
theorem dX4_testAt_19 : decode cX4_testAt 19 = .ok (.iload_n 2, 1) := by decide +kernel
theorem dX4_testAt_20 : decode cX4_testAt 20 = .ok (.ifCond .eq 113, 3) := by decide +kernel
theorem dX4_testAt_23 : decode cX4_testAt 23 = .ok (.aload_n 0, 1) := by decide +kernel
theorem dX4_testAt_24 : decode cX4_testAt 24 = .ok (.getfield 17, 3) := by decide +kernel
theorem dX4_testAt_27 : decode cX4_testAt 27 = .ok (.bipush 24, 2) := by decide +kernel
theorem dX4_testAt_29 : decode cX4_testAt 29 = .ok (.if_icmp .eq 12, 3) := by decide +kernel
theorem dX4_testAt_32 : decode cX4_testAt 32 = .ok (.aload_n 0, 1) := by decide +kernel
theorem dX4_testAt_33 : decode cX4_testAt 33 = .ok (.getfield 17, 3) := by decide +kernel
theorem dX4_testAt_36 : decode cX4_testAt 36 = .ok (.bipush 25, 2) := by decide +kernel
theorem dX4_testAt_38 : decode cX4_testAt 38 = .ok (.if_icmp .ne 95, 3) := by decide +kernel
theorem dX4_testAt_41 : decode cX4_testAt 41 = .ok (.aload_n 0, 1) := by decide +kernel
theorem dX4_testAt_42 : decode cX4_testAt 42 = .ok (.getfield 17, 3) := by decide +kernel
theorem dX4_testAt_45 : decode cX4_testAt 45 = .ok (.istore 5, 2) := by decide +kernel
theorem dX4_testAt_47 : decode cX4_testAt 47 = .ok (.iload 5, 2) := by decide +kernel
theorem dX4_testAt_49 : decode cX4_testAt 49 = .ok (.bipush 25, 2) := by decide +kernel
theorem dX4_testAt_51 : decode cX4_testAt 51 = .ok (.if_icmp .ne 18, 3) := by decide +kernel
theorem dX4_testAt_54 : decode cX4_testAt 54 = .ok (.iload_n 3, 1) := by decide +kernel
theorem dX4_testAt_55 : decode cX4_testAt 55 = .ok (.ifCond .eq 14, 3) := by decide +kernel
theorem dX4_testAt_58 : decode cX4_testAt 58 = .ok (.aload_n 0, 1) := by decide +kernel
theorem dX4_testAt_59 : decode cX4_testAt 59 = .ok (.getfield 28, 3) := by decide +kernel
theorem dX4_testAt_62 : decode cX4_testAt 62 = .ok (.bipush 25, 2) := by decide +kernel
theorem dX4_testAt_64 : decode cX4_testAt 64 = .ok (.iconst 0, 1) := by decide +kernel
theorem dX4_testAt_65 : decode cX4_testAt 65 = .ok (.invokevirtual 61, 3) := by decide +kernel
theorem dX4_testAt_68 : decode cX4_testAt 68 = .ok (.pop, 1) := by decide +kernel
theorem dX4_testAt_69 : decode cX4_testAt 69 = .ok (.iload_n 3, 1) := by decide +kernel
theorem dX4_testAt_70 : decode cX4_testAt 70 = .ok (.ifCond .ne 10, 3) := by decide +kernel
theorem dX4_testAt_73 : decode cX4_testAt 73 = .ok (.iload 5, 2) := by decide +kernel
theorem dX4_testAt_75 : decode cX4_testAt 75 = .ok (.bipush 25, 2) := by decide +kernel
theorem dX4_testAt_77 : decode cX4_testAt 77 = .ok (.if_icmp .ne 7, 3) := by decide +kernel
theorem dX4_testAt_80 : decode cX4_testAt 80 = .ok (.iconst 1, 1) := by decide +kernel
theorem dX4_testAt_81 : decode cX4_testAt 81 = .ok (.goto 4, 3) := by decide +kernel
theorem dX4_testAt_84 : decode cX4_testAt 84 = .ok (.iconst 0, 1) := by decide +kernel
theorem dX4_testAt_85 : decode cX4_testAt 85 = .ok (.istore_n 3, 1) := by decide +kernel
theorem dX4_testAt_86 : decode cX4_testAt 86 = .ok (.aload_n 0, 1) := by decide +kernel
theorem dX4_testAt_87 : decode cX4_testAt 87 = .ok (.iload 5, 2) := by decide +kernel
theorem dX4_testAt_89 : decode cX4_testAt 89 = .ok (.invokevirtual 45, 3) := by decide +kernel
theorem dX4_testAt_92 : decode cX4_testAt 92 = .ok (.ifCond .eq 15, 3) := by decide +kernel
theorem dX4_testAt_95 : decode cX4_testAt 95 = .ok (.aload_n 0, 1) := by decide +kernel
theorem dX4_testAt_96 : decode cX4_testAt 96 = .ok (.iload_n 1, 1) := by decide +kernel
theorem dX4_testAt_97 : decode cX4_testAt 97 = .ok (.invokevirtual 58, 3) := by decide +kernel
theorem dX4_testAt_100 : decode cX4_testAt 100 = .ok (.ifCond .eq 7, 3) := by decide +kernel
theorem dX4_testAt_103 : decode cX4_testAt 103 = .ok (.iconst 1, 1) := by decide +kernel
theorem dX4_testAt_104 : decode cX4_testAt 104 = .ok (.goto 4, 3) := by decide +kernel
theorem dX4_testAt_107 : decode cX4_testAt 107 = .ok (.iconst 0, 1) := by decide +kernel
theorem dX4_testAt_108 : decode cX4_testAt 108 = .ok (.istore_n 2, 1) := by decide +kernel
theorem dX4_testAt_109 : decode cX4_testAt 109 = .ok (.iload 5, 2) := by decide +kernel
theorem dX4_testAt_111 : decode cX4_testAt 111 = .ok (.bipush 24, 2) := by decide +kernel
theorem dX4_testAt_113 : decode cX4_testAt 113 = .ok (.if_icmp .ne 14, 3) := by decide +kernel
theorem dX4_testAt_116 : decode cX4_testAt 116 = .ok (.aload_n 0, 1) := by decide +kernel
theorem dX4_testAt_117 : decode cX4_testAt 117 = .ok (.getfield 28, 3) := by decide +kernel
theorem dX4_testAt_120 : decode cX4_testAt 120 = .ok (.bipush 24, 2) := by decide +kernel
theorem dX4_testAt_122 : decode cX4_testAt 122 = .ok (.iconst 0, 1) := by decide +kernel
theorem dX4_testAt_123 : decode cX4_testAt 123 = .ok (.invokevirtual 61, 3) := by decide +kernel
theorem dX4_testAt_126 : decode cX4_testAt 126 = .ok (.pop, 1) := by decide +kernel
theorem dX4_testAt_127 : decode cX4_testAt 127 = .ok (.iinc 4 1, 3) := by decide +kernel
theorem dX4_testAt_130 : decode cX4_testAt 130 = .ok (.goto (-119), 3) := by decide +kernel
theorem dX4_testAt_133 : decode cX4_testAt 133 = .ok (.iload_n 3, 1) := by decide +kernel
theorem dX4_testAt_134 : decode cX4_testAt 134 = .ok (.ifCond .eq 14, 3) := by decide +kernel
theorem dX4_testAt_137 : decode cX4_testAt 137 = .ok (.aload_n 0, 1) := by decide +kernel
theorem dX4_testAt_138 : decode cX4_testAt 138 = .ok (.getfield 28, 3) := by decide +kernel
theorem dX4_testAt_141 : decode cX4_testAt 141 = .ok (.bipush 25, 2) := by decide +kernel
theorem dX4_testAt_143 : decode cX4_testAt 143 = .ok (.iconst 0, 1) := by decide +kernel
theorem dX4_testAt_144 : decode cX4_testAt 144 = .ok (.invokevirtual 61, 3) := by decide +kernel
theorem dX4_testAt_147 : decode cX4_testAt 147 = .ok (.pop, 1) := by decide +kernel
theorem dX4_testAt_148 : decode cX4_testAt 148 = .ok (.iload_n 2, 1) := by decide +kernel
theorem dX4_testAt_149 : decode cX4_testAt 149 = .ok (.ireturn, 1) := by decide +kernel
theorem dX4_singleAt_0 : decode cX4_singleAt 0 = .ok (.iload_n 1, 1) := by decide +kernel
theorem dX4_singleAt_1 : decode cX4_singleAt 1 = .ok (.bipush 8, 2) := by decide +kernel
theorem dX4_singleAt_3 : decode cX4_singleAt 3 = .ok (.if_icmp .le 5, 3) := by decide +kernel
theorem dX4_singleAt_6 : decode cX4_singleAt 6 = .ok (.iconst 0, 1) := by decide +kernel
theorem dX4_singleAt_7 : decode cX4_singleAt 7 = .ok (.ireturn, 1) := by decide +kernel
theorem dX4_singleAt_8 : decode cX4_singleAt 8 = .ok (.aload_n 0, 1) := by decide +kernel
theorem dX4_singleAt_9 : decode cX4_singleAt 9 = .ok (.getfield 17, 3) := by decide +kernel
theorem dX4_singleAt_12 : decode cX4_singleAt 12 = .ok (.lookupswitch 162 #[(22, 120), (23, 36), (32, 80)], 36) := by decide +kernel
theorem dX4_singleAt_48 : decode cX4_singleAt 48 = .ok (.iload_n 1, 1) := by decide +kernel
theorem dX4_singleAt_49 : decode cX4_singleAt 49 = .ok (.bipush 8, 2) := by decide +kernel
theorem dX4_singleAt_51 : decode cX4_singleAt 51 = .ok (.if_icmp .ge 39, 3) := by decide +kernel
theorem dX4_singleAt_54 : decode cX4_singleAt 54 = .ok (.aload_n 0, 1) := by decide +kernel
theorem dX4_singleAt_55 : decode cX4_singleAt 55 = .ok (.bipush 23, 2) := by decide +kernel
theorem dX4_singleAt_57 : decode cX4_singleAt 57 = .ok (.invokevirtual 45, 3) := by decide +kernel
theorem dX4_singleAt_60 : decode cX4_singleAt 60 = .ok (.ifCond .eq 30, 3) := by decide +kernel
theorem dX4_singleAt_63 : decode cX4_singleAt 63 = .ok (.aload_n 0, 1) := by decide +kernel
theorem dX4_singleAt_64 : decode cX4_singleAt 64 = .ok (.iload_n 1, 1) := by decide +kernel
theorem dX4_singleAt_65 : decode cX4_singleAt 65 = .ok (.iconst 1, 1) := by decide +kernel
theorem dX4_singleAt_66 : decode cX4_singleAt 66 = .ok (.iadd, 1) := by decide +kernel
theorem dX4_singleAt_67 : decode cX4_singleAt 67 = .ok (.invokevirtual 58, 3) := by decide +kernel
theorem dX4_singleAt_70 : decode cX4_singleAt 70 = .ok (.ifCond .eq 20, 3) := by decide +kernel
theorem dX4_singleAt_73 : decode cX4_singleAt 73 = .ok (.aload_n 0, 1) := by decide +kernel
theorem dX4_singleAt_74 : decode cX4_singleAt 74 = .ok (.getfield 28, 3) := by decide +kernel
theorem dX4_singleAt_77 : decode cX4_singleAt 77 = .ok (.bipush 23, 2) := by decide +kernel
theorem dX4_singleAt_79 : decode cX4_singleAt 79 = .ok (.iconst 0, 1) := by decide +kernel
theorem dX4_singleAt_80 : decode cX4_singleAt 80 = .ok (.invokevirtual 61, 3) := by decide +kernel
theorem dX4_singleAt_83 : decode cX4_singleAt 83 = .ok (.ifCond .eq 7, 3) := by decide +kernel
theorem dX4_singleAt_86 : decode cX4_singleAt 86 = .ok (.iconst 1, 1) := by decide +kernel
theorem dX4_singleAt_87 : decode cX4_singleAt 87 = .ok (.goto 4, 3) := by decide +kernel
theorem dX4_singleAt_90 : decode cX4_singleAt 90 = .ok (.iconst 0, 1) := by decide +kernel
theorem dX4_singleAt_91 : decode cX4_singleAt 91 = .ok (.ireturn, 1) := by decide +kernel
theorem dX4_singleAt_92 : decode cX4_singleAt 92 = .ok (.iload_n 1, 1) := by decide +kernel
theorem dX4_singleAt_93 : decode cX4_singleAt 93 = .ok (.bipush 8, 2) := by decide +kernel
theorem dX4_singleAt_95 : decode cX4_singleAt 95 = .ok (.if_icmp .ge 35, 3) := by decide +kernel
theorem dX4_singleAt_98 : decode cX4_singleAt 98 = .ok (.aload_n 0, 1) := by decide +kernel
theorem dX4_singleAt_99 : decode cX4_singleAt 99 = .ok (.bipush 32, 2) := by decide +kernel
theorem dX4_singleAt_101 : decode cX4_singleAt 101 = .ok (.invokevirtual 45, 3) := by decide +kernel
theorem dX4_singleAt_104 : decode cX4_singleAt 104 = .ok (.ifCond .eq 26, 3) := by decide +kernel
theorem dX4_singleAt_107 : decode cX4_singleAt 107 = .ok (.aload_n 0, 1) := by decide +kernel
theorem dX4_singleAt_108 : decode cX4_singleAt 108 = .ok (.iload_n 1, 1) := by decide +kernel
theorem dX4_singleAt_109 : decode cX4_singleAt 109 = .ok (.iconst 1, 1) := by decide +kernel
theorem dX4_singleAt_110 : decode cX4_singleAt 110 = .ok (.iadd, 1) := by decide +kernel
theorem dX4_singleAt_111 : decode cX4_singleAt 111 = .ok (.invokevirtual 55, 3) := by decide +kernel
theorem dX4_singleAt_114 : decode cX4_singleAt 114 = .ok (.ifCond .eq 16, 3) := by decide +kernel
theorem dX4_singleAt_117 : decode cX4_singleAt 117 = .ok (.aload_n 0, 1) := by decide +kernel
theorem dX4_singleAt_118 : decode cX4_singleAt 118 = .ok (.bipush 33, 2) := by decide +kernel
theorem dX4_singleAt_120 : decode cX4_singleAt 120 = .ok (.invokevirtual 45, 3) := by decide +kernel
theorem dX4_singleAt_123 : decode cX4_singleAt 123 = .ok (.ifCond .eq 7, 3) := by decide +kernel
theorem dX4_singleAt_126 : decode cX4_singleAt 126 = .ok (.iconst 1, 1) := by decide +kernel
theorem dX4_singleAt_127 : decode cX4_singleAt 127 = .ok (.goto 4, 3) := by decide +kernel
theorem dX4_singleAt_130 : decode cX4_singleAt 130 = .ok (.iconst 0, 1) := by decide +kernel
theorem dX4_singleAt_131 : decode cX4_singleAt 131 = .ok (.ireturn, 1) := by decide +kernel
theorem dX4_singleAt_132 : decode cX4_singleAt 132 = .ok (.aload_n 0, 1) := by decide +kernel
theorem dX4_singleAt_133 : decode cX4_singleAt 133 = .ok (.bipush 22, 2) := by decide +kernel
theorem dX4_singleAt_135 : decode cX4_singleAt 135 = .ok (.invokevirtual 45, 3) := by decide +kernel
theorem dX4_singleAt_138 : decode cX4_singleAt 138 = .ok (.ifCond .eq 34, 3) := by decide +kernel
theorem dX4_singleAt_141 : decode cX4_singleAt 141 = .ok (.aload_n 0, 1) := by decide +kernel
theorem dX4_singleAt_142 : decode cX4_singleAt 142 = .ok (.bipush 28, 2) := by decide +kernel
theorem dX4_singleAt_144 : decode cX4_singleAt 144 = .ok (.invokevirtual 45, 3) := by decide +kernel
theorem dX4_singleAt_147 : decode cX4_singleAt 147 = .ok (.ifCond .eq 25, 3) := by decide +kernel
theorem dX4_singleAt_150 : decode cX4_singleAt 150 = .ok (.aload_n 0, 1) := by decide +kernel
theorem dX4_singleAt_151 : decode cX4_singleAt 151 = .ok (.getfield 28, 3) := by decide +kernel
theorem dX4_singleAt_154 : decode cX4_singleAt 154 = .ok (.bipush 22, 2) := by decide +kernel
theorem dX4_singleAt_156 : decode cX4_singleAt 156 = .ok (.aload_n 0, 1) := by decide +kernel
theorem dX4_singleAt_157 : decode cX4_singleAt 157 = .ok (.getfield 21, 3) := by decide +kernel
theorem dX4_singleAt_160 : decode cX4_singleAt 160 = .ok (.iconst 1, 1) := by decide +kernel
theorem dX4_singleAt_161 : decode cX4_singleAt 161 = .ok (.isub, 1) := by decide +kernel
theorem dX4_singleAt_162 : decode cX4_singleAt 162 = .ok (.invokevirtual 61, 3) := by decide +kernel
theorem dX4_singleAt_165 : decode cX4_singleAt 165 = .ok (.ifCond .eq 7, 3) := by decide +kernel
theorem dX4_singleAt_168 : decode cX4_singleAt 168 = .ok (.iconst 1, 1) := by decide +kernel
theorem dX4_singleAt_169 : decode cX4_singleAt 169 = .ok (.goto 4, 3) := by decide +kernel
theorem dX4_singleAt_172 : decode cX4_singleAt 172 = .ok (.iconst 0, 1) := by decide +kernel
theorem dX4_singleAt_173 : decode cX4_singleAt 173 = .ok (.ireturn, 1) := by decide +kernel
theorem dX4_singleAt_174 : decode cX4_singleAt 174 = .ok (.aload_n 0, 1) := by decide +kernel
theorem dX4_singleAt_175 : decode cX4_singleAt 175 = .ok (.iload_n 1, 1) := by decide +kernel
theorem dX4_singleAt_176 : decode cX4_singleAt 176 = .ok (.invokevirtual 52, 3) := by decide +kernel
theorem dX4_singleAt_179 : decode cX4_singleAt 179 = .ok (.ifCond .ne 5, 3) := by decide +kernel
theorem dX4_singleAt_182 : decode cX4_singleAt 182 = .ok (.iconst 0, 1) := by decide +kernel
theorem dX4_singleAt_183 : decode cX4_singleAt 183 = .ok (.ireturn, 1) := by decide +kernel
theorem dX4_singleAt_184 : decode cX4_singleAt 184 = .ok (.aload_n 0, 1) := by decide +kernel
theorem dX4_singleAt_185 : decode cX4_singleAt 185 = .ok (.getfield 17, 3) := by decide +kernel
theorem dX4_singleAt_188 : decode cX4_singleAt 188 = .ok (.istore_n 2, 1) := by decide +kernel
theorem dX4_singleAt_189 : decode cX4_singleAt 189 = .ok (.iload_n 2, 1) := by decide +kernel
theorem dX4_singleAt_190 : decode cX4_singleAt 190 = .ok (.bipush 40, 2) := by decide +kernel
theorem dX4_singleAt_192 : decode cX4_singleAt 192 = .ok (.if_icmp .lt 41, 3) := by decide +kernel
theorem dX4_singleAt_195 : decode cX4_singleAt 195 = .ok (.iload_n 2, 1) := by decide +kernel
theorem dX4_singleAt_196 : decode cX4_singleAt 196 = .ok (.bipush 44, 2) := by decide +kernel
theorem dX4_singleAt_198 : decode cX4_singleAt 198 = .ok (.if_icmp .gt 35, 3) := by decide +kernel
theorem dX4_singleAt_201 : decode cX4_singleAt 201 = .ok (.aload_n 0, 1) := by decide +kernel
theorem dX4_singleAt_202 : decode cX4_singleAt 202 = .ok (.iload_n 2, 1) := by decide +kernel
theorem dX4_singleAt_203 : decode cX4_singleAt 203 = .ok (.invokevirtual 45, 3) := by decide +kernel
theorem dX4_singleAt_206 : decode cX4_singleAt 206 = .ok (.ifCond .eq 27, 3) := by decide +kernel
theorem dX4_singleAt_209 : decode cX4_singleAt 209 = .ok (.aload_n 0, 1) := by decide +kernel
theorem dX4_singleAt_210 : decode cX4_singleAt 210 = .ok (.iload_n 1, 1) := by decide +kernel
theorem dX4_singleAt_211 : decode cX4_singleAt 211 = .ok (.invokevirtual 52, 3) := by decide +kernel
theorem dX4_singleAt_214 : decode cX4_singleAt 214 = .ok (.ifCond .eq 19, 3) := by decide +kernel
theorem dX4_singleAt_217 : decode cX4_singleAt 217 = .ok (.aload_n 0, 1) := by decide +kernel
theorem dX4_singleAt_218 : decode cX4_singleAt 218 = .ok (.getfield 28, 3) := by decide +kernel
theorem dX4_singleAt_221 : decode cX4_singleAt 221 = .ok (.iload_n 2, 1) := by decide +kernel
theorem dX4_singleAt_222 : decode cX4_singleAt 222 = .ok (.iconst 0, 1) := by decide +kernel
theorem dX4_singleAt_223 : decode cX4_singleAt 223 = .ok (.invokevirtual 61, 3) := by decide +kernel
theorem dX4_singleAt_226 : decode cX4_singleAt 226 = .ok (.ifCond .eq 7, 3) := by decide +kernel
theorem dX4_singleAt_229 : decode cX4_singleAt 229 = .ok (.iconst 1, 1) := by decide +kernel
theorem dX4_singleAt_230 : decode cX4_singleAt 230 = .ok (.goto 4, 3) := by decide +kernel
theorem dX4_singleAt_233 : decode cX4_singleAt 233 = .ok (.iconst 0, 1) := by decide +kernel
theorem dX4_singleAt_234 : decode cX4_singleAt 234 = .ok (.ireturn, 1) := by decide +kernel
theorem dX4_sumAt_0 : decode cX4_sumAt 0 = .ok (.aload_n 0, 1) := by decide +kernel
theorem dX4_sumAt_1 : decode cX4_sumAt 1 = .ok (.iload_n 1, 1) := by decide +kernel
theorem dX4_sumAt_2 : decode cX4_sumAt 2 = .ok (.invokevirtual 65, 3) := by decide +kernel
theorem dX4_sumAt_5 : decode cX4_sumAt 5 = .ok (.istore_n 2, 1) := by decide +kernel
theorem dX4_sumAt_6 : decode cX4_sumAt 6 = .ok (.bipush 48, 2) := by decide +kernel
theorem dX4_sumAt_8 : decode cX4_sumAt 8 = .ok (.istore_n 3, 1) := by decide +kernel
theorem dX4_sumAt_9 : decode cX4_sumAt 9 = .ok (.iconst 0, 1) := by decide +kernel
theorem dX4_sumAt_10 : decode cX4_sumAt 10 = .ok (.istore 4, 2) := by decide +kernel
theorem dX4_sumAt_12 : decode cX4_sumAt 12 = .ok (.iload 4, 2) := by decide +kernel
theorem dX4_sumAt_14 : decode cX4_sumAt 14 = .ok (.sipush 400, 3) := by decide +kernel
theorem dX4_sumAt_17 : decode cX4_sumAt 17 = .ok (.if_icmp .ge 130, 3) := by decide +kernel
theorem dX4_sumAt_20 : decode cX4_sumAt 20 = .ok (.iload_n 2, 1) := by decide +kernel
theorem dX4_sumAt_21 : decode cX4_sumAt 21 = .ok (.ifCond .eq 126, 3) := by decide +kernel
theorem dX4_sumAt_24 : decode cX4_sumAt 24 = .ok (.aload_n 0, 1) := by decide +kernel
theorem dX4_sumAt_25 : decode cX4_sumAt 25 = .ok (.getfield 17, 3) := by decide +kernel
theorem dX4_sumAt_28 : decode cX4_sumAt 28 = .ok (.bipush 36, 2) := by decide +kernel
theorem dX4_sumAt_30 : decode cX4_sumAt 30 = .ok (.if_icmp .lt 117, 3) := by decide +kernel
theorem dX4_sumAt_33 : decode cX4_sumAt 33 = .ok (.aload_n 0, 1) := by decide +kernel
theorem dX4_sumAt_34 : decode cX4_sumAt 34 = .ok (.getfield 17, 3) := by decide +kernel
theorem dX4_sumAt_37 : decode cX4_sumAt 37 = .ok (.bipush 39, 2) := by decide +kernel
theorem dX4_sumAt_39 : decode cX4_sumAt 39 = .ok (.if_icmp .gt 108, 3) := by decide +kernel
theorem dX4_sumAt_42 : decode cX4_sumAt 42 = .ok (.aload_n 0, 1) := by decide +kernel
theorem dX4_sumAt_43 : decode cX4_sumAt 43 = .ok (.getfield 17, 3) := by decide +kernel
theorem dX4_sumAt_46 : decode cX4_sumAt 46 = .ok (.istore 5, 2) := by decide +kernel
theorem dX4_sumAt_48 : decode cX4_sumAt 48 = .ok (.iload 5, 2) := by decide +kernel
theorem dX4_sumAt_50 : decode cX4_sumAt 50 = .ok (.bipush 38, 2) := by decide +kernel
theorem dX4_sumAt_52 : decode cX4_sumAt 52 = .ok (.if_icmp .eq 10, 3) := by decide +kernel
theorem dX4_sumAt_55 : decode cX4_sumAt 55 = .ok (.iload 5, 2) := by decide +kernel
theorem dX4_sumAt_57 : decode cX4_sumAt 57 = .ok (.bipush 39, 2) := by decide +kernel
theorem dX4_sumAt_59 : decode cX4_sumAt 59 = .ok (.if_icmp .ne 7, 3) := by decide +kernel
theorem dX4_sumAt_62 : decode cX4_sumAt 62 = .ok (.iconst 1, 1) := by decide +kernel
theorem dX4_sumAt_63 : decode cX4_sumAt 63 = .ok (.goto 4, 3) := by decide +kernel
theorem dX4_sumAt_66 : decode cX4_sumAt 66 = .ok (.iconst 0, 1) := by decide +kernel
theorem dX4_sumAt_67 : decode cX4_sumAt 67 = .ok (.istore 6, 2) := by decide +kernel
theorem dX4_sumAt_69 : decode cX4_sumAt 69 = .ok (.iload 6, 2) := by decide +kernel
theorem dX4_sumAt_71 : decode cX4_sumAt 71 = .ok (.ifCond .ne 19, 3) := by decide +kernel
theorem dX4_sumAt_74 : decode cX4_sumAt 74 = .ok (.iload_n 3, 1) := by decide +kernel
theorem dX4_sumAt_75 : decode cX4_sumAt 75 = .ok (.bipush 48, 2) := by decide +kernel
theorem dX4_sumAt_77 : decode cX4_sumAt 77 = .ok (.if_icmp .eq 13, 3) := by decide +kernel
theorem dX4_sumAt_80 : decode cX4_sumAt 80 = .ok (.aload_n 0, 1) := by decide +kernel
theorem dX4_sumAt_81 : decode cX4_sumAt 81 = .ok (.getfield 28, 3) := by decide +kernel
theorem dX4_sumAt_84 : decode cX4_sumAt 84 = .ok (.iload_n 3, 1) := by decide +kernel
theorem dX4_sumAt_85 : decode cX4_sumAt 85 = .ok (.iconst 0, 1) := by decide +kernel
theorem dX4_sumAt_86 : decode cX4_sumAt 86 = .ok (.invokevirtual 61, 3) := by decide +kernel
theorem dX4_sumAt_89 : decode cX4_sumAt 89 = .ok (.pop, 1) := by decide +kernel
theorem dX4_sumAt_90 : decode cX4_sumAt 90 = .ok (.iload 6, 2) := by decide +kernel
theorem dX4_sumAt_92 : decode cX4_sumAt 92 = .ok (.ifCond .eq 7, 3) := by decide +kernel
theorem dX4_sumAt_95 : decode cX4_sumAt 95 = .ok (.iload_n 3, 1) := by decide +kernel
theorem dX4_sumAt_96 : decode cX4_sumAt 96 = .ok (.goto 5, 3) := by decide +kernel
theorem dX4_sumAt_99 : decode cX4_sumAt 99 = .ok (.iload 5, 2) := by decide +kernel
theorem dX4_sumAt_101 : decode cX4_sumAt 101 = .ok (.istore_n 3, 1) := by decide +kernel
theorem dX4_sumAt_102 : decode cX4_sumAt 102 = .ok (.aload_n 0, 1) := by decide +kernel
theorem dX4_sumAt_103 : decode cX4_sumAt 103 = .ok (.iload 5, 2) := by decide +kernel
theorem dX4_sumAt_105 : decode cX4_sumAt 105 = .ok (.invokevirtual 45, 3) := by decide +kernel
theorem dX4_sumAt_108 : decode cX4_sumAt 108 = .ok (.ifCond .eq 15, 3) := by decide +kernel
theorem dX4_sumAt_111 : decode cX4_sumAt 111 = .ok (.aload_n 0, 1) := by decide +kernel
theorem dX4_sumAt_112 : decode cX4_sumAt 112 = .ok (.iload_n 1, 1) := by decide +kernel
theorem dX4_sumAt_113 : decode cX4_sumAt 113 = .ok (.invokevirtual 65, 3) := by decide +kernel
theorem dX4_sumAt_116 : decode cX4_sumAt 116 = .ok (.ifCond .eq 7, 3) := by decide +kernel
theorem dX4_sumAt_119 : decode cX4_sumAt 119 = .ok (.iconst 1, 1) := by decide +kernel
theorem dX4_sumAt_120 : decode cX4_sumAt 120 = .ok (.goto 4, 3) := by decide +kernel
theorem dX4_sumAt_123 : decode cX4_sumAt 123 = .ok (.iconst 0, 1) := by decide +kernel
theorem dX4_sumAt_124 : decode cX4_sumAt 124 = .ok (.istore_n 2, 1) := by decide +kernel
theorem dX4_sumAt_125 : decode cX4_sumAt 125 = .ok (.iload 6, 2) := by decide +kernel
theorem dX4_sumAt_127 : decode cX4_sumAt 127 = .ok (.ifCond .eq 14, 3) := by decide +kernel
theorem dX4_sumAt_130 : decode cX4_sumAt 130 = .ok (.aload_n 0, 1) := by decide +kernel
theorem dX4_sumAt_131 : decode cX4_sumAt 131 = .ok (.getfield 28, 3) := by decide +kernel
theorem dX4_sumAt_134 : decode cX4_sumAt 134 = .ok (.iload 5, 2) := by decide +kernel
theorem dX4_sumAt_136 : decode cX4_sumAt 136 = .ok (.iconst 0, 1) := by decide +kernel
theorem dX4_sumAt_137 : decode cX4_sumAt 137 = .ok (.invokevirtual 61, 3) := by decide +kernel
theorem dX4_sumAt_140 : decode cX4_sumAt 140 = .ok (.pop, 1) := by decide +kernel
theorem dX4_sumAt_141 : decode cX4_sumAt 141 = .ok (.iinc 4 1, 3) := by decide +kernel
theorem dX4_sumAt_144 : decode cX4_sumAt 144 = .ok (.goto (-132), 3) := by decide +kernel
theorem dX4_sumAt_147 : decode cX4_sumAt 147 = .ok (.iload_n 3, 1) := by decide +kernel
theorem dX4_sumAt_148 : decode cX4_sumAt 148 = .ok (.bipush 48, 2) := by decide +kernel
theorem dX4_sumAt_150 : decode cX4_sumAt 150 = .ok (.if_icmp .eq 13, 3) := by decide +kernel
theorem dX4_sumAt_153 : decode cX4_sumAt 153 = .ok (.aload_n 0, 1) := by decide +kernel
theorem dX4_sumAt_154 : decode cX4_sumAt 154 = .ok (.getfield 28, 3) := by decide +kernel
theorem dX4_sumAt_157 : decode cX4_sumAt 157 = .ok (.iload_n 3, 1) := by decide +kernel
theorem dX4_sumAt_158 : decode cX4_sumAt 158 = .ok (.iconst 0, 1) := by decide +kernel
theorem dX4_sumAt_159 : decode cX4_sumAt 159 = .ok (.invokevirtual 61, 3) := by decide +kernel
theorem dX4_sumAt_162 : decode cX4_sumAt 162 = .ok (.pop, 1) := by decide +kernel
theorem dX4_sumAt_163 : decode cX4_sumAt 163 = .ok (.iload_n 2, 1) := by decide +kernel
theorem dX4_sumAt_164 : decode cX4_sumAt 164 = .ok (.ireturn, 1) := by decide +kernel
theorem dX4_valueAt_0 : decode cX4_valueAt 0 = .ok (.iload_n 1, 1) := by decide +kernel
theorem dX4_valueAt_1 : decode cX4_valueAt 1 = .ok (.bipush 8, 2) := by decide +kernel
theorem dX4_valueAt_3 : decode cX4_valueAt 3 = .ok (.if_icmp .le 5, 3) := by decide +kernel
theorem dX4_valueAt_6 : decode cX4_valueAt 6 = .ok (.iconst 0, 1) := by decide +kernel
theorem dX4_valueAt_7 : decode cX4_valueAt 7 = .ok (.ireturn, 1) := by decide +kernel
theorem dX4_valueAt_8 : decode cX4_valueAt 8 = .ok (.aload_n 0, 1) := by decide +kernel
theorem dX4_valueAt_9 : decode cX4_valueAt 9 = .ok (.getfield 17, 3) := by decide +kernel
theorem dX4_valueAt_12 : decode cX4_valueAt 12 = .ok (.istore_n 2, 1) := by decide +kernel
theorem dX4_valueAt_13 : decode cX4_valueAt 13 = .ok (.iload_n 2, 1) := by decide +kernel
theorem dX4_valueAt_14 : decode cX4_valueAt 14 = .ok (.tableswitch 373 16 37 #[142, 170, 170, 170, 170, 170, 373, 373, 373, 373, 294, 294, 373, 102, 254, 373, 373, 373, 373, 373, 373, 210], 102) := by decide +kernel
theorem dX4_valueAt_116 : decode cX4_valueAt 116 = .ok (.aload_n 0, 1) := by decide +kernel
theorem dX4_valueAt_117 : decode cX4_valueAt 117 = .ok (.bipush 29, 2) := by decide +kernel
theorem dX4_valueAt_119 : decode cX4_valueAt 119 = .ok (.invokevirtual 45, 3) := by decide +kernel
theorem dX4_valueAt_122 : decode cX4_valueAt 122 = .ok (.ifCond .eq 32, 3) := by decide +kernel
theorem dX4_valueAt_125 : decode cX4_valueAt 125 = .ok (.aload_n 0, 1) := by decide +kernel
theorem dX4_valueAt_126 : decode cX4_valueAt 126 = .ok (.getfield 28, 3) := by decide +kernel
theorem dX4_valueAt_129 : decode cX4_valueAt 129 = .ok (.bipush 29, 2) := by decide +kernel
theorem dX4_valueAt_131 : decode cX4_valueAt 131 = .ok (.aload_n 0, 1) := by decide +kernel
theorem dX4_valueAt_132 : decode cX4_valueAt 132 = .ok (.getfield 24, 3) := by decide +kernel
theorem dX4_valueAt_135 : decode cX4_valueAt 135 = .ok (.aload_n 0, 1) := by decide +kernel
theorem dX4_valueAt_136 : decode cX4_valueAt 136 = .ok (.getfield 21, 3) := by decide +kernel
theorem dX4_valueAt_139 : decode cX4_valueAt 139 = .ok (.iconst 1, 1) := by decide +kernel
theorem dX4_valueAt_140 : decode cX4_valueAt 140 = .ok (.isub, 1) := by decide +kernel
theorem dX4_valueAt_141 : decode cX4_valueAt 141 = .ok (.invokevirtual 68, 3) := by decide +kernel
theorem dX4_valueAt_144 : decode cX4_valueAt 144 = .ok (.invokevirtual 61, 3) := by decide +kernel
theorem dX4_valueAt_147 : decode cX4_valueAt 147 = .ok (.ifCond .eq 7, 3) := by decide +kernel
theorem dX4_valueAt_150 : decode cX4_valueAt 150 = .ok (.iconst 1, 1) := by decide +kernel
theorem dX4_valueAt_151 : decode cX4_valueAt 151 = .ok (.goto 4, 3) := by decide +kernel
theorem dX4_valueAt_154 : decode cX4_valueAt 154 = .ok (.iconst 0, 1) := by decide +kernel
theorem dX4_valueAt_155 : decode cX4_valueAt 155 = .ok (.ireturn, 1) := by decide +kernel
theorem dX4_valueAt_156 : decode cX4_valueAt 156 = .ok (.aload_n 0, 1) := by decide +kernel
theorem dX4_valueAt_157 : decode cX4_valueAt 157 = .ok (.bipush 16, 2) := by decide +kernel
theorem dX4_valueAt_159 : decode cX4_valueAt 159 = .ok (.invokevirtual 45, 3) := by decide +kernel
theorem dX4_valueAt_162 : decode cX4_valueAt 162 = .ok (.ifCond .eq 20, 3) := by decide +kernel
theorem dX4_valueAt_165 : decode cX4_valueAt 165 = .ok (.aload_n 0, 1) := by decide +kernel
theorem dX4_valueAt_166 : decode cX4_valueAt 166 = .ok (.getfield 28, 3) := by decide +kernel
theorem dX4_valueAt_169 : decode cX4_valueAt 169 = .ok (.bipush 16, 2) := by decide +kernel
theorem dX4_valueAt_171 : decode cX4_valueAt 171 = .ok (.iconst 0, 1) := by decide +kernel
theorem dX4_valueAt_172 : decode cX4_valueAt 172 = .ok (.invokevirtual 61, 3) := by decide +kernel
theorem dX4_valueAt_175 : decode cX4_valueAt 175 = .ok (.ifCond .eq 7, 3) := by decide +kernel
theorem dX4_valueAt_178 : decode cX4_valueAt 178 = .ok (.iconst 1, 1) := by decide +kernel
theorem dX4_valueAt_179 : decode cX4_valueAt 179 = .ok (.goto 4, 3) := by decide +kernel
theorem dX4_valueAt_182 : decode cX4_valueAt 182 = .ok (.iconst 0, 1) := by decide +kernel
theorem dX4_valueAt_183 : decode cX4_valueAt 183 = .ok (.ireturn, 1) := by decide +kernel
theorem dX4_valueAt_184 : decode cX4_valueAt 184 = .ok (.aload_n 0, 1) := by decide +kernel
theorem dX4_valueAt_185 : decode cX4_valueAt 185 = .ok (.iload_n 2, 1) := by decide +kernel
theorem dX4_valueAt_186 : decode cX4_valueAt 186 = .ok (.invokevirtual 45, 3) := by decide +kernel
theorem dX4_valueAt_189 : decode cX4_valueAt 189 = .ok (.ifCond .eq 33, 3) := by decide +kernel
theorem dX4_valueAt_192 : decode cX4_valueAt 192 = .ok (.aload_n 0, 1) := by decide +kernel
theorem dX4_valueAt_193 : decode cX4_valueAt 193 = .ok (.bipush 28, 2) := by decide +kernel
theorem dX4_valueAt_195 : decode cX4_valueAt 195 = .ok (.invokevirtual 45, 3) := by decide +kernel
theorem dX4_valueAt_198 : decode cX4_valueAt 198 = .ok (.ifCond .eq 24, 3) := by decide +kernel
theorem dX4_valueAt_201 : decode cX4_valueAt 201 = .ok (.aload_n 0, 1) := by decide +kernel
theorem dX4_valueAt_202 : decode cX4_valueAt 202 = .ok (.getfield 28, 3) := by decide +kernel
theorem dX4_valueAt_205 : decode cX4_valueAt 205 = .ok (.iload_n 2, 1) := by decide +kernel
theorem dX4_valueAt_206 : decode cX4_valueAt 206 = .ok (.aload_n 0, 1) := by decide +kernel
theorem dX4_valueAt_207 : decode cX4_valueAt 207 = .ok (.getfield 21, 3) := by decide +kernel
theorem dX4_valueAt_210 : decode cX4_valueAt 210 = .ok (.iconst 1, 1) := by decide +kernel
theorem dX4_valueAt_211 : decode cX4_valueAt 211 = .ok (.isub, 1) := by decide +kernel
theorem dX4_valueAt_212 : decode cX4_valueAt 212 = .ok (.invokevirtual 61, 3) := by decide +kernel
theorem dX4_valueAt_215 : decode cX4_valueAt 215 = .ok (.ifCond .eq 7, 3) := by decide +kernel
theorem dX4_valueAt_218 : decode cX4_valueAt 218 = .ok (.iconst 1, 1) := by decide +kernel
theorem dX4_valueAt_219 : decode cX4_valueAt 219 = .ok (.goto 4, 3) := by decide +kernel
theorem dX4_valueAt_222 : decode cX4_valueAt 222 = .ok (.iconst 0, 1) := by decide +kernel
theorem dX4_valueAt_223 : decode cX4_valueAt 223 = .ok (.ireturn, 1) := by decide +kernel
theorem dX4_valueAt_224 : decode cX4_valueAt 224 = .ok (.iload_n 1, 1) := by decide +kernel
theorem dX4_valueAt_225 : decode cX4_valueAt 225 = .ok (.bipush 8, 2) := by decide +kernel
theorem dX4_valueAt_227 : decode cX4_valueAt 227 = .ok (.if_icmp .ge 39, 3) := by decide +kernel
theorem dX4_valueAt_230 : decode cX4_valueAt 230 = .ok (.aload_n 0, 1) := by decide +kernel
theorem dX4_valueAt_231 : decode cX4_valueAt 231 = .ok (.bipush 37, 2) := by decide +kernel
theorem dX4_valueAt_233 : decode cX4_valueAt 233 = .ok (.invokevirtual 45, 3) := by decide +kernel
theorem dX4_valueAt_236 : decode cX4_valueAt 236 = .ok (.ifCond .eq 30, 3) := by decide +kernel
theorem dX4_valueAt_239 : decode cX4_valueAt 239 = .ok (.aload_n 0, 1) := by decide +kernel
theorem dX4_valueAt_240 : decode cX4_valueAt 240 = .ok (.iload_n 1, 1) := by decide +kernel
theorem dX4_valueAt_241 : decode cX4_valueAt 241 = .ok (.iconst 1, 1) := by decide +kernel
theorem dX4_valueAt_242 : decode cX4_valueAt 242 = .ok (.iadd, 1) := by decide +kernel
theorem dX4_valueAt_243 : decode cX4_valueAt 243 = .ok (.invokevirtual 65, 3) := by decide +kernel
theorem dX4_valueAt_246 : decode cX4_valueAt 246 = .ok (.ifCond .eq 20, 3) := by decide +kernel
theorem dX4_valueAt_249 : decode cX4_valueAt 249 = .ok (.aload_n 0, 1) := by decide +kernel
theorem dX4_valueAt_250 : decode cX4_valueAt 250 = .ok (.getfield 28, 3) := by decide +kernel
theorem dX4_valueAt_253 : decode cX4_valueAt 253 = .ok (.bipush 47, 2) := by decide +kernel
theorem dX4_valueAt_255 : decode cX4_valueAt 255 = .ok (.iconst 0, 1) := by decide +kernel
theorem dX4_valueAt_256 : decode cX4_valueAt 256 = .ok (.invokevirtual 61, 3) := by decide +kernel
theorem dX4_valueAt_259 : decode cX4_valueAt 259 = .ok (.ifCond .eq 7, 3) := by decide +kernel
theorem dX4_valueAt_262 : decode cX4_valueAt 262 = .ok (.iconst 1, 1) := by decide +kernel
theorem dX4_valueAt_263 : decode cX4_valueAt 263 = .ok (.goto 4, 3) := by decide +kernel
theorem dX4_valueAt_266 : decode cX4_valueAt 266 = .ok (.iconst 0, 1) := by decide +kernel
theorem dX4_valueAt_267 : decode cX4_valueAt 267 = .ok (.ireturn, 1) := by decide +kernel
theorem dX4_valueAt_268 : decode cX4_valueAt 268 = .ok (.iload_n 1, 1) := by decide +kernel
theorem dX4_valueAt_269 : decode cX4_valueAt 269 = .ok (.bipush 8, 2) := by decide +kernel
theorem dX4_valueAt_271 : decode cX4_valueAt 271 = .ok (.if_icmp .ge 35, 3) := by decide +kernel
theorem dX4_valueAt_274 : decode cX4_valueAt 274 = .ok (.aload_n 0, 1) := by decide +kernel
theorem dX4_valueAt_275 : decode cX4_valueAt 275 = .ok (.bipush 30, 2) := by decide +kernel
theorem dX4_valueAt_277 : decode cX4_valueAt 277 = .ok (.invokevirtual 45, 3) := by decide +kernel
theorem dX4_valueAt_280 : decode cX4_valueAt 280 = .ok (.ifCond .eq 26, 3) := by decide +kernel
theorem dX4_valueAt_283 : decode cX4_valueAt 283 = .ok (.aload_n 0, 1) := by decide +kernel
theorem dX4_valueAt_284 : decode cX4_valueAt 284 = .ok (.iload_n 1, 1) := by decide +kernel
theorem dX4_valueAt_285 : decode cX4_valueAt 285 = .ok (.iconst 1, 1) := by decide +kernel
theorem dX4_valueAt_286 : decode cX4_valueAt 286 = .ok (.iadd, 1) := by decide +kernel
theorem dX4_valueAt_287 : decode cX4_valueAt 287 = .ok (.invokevirtual 52, 3) := by decide +kernel
theorem dX4_valueAt_290 : decode cX4_valueAt 290 = .ok (.ifCond .eq 16, 3) := by decide +kernel
theorem dX4_valueAt_293 : decode cX4_valueAt 293 = .ok (.aload_n 0, 1) := by decide +kernel
theorem dX4_valueAt_294 : decode cX4_valueAt 294 = .ok (.bipush 31, 2) := by decide +kernel
theorem dX4_valueAt_296 : decode cX4_valueAt 296 = .ok (.invokevirtual 45, 3) := by decide +kernel
theorem dX4_valueAt_299 : decode cX4_valueAt 299 = .ok (.ifCond .eq 7, 3) := by decide +kernel
theorem dX4_valueAt_302 : decode cX4_valueAt 302 = .ok (.iconst 1, 1) := by decide +kernel
theorem dX4_valueAt_303 : decode cX4_valueAt 303 = .ok (.goto 4, 3) := by decide +kernel
theorem dX4_valueAt_306 : decode cX4_valueAt 306 = .ok (.iconst 0, 1) := by decide +kernel
theorem dX4_valueAt_307 : decode cX4_valueAt 307 = .ok (.ireturn, 1) := by decide +kernel
theorem dX4_valueAt_308 : decode cX4_valueAt 308 = .ok (.aload_n 0, 1) := by decide +kernel
theorem dX4_valueAt_309 : decode cX4_valueAt 309 = .ok (.iload_n 2, 1) := by decide +kernel
theorem dX4_valueAt_310 : decode cX4_valueAt 310 = .ok (.invokevirtual 45, 3) := by decide +kernel
theorem dX4_valueAt_313 : decode cX4_valueAt 313 = .ok (.ifCond .eq 72, 3) := by decide +kernel
theorem dX4_valueAt_316 : decode cX4_valueAt 316 = .ok (.iload_n 1, 1) := by decide +kernel
theorem dX4_valueAt_317 : decode cX4_valueAt 317 = .ok (.bipush 8, 2) := by decide +kernel
theorem dX4_valueAt_319 : decode cX4_valueAt 319 = .ok (.if_icmp .ge 66, 3) := by decide +kernel
theorem dX4_valueAt_322 : decode cX4_valueAt 322 = .ok (.aload_n 0, 1) := by decide +kernel
theorem dX4_valueAt_323 : decode cX4_valueAt 323 = .ok (.bipush 30, 2) := by decide +kernel
theorem dX4_valueAt_325 : decode cX4_valueAt 325 = .ok (.invokevirtual 45, 3) := by decide +kernel
theorem dX4_valueAt_328 : decode cX4_valueAt 328 = .ok (.ifCond .eq 57, 3) := by decide +kernel
theorem dX4_valueAt_331 : decode cX4_valueAt 331 = .ok (.aload_n 0, 1) := by decide +kernel
theorem dX4_valueAt_332 : decode cX4_valueAt 332 = .ok (.iload_n 1, 1) := by decide +kernel
theorem dX4_valueAt_333 : decode cX4_valueAt 333 = .ok (.iconst 1, 1) := by decide +kernel
theorem dX4_valueAt_334 : decode cX4_valueAt 334 = .ok (.iadd, 1) := by decide +kernel
theorem dX4_valueAt_335 : decode cX4_valueAt 335 = .ok (.invokevirtual 52, 3) := by decide +kernel
theorem dX4_valueAt_338 : decode cX4_valueAt 338 = .ok (.ifCond .eq 47, 3) := by decide +kernel
theorem dX4_valueAt_341 : decode cX4_valueAt 341 = .ok (.aload_n 0, 1) := by decide +kernel
theorem dX4_valueAt_342 : decode cX4_valueAt 342 = .ok (.bipush 35, 2) := by decide +kernel
theorem dX4_valueAt_344 : decode cX4_valueAt 344 = .ok (.invokevirtual 45, 3) := by decide +kernel
theorem dX4_valueAt_347 : decode cX4_valueAt 347 = .ok (.ifCond .eq 38, 3) := by decide +kernel
theorem dX4_valueAt_350 : decode cX4_valueAt 350 = .ok (.aload_n 0, 1) := by decide +kernel
theorem dX4_valueAt_351 : decode cX4_valueAt 351 = .ok (.iload_n 1, 1) := by decide +kernel
theorem dX4_valueAt_352 : decode cX4_valueAt 352 = .ok (.iconst 1, 1) := by decide +kernel
theorem dX4_valueAt_353 : decode cX4_valueAt 353 = .ok (.iadd, 1) := by decide +kernel
theorem dX4_valueAt_354 : decode cX4_valueAt 354 = .ok (.invokevirtual 52, 3) := by decide +kernel
theorem dX4_valueAt_357 : decode cX4_valueAt 357 = .ok (.ifCond .eq 28, 3) := by decide +kernel
theorem dX4_valueAt_360 : decode cX4_valueAt 360 = .ok (.aload_n 0, 1) := by decide +kernel
theorem dX4_valueAt_361 : decode cX4_valueAt 361 = .ok (.bipush 31, 2) := by decide +kernel
theorem dX4_valueAt_363 : decode cX4_valueAt 363 = .ok (.invokevirtual 45, 3) := by decide +kernel
theorem dX4_valueAt_366 : decode cX4_valueAt 366 = .ok (.ifCond .eq 19, 3) := by decide +kernel
theorem dX4_valueAt_369 : decode cX4_valueAt 369 = .ok (.aload_n 0, 1) := by decide +kernel
theorem dX4_valueAt_370 : decode cX4_valueAt 370 = .ok (.getfield 28, 3) := by decide +kernel
theorem dX4_valueAt_373 : decode cX4_valueAt 373 = .ok (.iload_n 2, 1) := by decide +kernel
theorem dX4_valueAt_374 : decode cX4_valueAt 374 = .ok (.iconst 0, 1) := by decide +kernel
theorem dX4_valueAt_375 : decode cX4_valueAt 375 = .ok (.invokevirtual 61, 3) := by decide +kernel
theorem dX4_valueAt_378 : decode cX4_valueAt 378 = .ok (.ifCond .eq 7, 3) := by decide +kernel
theorem dX4_valueAt_381 : decode cX4_valueAt 381 = .ok (.iconst 1, 1) := by decide +kernel
theorem dX4_valueAt_382 : decode cX4_valueAt 382 = .ok (.goto 4, 3) := by decide +kernel
theorem dX4_valueAt_385 : decode cX4_valueAt 385 = .ok (.iconst 0, 1) := by decide +kernel
theorem dX4_valueAt_386 : decode cX4_valueAt 386 = .ok (.ireturn, 1) := by decide +kernel
theorem dX4_valueAt_387 : decode cX4_valueAt 387 = .ok (.iconst 0, 1) := by decide +kernel
theorem dX4_valueAt_388 : decode cX4_valueAt 388 = .ok (.ireturn, 1) := by decide +kernel
theorem dX4_take_0 : decode cX4_take 0 = .ok (.aload_n 0, 1) := by decide +kernel
theorem dX4_take_1 : decode cX4_take 1 = .ok (.getfield 17, 3) := by decide +kernel
theorem dX4_take_4 : decode cX4_take 4 = .ok (.iload_n 1, 1) := by decide +kernel
theorem dX4_take_5 : decode cX4_take 5 = .ok (.if_icmp .ne 13, 3) := by decide +kernel
theorem dX4_take_8 : decode cX4_take 8 = .ok (.aload_n 0, 1) := by decide +kernel
theorem dX4_take_9 : decode cX4_take 9 = .ok (.getfield 21, 3) := by decide +kernel
theorem dX4_take_12 : decode cX4_take 12 = .ok (.sipush 400, 3) := by decide +kernel
theorem dX4_take_15 : decode cX4_take 15 = .ok (.if_icmp .lt 5, 3) := by decide +kernel
theorem dX4_take_18 : decode cX4_take 18 = .ok (.iconst 0, 1) := by decide +kernel
theorem dX4_take_19 : decode cX4_take 19 = .ok (.ireturn, 1) := by decide +kernel
theorem dX4_take_20 : decode cX4_take 20 = .ok (.aload_n 0, 1) := by decide +kernel
theorem dX4_take_21 : decode cX4_take 21 = .ok (.getfield 9, 3) := by decide +kernel
theorem dX4_take_24 : decode cX4_take 24 = .ok (.aload_n 0, 1) := by decide +kernel
theorem dX4_take_25 : decode cX4_take 25 = .ok (.getfield 21, 3) := by decide +kernel
theorem dX4_take_28 : decode cX4_take 28 = .ok (.aload_n 0, 1) := by decide +kernel
theorem dX4_take_29 : decode cX4_take 29 = .ok (.getfield 28, 3) := by decide +kernel
theorem dX4_take_32 : decode cX4_take 32 = .ok (.getfield 71, 3) := by decide +kernel
theorem dX4_take_35 : decode cX4_take 35 = .ok (.iastore, 1) := by decide +kernel
theorem dX4_take_36 : decode cX4_take 36 = .ok (.aload_n 0, 1) := by decide +kernel
theorem dX4_take_37 : decode cX4_take 37 = .ok (.dup, 1) := by decide +kernel
theorem dX4_take_38 : decode cX4_take 38 = .ok (.getfield 21, 3) := by decide +kernel
theorem dX4_take_41 : decode cX4_take 41 = .ok (.iconst 1, 1) := by decide +kernel
theorem dX4_take_42 : decode cX4_take 42 = .ok (.iadd, 1) := by decide +kernel
theorem dX4_take_43 : decode cX4_take 43 = .ok (.putfield 21, 3) := by decide +kernel
theorem dX4_take_46 : decode cX4_take 46 = .ok (.aload_n 0, 1) := by decide +kernel
theorem dX4_take_47 : decode cX4_take 47 = .ok (.aload_n 0, 1) := by decide +kernel
theorem dX4_take_48 : decode cX4_take 48 = .ok (.getfield 24, 3) := by decide +kernel
theorem dX4_take_51 : decode cX4_take 51 = .ok (.getfield 74, 3) := by decide +kernel
theorem dX4_take_54 : decode cX4_take 54 = .ok (.aload_n 0, 1) := by decide +kernel
theorem dX4_take_55 : decode cX4_take 55 = .ok (.getfield 21, 3) := by decide +kernel
theorem dX4_take_58 : decode cX4_take 58 = .ok (.iaload, 1) := by decide +kernel
theorem dX4_take_59 : decode cX4_take 59 = .ok (.putfield 17, 3) := by decide +kernel
theorem dX4_take_62 : decode cX4_take 62 = .ok (.iconst 1, 1) := by decide +kernel
theorem dX4_take_63 : decode cX4_take 63 = .ok (.ireturn, 1) := by decide +kernel
