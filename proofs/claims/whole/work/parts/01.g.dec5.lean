theorem dX12_change_66 : decode cX12_change 66 = .ok (.iload_n 2, 1) := by decide +kernel
theorem dX12_change_67 : decode cX12_change 67 = .ok (.iaload, 1) := by decide +kernel
theorem dX12_change_68 : decode cX12_change 68 = .ok (.iastore, 1) := by decide +kernel
theorem dX12_change_69 : decode cX12_change 69 = .ok (.iinc 2 1, 3) := by decide +kernel
theorem dX12_change_72 : decode cX12_change 72 = .ok (.goto (-31), 3) := by decide +kernel
theorem dX12_change_75 : decode cX12_change 75 = .ok (.return_, 1) := by decide +kernel
theorem dX12_errorAt_0 : decode cX12_errorAt 0 = .ok (.aload_n 0, 1) := by decide +kernel
theorem dX12_errorAt_1 : decode cX12_errorAt 1 = .ok (.iconst 0, 1) := by decide +kernel
theorem dX12_errorAt_2 : decode cX12_errorAt 2 = .ok (.putfield 1, 3) := by decide +kernel
theorem dX12_errorAt_5 : decode cX12_errorAt 5 = .ok (.aload_n 0, 1) := by decide +kernel
theorem dX12_errorAt_6 : decode cX12_errorAt 6 = .ok (.getfield 81, 3) := by decide +kernel
theorem dX12_errorAt_9 : decode cX12_errorAt 9 = .ok (.ireturn, 1) := by decide +kernel
theorem dX12_digits_0 : decode cX12_digits 0 = .ok (.iconst 0, 1) := by decide +kernel
theorem dX12_digits_1 : decode cX12_digits 1 = .ok (.istore_n 1, 1) := by decide +kernel
theorem dX12_digits_2 : decode cX12_digits 2 = .ok (.iload_n 0, 1) := by decide +kernel
theorem dX12_digits_3 : decode cX12_digits 3 = .ok (.istore_n 2, 1) := by decide +kernel
theorem dX12_digits_4 : decode cX12_digits 4 = .ok (.iload_n 2, 1) := by decide +kernel
theorem dX12_digits_5 : decode cX12_digits 5 = .ok (.ifCond .le 18, 3) := by decide +kernel
theorem dX12_digits_8 : decode cX12_digits 8 = .ok (.iload_n 1, 1) := by decide +kernel
theorem dX12_digits_9 : decode cX12_digits 9 = .ok (.iload_n 2, 1) := by decide +kernel
theorem dX12_digits_10 : decode cX12_digits 10 = .ok (.bipush 10, 2) := by decide +kernel
theorem dX12_digits_12 : decode cX12_digits 12 = .ok (.irem, 1) := by decide +kernel
theorem dX12_digits_13 : decode cX12_digits 13 = .ok (.iadd, 1) := by decide +kernel
theorem dX12_digits_14 : decode cX12_digits 14 = .ok (.istore_n 1, 1) := by decide +kernel
theorem dX12_digits_15 : decode cX12_digits 15 = .ok (.iload_n 2, 1) := by decide +kernel
theorem dX12_digits_16 : decode cX12_digits 16 = .ok (.bipush 10, 2) := by decide +kernel
theorem dX12_digits_18 : decode cX12_digits 18 = .ok (.idiv, 1) := by decide +kernel
theorem dX12_digits_19 : decode cX12_digits 19 = .ok (.istore_n 2, 1) := by decide +kernel
theorem dX12_digits_20 : decode cX12_digits 20 = .ok (.goto (-16), 3) := by decide +kernel
theorem dX12_digits_23 : decode cX12_digits 23 = .ok (.iload_n 1, 1) := by decide +kernel
theorem dX12_digits_24 : decode cX12_digits 24 = .ok (.ireturn, 1) := by decide +kernel
theorem dX12_knots_0 : decode cX12_knots 0 = .ok (.iload_n 0, 1) := by decide +kernel
theorem dX12_knots_1 : decode cX12_knots 1 = .ok (.bipush 10, 2) := by decide +kernel
theorem dX12_knots_3 : decode cX12_knots 3 = .ok (.idiv, 1) := by decide +kernel
theorem dX12_knots_4 : decode cX12_knots 4 = .ok (.invokestatic 284, 3) := by decide +kernel
theorem dX12_knots_7 : decode cX12_knots 7 = .ok (.iload_n 0, 1) := by decide +kernel
theorem dX12_knots_8 : decode cX12_knots 8 = .ok (.bipush 10, 2) := by decide +kernel
theorem dX12_knots_10 : decode cX12_knots 10 = .ok (.irem, 1) := by decide +kernel
theorem dX12_knots_11 : decode cX12_knots 11 = .ok (.ifCond .le 7, 3) := by decide +kernel
theorem dX12_knots_14 : decode cX12_knots 14 = .ok (.iconst 1, 1) := by decide +kernel
theorem dX12_knots_15 : decode cX12_knots 15 = .ok (.goto 4, 3) := by decide +kernel
theorem dX12_knots_18 : decode cX12_knots 18 = .ok (.iconst 0, 1) := by decide +kernel
theorem dX12_knots_19 : decode cX12_knots 19 = .ok (.iadd, 1) := by decide +kernel
theorem dX12_knots_20 : decode cX12_knots 20 = .ok (.ireturn, 1) := by decide +kernel
theorem dX12_turns_0 : decode cX12_turns 0 = .ok (.iload_n 0, 1) := by decide +kernel
theorem dX12_turns_1 : decode cX12_turns 1 = .ok (.bipush 10, 2) := by decide +kernel
theorem dX12_turns_3 : decode cX12_turns 3 = .ok (.idiv, 1) := by decide +kernel
theorem dX12_turns_4 : decode cX12_turns 4 = .ok (.invokestatic 284, 3) := by decide +kernel
theorem dX12_turns_7 : decode cX12_turns 7 = .ok (.iload_n 0, 1) := by decide +kernel
theorem dX12_turns_8 : decode cX12_turns 8 = .ok (.bipush 10, 2) := by decide +kernel
theorem dX12_turns_10 : decode cX12_turns 10 = .ok (.irem, 1) := by decide +kernel
theorem dX12_turns_11 : decode cX12_turns 11 = .ok (.iconst 1, 1) := by decide +kernel
theorem dX12_turns_12 : decode cX12_turns 12 = .ok (.if_icmp .ne 7, 3) := by decide +kernel
theorem dX12_turns_15 : decode cX12_turns 15 = .ok (.iconst 2, 1) := by decide +kernel
theorem dX12_turns_16 : decode cX12_turns 16 = .ok (.goto 7, 3) := by decide +kernel
theorem dX12_turns_19 : decode cX12_turns 19 = .ok (.iload_n 0, 1) := by decide +kernel
theorem dX12_turns_20 : decode cX12_turns 20 = .ok (.bipush 10, 2) := by decide +kernel
theorem dX12_turns_22 : decode cX12_turns 22 = .ok (.irem, 1) := by decide +kernel
theorem dX12_turns_23 : decode cX12_turns 23 = .ok (.iadd, 1) := by decide +kernel
theorem dX12_turns_24 : decode cX12_turns 24 = .ok (.ireturn, 1) := by decide +kernel
theorem dX12_sumOf_0 : decode cX12_sumOf 0 = .ok (.aload_n 1, 1) := by decide +kernel
theorem dX12_sumOf_1 : decode cX12_sumOf 1 = .ok (.iconst 3, 1) := by decide +kernel
theorem dX12_sumOf_2 : decode cX12_sumOf 2 = .ok (.iload_n 2, 1) := by decide +kernel
theorem dX12_sumOf_3 : decode cX12_sumOf 3 = .ok (.iadd, 1) := by decide +kernel
theorem dX12_sumOf_4 : decode cX12_sumOf 4 = .ok (.iaload, 1) := by decide +kernel
theorem dX12_sumOf_5 : decode cX12_sumOf 5 = .ok (.istore_n 3, 1) := by decide +kernel
theorem dX12_sumOf_6 : decode cX12_sumOf 6 = .ok (.iconst 0, 1) := by decide +kernel
theorem dX12_sumOf_7 : decode cX12_sumOf 7 = .ok (.istore 4, 2) := by decide +kernel
theorem dX12_sumOf_9 : decode cX12_sumOf 9 = .ok (.iload 4, 2) := by decide +kernel
theorem dX12_sumOf_11 : decode cX12_sumOf 11 = .ok (.aload_n 0, 1) := by decide +kernel
theorem dX12_sumOf_12 : decode cX12_sumOf 12 = .ok (.getfield 87, 3) := by decide +kernel
theorem dX12_sumOf_15 : decode cX12_sumOf 15 = .ok (.getfield 161, 3) := by decide +kernel
theorem dX12_sumOf_18 : decode cX12_sumOf 18 = .ok (.if_icmp .ge 33, 3) := by decide +kernel
theorem dX12_sumOf_21 : decode cX12_sumOf 21 = .ok (.aload_n 0, 1) := by decide +kernel
theorem dX12_sumOf_22 : decode cX12_sumOf 22 = .ok (.getfield 87, 3) := by decide +kernel
theorem dX12_sumOf_25 : decode cX12_sumOf 25 = .ok (.getfield 248, 3) := by decide +kernel
theorem dX12_sumOf_28 : decode cX12_sumOf 28 = .ok (.iload 4, 2) := by decide +kernel
theorem dX12_sumOf_30 : decode cX12_sumOf 30 = .ok (.iaload, 1) := by decide +kernel
theorem dX12_sumOf_31 : decode cX12_sumOf 31 = .ok (.iload_n 2, 1) := by decide +kernel
theorem dX12_sumOf_32 : decode cX12_sumOf 32 = .ok (.if_icmp .ne 13, 3) := by decide +kernel
theorem dX12_sumOf_35 : decode cX12_sumOf 35 = .ok (.iload_n 3, 1) := by decide +kernel
theorem dX12_sumOf_36 : decode cX12_sumOf 36 = .ok (.aload_n 0, 1) := by decide +kernel
theorem dX12_sumOf_37 : decode cX12_sumOf 37 = .ok (.aload_n 1, 1) := by decide +kernel
theorem dX12_sumOf_38 : decode cX12_sumOf 38 = .ok (.iload 4, 2) := by decide +kernel
theorem dX12_sumOf_40 : decode cX12_sumOf 40 = .ok (.invokevirtual 287, 3) := by decide +kernel
theorem dX12_sumOf_43 : decode cX12_sumOf 43 = .ok (.iadd, 1) := by decide +kernel
theorem dX12_sumOf_44 : decode cX12_sumOf 44 = .ok (.istore_n 3, 1) := by decide +kernel
theorem dX12_sumOf_45 : decode cX12_sumOf 45 = .ok (.iinc 4 1, 3) := by decide +kernel
theorem dX12_sumOf_48 : decode cX12_sumOf 48 = .ok (.goto (-39), 3) := by decide +kernel
theorem dX12_sumOf_51 : decode cX12_sumOf 51 = .ok (.iload_n 3, 1) := by decide +kernel
theorem dX12_sumOf_52 : decode cX12_sumOf 52 = .ok (.ireturn, 1) := by decide +kernel
theorem dX12_due_0 : decode cX12_due 0 = .ok (.iconst 0, 1) := by decide +kernel
theorem dX12_due_1 : decode cX12_due 1 = .ok (.istore_n 3, 1) := by decide +kernel
theorem dX12_due_2 : decode cX12_due 2 = .ok (.iconst 1, 1) := by decide +kernel
theorem dX12_due_3 : decode cX12_due 3 = .ok (.istore 4, 2) := by decide +kernel
theorem dX12_due_5 : decode cX12_due 5 = .ok (.iload 4, 2) := by decide +kernel
theorem dX12_due_7 : decode cX12_due 7 = .ok (.aload_n 0, 1) := by decide +kernel
theorem dX12_due_8 : decode cX12_due 8 = .ok (.getfield 87, 3) := by decide +kernel
theorem dX12_due_11 : decode cX12_due 11 = .ok (.getfield 260, 3) := by decide +kernel
theorem dX12_due_14 : decode cX12_due 14 = .ok (.bipush 9, 2) := by decide +kernel
theorem dX12_due_16 : decode cX12_due 16 = .ok (.iload_n 2, 1) := by decide +kernel
theorem dX12_due_17 : decode cX12_due 17 = .ok (.imul, 1) := by decide +kernel
theorem dX12_due_18 : decode cX12_due 18 = .ok (.iaload, 1) := by decide +kernel
theorem dX12_due_19 : decode cX12_due 19 = .ok (.if_icmp .gt 32, 3) := by decide +kernel
theorem dX12_due_22 : decode cX12_due 22 = .ok (.iload_n 3, 1) := by decide +kernel
theorem dX12_due_23 : decode cX12_due 23 = .ok (.aload_n 0, 1) := by decide +kernel
theorem dX12_due_24 : decode cX12_due 24 = .ok (.aload_n 1, 1) := by decide +kernel
theorem dX12_due_25 : decode cX12_due 25 = .ok (.aload_n 0, 1) := by decide +kernel
theorem dX12_due_26 : decode cX12_due 26 = .ok (.getfield 87, 3) := by decide +kernel
theorem dX12_due_29 : decode cX12_due 29 = .ok (.getfield 260, 3) := by decide +kernel
theorem dX12_due_32 : decode cX12_due 32 = .ok (.bipush 9, 2) := by decide +kernel
theorem dX12_due_34 : decode cX12_due 34 = .ok (.iload_n 2, 1) := by decide +kernel
theorem dX12_due_35 : decode cX12_due 35 = .ok (.imul, 1) := by decide +kernel
theorem dX12_due_36 : decode cX12_due 36 = .ok (.iload 4, 2) := by decide +kernel
theorem dX12_due_38 : decode cX12_due 38 = .ok (.iadd, 1) := by decide +kernel
theorem dX12_due_39 : decode cX12_due 39 = .ok (.iaload, 1) := by decide +kernel
theorem dX12_due_40 : decode cX12_due 40 = .ok (.invokevirtual 287, 3) := by decide +kernel
theorem dX12_due_43 : decode cX12_due 43 = .ok (.iadd, 1) := by decide +kernel
theorem dX12_due_44 : decode cX12_due 44 = .ok (.istore_n 3, 1) := by decide +kernel
theorem dX12_due_45 : decode cX12_due 45 = .ok (.iinc 4 1, 3) := by decide +kernel
theorem dX12_due_48 : decode cX12_due 48 = .ok (.goto (-43), 3) := by decide +kernel
theorem dX12_due_51 : decode cX12_due 51 = .ok (.iload_n 3, 1) := by decide +kernel
theorem dX12_due_52 : decode cX12_due 52 = .ok (.ireturn, 1) := by decide +kernel
theorem dX12_isWrong_0 : decode cX12_isWrong 0 = .ok (.aload_n 1, 1) := by decide +kernel
theorem dX12_isWrong_1 : decode cX12_isWrong 1 = .ok (.bipush 19, 2) := by decide +kernel
theorem dX12_isWrong_3 : decode cX12_isWrong 3 = .ok (.iload_n 2, 1) := by decide +kernel
theorem dX12_isWrong_4 : decode cX12_isWrong 4 = .ok (.iadd, 1) := by decide +kernel
theorem dX12_isWrong_5 : decode cX12_isWrong 5 = .ok (.iaload, 1) := by decide +kernel
theorem dX12_isWrong_6 : decode cX12_isWrong 6 = .ok (.aload_n 0, 1) := by decide +kernel
theorem dX12_isWrong_7 : decode cX12_isWrong 7 = .ok (.aload_n 1, 1) := by decide +kernel
theorem dX12_isWrong_8 : decode cX12_isWrong 8 = .ok (.iload_n 2, 1) := by decide +kernel
theorem dX12_isWrong_9 : decode cX12_isWrong 9 = .ok (.invokevirtual 290, 3) := by decide +kernel
theorem dX12_isWrong_12 : decode cX12_isWrong 12 = .ok (.if_icmp .eq 7, 3) := by decide +kernel
theorem dX12_isWrong_15 : decode cX12_isWrong 15 = .ok (.iconst 1, 1) := by decide +kernel
theorem dX12_isWrong_16 : decode cX12_isWrong 16 = .ok (.goto 4, 3) := by decide +kernel
theorem dX12_isWrong_19 : decode cX12_isWrong 19 = .ok (.iconst 0, 1) := by decide +kernel
theorem dX12_isWrong_20 : decode cX12_isWrong 20 = .ok (.ireturn, 1) := by decide +kernel
theorem dX12_reckon_0 : decode cX12_reckon 0 = .ok (.aload_n 0, 1) := by decide +kernel
theorem dX12_reckon_1 : decode cX12_reckon 1 = .ok (.getfield 87, 3) := by decide +kernel
theorem dX12_reckon_4 : decode cX12_reckon 4 = .ok (.getfield 293, 3) := by decide +kernel
theorem dX12_reckon_7 : decode cX12_reckon 7 = .ok (.iload_n 1, 1) := by decide +kernel
theorem dX12_reckon_8 : decode cX12_reckon 8 = .ok (.iaload, 1) := by decide +kernel
theorem dX12_reckon_9 : decode cX12_reckon 9 = .ok (.istore_n 3, 1) := by decide +kernel
theorem dX12_reckon_10 : decode cX12_reckon 10 = .ok (.aload_n 0, 1) := by decide +kernel
theorem dX12_reckon_11 : decode cX12_reckon 11 = .ok (.getfield 87, 3) := by decide +kernel
theorem dX12_reckon_14 : decode cX12_reckon 14 = .ok (.getfield 295, 3) := by decide +kernel
theorem dX12_reckon_17 : decode cX12_reckon 17 = .ok (.iload_n 1, 1) := by decide +kernel
theorem dX12_reckon_18 : decode cX12_reckon 18 = .ok (.iaload, 1) := by decide +kernel
theorem dX12_reckon_19 : decode cX12_reckon 19 = .ok (.istore 4, 2) := by decide +kernel
theorem dX12_reckon_21 : decode cX12_reckon 21 = .ok (.aload_n 0, 1) := by decide +kernel
theorem dX12_reckon_22 : decode cX12_reckon 22 = .ok (.getfield 87, 3) := by decide +kernel
theorem dX12_reckon_25 : decode cX12_reckon 25 = .ok (.getfield 298, 3) := by decide +kernel
theorem dX12_reckon_28 : decode cX12_reckon 28 = .ok (.iload_n 1, 1) := by decide +kernel
theorem dX12_reckon_29 : decode cX12_reckon 29 = .ok (.iaload, 1) := by decide +kernel
theorem dX12_reckon_30 : decode cX12_reckon 30 = .ok (.lookupswitch 245 #[(16, 116), (17, 120), (18, 126), (19, 133), (20, 142), (21, 149), (26, 164), (27, 181), (35, 114), (42, 198), (45, 230), (47, 213), (110, 156)], 114) := by decide +kernel
theorem dX12_reckon_144 : decode cX12_reckon 144 = .ok (.iload_n 3, 1) := by decide +kernel
theorem dX12_reckon_145 : decode cX12_reckon 145 = .ok (.ireturn, 1) := by decide +kernel
theorem dX12_reckon_146 : decode cX12_reckon 146 = .ok (.aload_n 2, 1) := by decide +kernel
theorem dX12_reckon_147 : decode cX12_reckon 147 = .ok (.iconst 0, 1) := by decide +kernel
theorem dX12_reckon_148 : decode cX12_reckon 148 = .ok (.iaload, 1) := by decide +kernel
theorem dX12_reckon_149 : decode cX12_reckon 149 = .ok (.ireturn, 1) := by decide +kernel
theorem dX12_reckon_150 : decode cX12_reckon 150 = .ok (.aload_n 2, 1) := by decide +kernel
theorem dX12_reckon_151 : decode cX12_reckon 151 = .ok (.iconst 3, 1) := by decide +kernel
theorem dX12_reckon_152 : decode cX12_reckon 152 = .ok (.iload_n 3, 1) := by decide +kernel
theorem dX12_reckon_153 : decode cX12_reckon 153 = .ok (.iadd, 1) := by decide +kernel
theorem dX12_reckon_154 : decode cX12_reckon 154 = .ok (.iaload, 1) := by decide +kernel
theorem dX12_reckon_155 : decode cX12_reckon 155 = .ok (.ireturn, 1) := by decide +kernel
theorem dX12_reckon_156 : decode cX12_reckon 156 = .ok (.aload_n 0, 1) := by decide +kernel
theorem dX12_reckon_157 : decode cX12_reckon 157 = .ok (.aload_n 2, 1) := by decide +kernel
theorem dX12_reckon_158 : decode cX12_reckon 158 = .ok (.iload_n 3, 1) := by decide +kernel
theorem dX12_reckon_159 : decode cX12_reckon 159 = .ok (.invokevirtual 287, 3) := by decide +kernel
theorem dX12_reckon_162 : decode cX12_reckon 162 = .ok (.ireturn, 1) := by decide +kernel
theorem dX12_reckon_163 : decode cX12_reckon 163 = .ok (.aload_n 2, 1) := by decide +kernel
theorem dX12_reckon_164 : decode cX12_reckon 164 = .ok (.iconst 3, 1) := by decide +kernel
theorem dX12_reckon_165 : decode cX12_reckon 165 = .ok (.iload_n 3, 1) := by decide +kernel
theorem dX12_reckon_166 : decode cX12_reckon 166 = .ok (.iadd, 1) := by decide +kernel
theorem dX12_reckon_167 : decode cX12_reckon 167 = .ok (.iaload, 1) := by decide +kernel
theorem dX12_reckon_168 : decode cX12_reckon 168 = .ok (.invokestatic 301, 3) := by decide +kernel
theorem dX12_reckon_171 : decode cX12_reckon 171 = .ok (.ireturn, 1) := by decide +kernel
theorem dX12_reckon_172 : decode cX12_reckon 172 = .ok (.aload_n 2, 1) := by decide +kernel
theorem dX12_reckon_173 : decode cX12_reckon 173 = .ok (.bipush 19, 2) := by decide +kernel
theorem dX12_reckon_175 : decode cX12_reckon 175 = .ok (.iload_n 3, 1) := by decide +kernel
theorem dX12_reckon_176 : decode cX12_reckon 176 = .ok (.iadd, 1) := by decide +kernel
theorem dX12_reckon_177 : decode cX12_reckon 177 = .ok (.iaload, 1) := by decide +kernel
theorem dX12_reckon_178 : decode cX12_reckon 178 = .ok (.ireturn, 1) := by decide +kernel
theorem dX12_reckon_179 : decode cX12_reckon 179 = .ok (.aload_n 2, 1) := by decide +kernel
theorem dX12_reckon_180 : decode cX12_reckon 180 = .ok (.bipush 25, 2) := by decide +kernel
theorem dX12_reckon_182 : decode cX12_reckon 182 = .ok (.iload_n 3, 1) := by decide +kernel
theorem dX12_reckon_183 : decode cX12_reckon 183 = .ok (.iadd, 1) := by decide +kernel
theorem dX12_reckon_184 : decode cX12_reckon 184 = .ok (.iaload, 1) := by decide +kernel
theorem dX12_reckon_185 : decode cX12_reckon 185 = .ok (.ireturn, 1) := by decide +kernel
theorem dX12_reckon_186 : decode cX12_reckon 186 = .ok (.aload_n 0, 1) := by decide +kernel
theorem dX12_reckon_187 : decode cX12_reckon 187 = .ok (.iload_n 3, 1) := by decide +kernel
theorem dX12_reckon_188 : decode cX12_reckon 188 = .ok (.aload_n 2, 1) := by decide +kernel
theorem dX12_reckon_189 : decode cX12_reckon 189 = .ok (.invokevirtual 304, 3) := by decide +kernel
theorem dX12_reckon_192 : decode cX12_reckon 192 = .ok (.ineg, 1) := by decide +kernel
theorem dX12_reckon_193 : decode cX12_reckon 193 = .ok (.ireturn, 1) := by decide +kernel
theorem dX12_reckon_194 : decode cX12_reckon 194 = .ok (.aload_n 0, 1) := by decide +kernel
theorem dX12_reckon_195 : decode cX12_reckon 195 = .ok (.iload_n 3, 1) := by decide +kernel
theorem dX12_reckon_196 : decode cX12_reckon 196 = .ok (.aload_n 2, 1) := by decide +kernel
theorem dX12_reckon_197 : decode cX12_reckon 197 = .ok (.invokevirtual 304, 3) := by decide +kernel
theorem dX12_reckon_200 : decode cX12_reckon 200 = .ok (.aload_n 0, 1) := by decide +kernel
theorem dX12_reckon_201 : decode cX12_reckon 201 = .ok (.iload 4, 2) := by decide +kernel
theorem dX12_reckon_203 : decode cX12_reckon 203 = .ok (.aload_n 2, 1) := by decide +kernel
theorem dX12_reckon_204 : decode cX12_reckon 204 = .ok (.invokevirtual 304, 3) := by decide +kernel
theorem dX12_reckon_207 : decode cX12_reckon 207 = .ok (.invokestatic 308, 3) := by decide +kernel
theorem dX12_reckon_210 : decode cX12_reckon 210 = .ok (.ireturn, 1) := by decide +kernel
theorem dX12_reckon_211 : decode cX12_reckon 211 = .ok (.aload_n 0, 1) := by decide +kernel
theorem dX12_reckon_212 : decode cX12_reckon 212 = .ok (.iload_n 3, 1) := by decide +kernel
theorem dX12_reckon_213 : decode cX12_reckon 213 = .ok (.aload_n 2, 1) := by decide +kernel
theorem dX12_reckon_214 : decode cX12_reckon 214 = .ok (.invokevirtual 304, 3) := by decide +kernel
theorem dX12_reckon_217 : decode cX12_reckon 217 = .ok (.aload_n 0, 1) := by decide +kernel
theorem dX12_reckon_218 : decode cX12_reckon 218 = .ok (.iload 4, 2) := by decide +kernel
theorem dX12_reckon_220 : decode cX12_reckon 220 = .ok (.aload_n 2, 1) := by decide +kernel
theorem dX12_reckon_221 : decode cX12_reckon 221 = .ok (.invokevirtual 304, 3) := by decide +kernel
theorem dX12_reckon_224 : decode cX12_reckon 224 = .ok (.invokestatic 313, 3) := by decide +kernel
theorem dX12_reckon_227 : decode cX12_reckon 227 = .ok (.ireturn, 1) := by decide +kernel
theorem dX12_reckon_228 : decode cX12_reckon 228 = .ok (.aload_n 0, 1) := by decide +kernel
theorem dX12_reckon_229 : decode cX12_reckon 229 = .ok (.iload_n 3, 1) := by decide +kernel
theorem dX12_reckon_230 : decode cX12_reckon 230 = .ok (.aload_n 2, 1) := by decide +kernel
theorem dX12_reckon_231 : decode cX12_reckon 231 = .ok (.invokevirtual 304, 3) := by decide +kernel
theorem dX12_reckon_234 : decode cX12_reckon 234 = .ok (.aload_n 0, 1) := by decide +kernel
theorem dX12_reckon_235 : decode cX12_reckon 235 = .ok (.iload 4, 2) := by decide +kernel
theorem dX12_reckon_237 : decode cX12_reckon 237 = .ok (.aload_n 2, 1) := by decide +kernel
theorem dX12_reckon_238 : decode cX12_reckon 238 = .ok (.invokevirtual 304, 3) := by decide +kernel
theorem dX12_reckon_241 : decode cX12_reckon 241 = .ok (.imul, 1) := by decide +kernel
theorem dX12_reckon_242 : decode cX12_reckon 242 = .ok (.ireturn, 1) := by decide +kernel
theorem dX12_reckon_243 : decode cX12_reckon 243 = .ok (.aload_n 0, 1) := by decide +kernel
theorem dX12_reckon_244 : decode cX12_reckon 244 = .ok (.iload_n 3, 1) := by decide +kernel
theorem dX12_reckon_245 : decode cX12_reckon 245 = .ok (.aload_n 2, 1) := by decide +kernel
theorem dX12_reckon_246 : decode cX12_reckon 246 = .ok (.invokevirtual 304, 3) := by decide +kernel
theorem dX12_reckon_249 : decode cX12_reckon 249 = .ok (.aload_n 0, 1) := by decide +kernel
theorem dX12_reckon_250 : decode cX12_reckon 250 = .ok (.iload 4, 2) := by decide +kernel
theorem dX12_reckon_252 : decode cX12_reckon 252 = .ok (.aload_n 2, 1) := by decide +kernel
theorem dX12_reckon_253 : decode cX12_reckon 253 = .ok (.invokevirtual 304, 3) := by decide +kernel
theorem dX12_reckon_256 : decode cX12_reckon 256 = .ok (.invokestatic 316, 3) := by decide +kernel
theorem dX12_reckon_259 : decode cX12_reckon 259 = .ok (.ireturn, 1) := by decide +kernel
theorem dX12_reckon_260 : decode cX12_reckon 260 = .ok (.aload_n 0, 1) := by decide +kernel
theorem dX12_reckon_261 : decode cX12_reckon 261 = .ok (.iload_n 3, 1) := by decide +kernel
theorem dX12_reckon_262 : decode cX12_reckon 262 = .ok (.aload_n 2, 1) := by decide +kernel
theorem dX12_reckon_263 : decode cX12_reckon 263 = .ok (.invokevirtual 304, 3) := by decide +kernel
theorem dX12_reckon_266 : decode cX12_reckon 266 = .ok (.aload_n 0, 1) := by decide +kernel
theorem dX12_reckon_267 : decode cX12_reckon 267 = .ok (.iload 4, 2) := by decide +kernel
theorem dX12_reckon_269 : decode cX12_reckon 269 = .ok (.aload_n 2, 1) := by decide +kernel
theorem dX12_reckon_270 : decode cX12_reckon 270 = .ok (.invokevirtual 304, 3) := by decide +kernel
theorem dX12_reckon_273 : decode cX12_reckon 273 = .ok (.isub, 1) := by decide +kernel
theorem dX12_reckon_274 : decode cX12_reckon 274 = .ok (.ireturn, 1) := by decide +kernel
theorem dX12_reckon_275 : decode cX12_reckon 275 = .ok (.aload_n 0, 1) := by decide +kernel
theorem dX12_reckon_276 : decode cX12_reckon 276 = .ok (.iload_n 3, 1) := by decide +kernel
theorem dX12_reckon_277 : decode cX12_reckon 277 = .ok (.aload_n 2, 1) := by decide +kernel
theorem dX12_reckon_278 : decode cX12_reckon 278 = .ok (.invokevirtual 304, 3) := by decide +kernel
theorem dX12_reckon_281 : decode cX12_reckon 281 = .ok (.aload_n 0, 1) := by decide +kernel
theorem dX12_reckon_282 : decode cX12_reckon 282 = .ok (.iload 4, 2) := by decide +kernel
theorem dX12_reckon_284 : decode cX12_reckon 284 = .ok (.aload_n 2, 1) := by decide +kernel
theorem dX12_reckon_285 : decode cX12_reckon 285 = .ok (.invokevirtual 304, 3) := by decide +kernel
theorem dX12_reckon_288 : decode cX12_reckon 288 = .ok (.iadd, 1) := by decide +kernel
theorem dX12_reckon_289 : decode cX12_reckon 289 = .ok (.ireturn, 1) := by decide +kernel
theorem dX12_parts_0 : decode cX12_parts 0 = .ok (.iload_n 1, 1) := by decide +kernel
theorem dX12_parts_1 : decode cX12_parts 1 = .ok (.ifCond .ne 7, 3) := by decide +kernel
theorem dX12_parts_4 : decode cX12_parts 4 = .ok (.iconst 0, 1) := by decide +kernel
theorem dX12_parts_5 : decode cX12_parts 5 = .ok (.goto 16, 3) := by decide +kernel
theorem dX12_parts_8 : decode cX12_parts 8 = .ok (.iload_n 1, 1) := by decide +kernel
theorem dX12_parts_9 : decode cX12_parts 9 = .ok (.iconst (-1), 1) := by decide +kernel
theorem dX12_parts_10 : decode cX12_parts 10 = .ok (.if_icmp .ne 8, 3) := by decide +kernel
theorem dX12_parts_13 : decode cX12_parts 13 = .ok (.iload_n 0, 1) := by decide +kernel
theorem dX12_parts_14 : decode cX12_parts 14 = .ok (.ineg, 1) := by decide +kernel
theorem dX12_parts_15 : decode cX12_parts 15 = .ok (.goto 6, 3) := by decide +kernel
theorem dX12_parts_18 : decode cX12_parts 18 = .ok (.iload_n 0, 1) := by decide +kernel
theorem dX12_parts_19 : decode cX12_parts 19 = .ok (.iload_n 1, 1) := by decide +kernel
theorem dX12_parts_20 : decode cX12_parts 20 = .ok (.idiv, 1) := by decide +kernel
theorem dX12_parts_21 : decode cX12_parts 21 = .ok (.ireturn, 1) := by decide +kernel
theorem dX12_holds_0 : decode cX12_holds 0 = .ok (.aload_n 0, 1) := by decide +kernel
theorem dX12_holds_1 : decode cX12_holds 1 = .ok (.getfield 87, 3) := by decide +kernel
theorem dX12_holds_4 : decode cX12_holds 4 = .ok (.getfield 293, 3) := by decide +kernel
theorem dX12_holds_7 : decode cX12_holds 7 = .ok (.iload_n 1, 1) := by decide +kernel
theorem dX12_holds_8 : decode cX12_holds 8 = .ok (.iaload, 1) := by decide +kernel
theorem dX12_holds_9 : decode cX12_holds 9 = .ok (.istore_n 3, 1) := by decide +kernel
theorem dX12_holds_10 : decode cX12_holds 10 = .ok (.aload_n 0, 1) := by decide +kernel
theorem dX12_holds_11 : decode cX12_holds 11 = .ok (.getfield 87, 3) := by decide +kernel
theorem dX12_holds_14 : decode cX12_holds 14 = .ok (.getfield 295, 3) := by decide +kernel
theorem dX12_holds_17 : decode cX12_holds 17 = .ok (.iload_n 1, 1) := by decide +kernel
theorem dX12_holds_18 : decode cX12_holds 18 = .ok (.iaload, 1) := by decide +kernel
theorem dX12_holds_19 : decode cX12_holds 19 = .ok (.istore 4, 2) := by decide +kernel
theorem dX12_holds_21 : decode cX12_holds 21 = .ok (.aload_n 0, 1) := by decide +kernel
theorem dX12_holds_22 : decode cX12_holds 22 = .ok (.getfield 87, 3) := by decide +kernel
theorem dX12_holds_25 : decode cX12_holds 25 = .ok (.getfield 298, 3) := by decide +kernel
theorem dX12_holds_28 : decode cX12_holds 28 = .ok (.iload_n 1, 1) := by decide +kernel
theorem dX12_holds_29 : decode cX12_holds 29 = .ok (.iaload, 1) := by decide +kernel
theorem dX12_holds_30 : decode cX12_holds 30 = .ok (.lookupswitch 214 #[(22, 74), (23, 81), (24, 96), (25, 111), (60, 126), (62, 148), (103, 192), (108, 170)], 74) := by decide +kernel
theorem dX12_holds_104 : decode cX12_holds 104 = .ok (.aload_n 0, 1) := by decide +kernel
theorem dX12_holds_105 : decode cX12_holds 105 = .ok (.aload_n 2, 1) := by decide +kernel
theorem dX12_holds_106 : decode cX12_holds 106 = .ok (.iload_n 3, 1) := by decide +kernel
theorem dX12_holds_107 : decode cX12_holds 107 = .ok (.invokevirtual 319, 3) := by decide +kernel
theorem dX12_holds_110 : decode cX12_holds 110 = .ok (.ireturn, 1) := by decide +kernel
theorem dX12_holds_111 : decode cX12_holds 111 = .ok (.aload_n 0, 1) := by decide +kernel
theorem dX12_holds_112 : decode cX12_holds 112 = .ok (.iload_n 3, 1) := by decide +kernel
theorem dX12_holds_113 : decode cX12_holds 113 = .ok (.aload_n 2, 1) := by decide +kernel
theorem dX12_holds_114 : decode cX12_holds 114 = .ok (.invokevirtual 323, 3) := by decide +kernel
theorem dX12_holds_117 : decode cX12_holds 117 = .ok (.ifCond .ne 7, 3) := by decide +kernel
theorem dX12_holds_120 : decode cX12_holds 120 = .ok (.iconst 1, 1) := by decide +kernel
theorem dX12_holds_121 : decode cX12_holds 121 = .ok (.goto 4, 3) := by decide +kernel
theorem dX12_holds_124 : decode cX12_holds 124 = .ok (.iconst 0, 1) := by decide +kernel
theorem dX12_holds_125 : decode cX12_holds 125 = .ok (.ireturn, 1) := by decide +kernel
theorem dX12_holds_126 : decode cX12_holds 126 = .ok (.aload_n 0, 1) := by decide +kernel
theorem dX12_holds_127 : decode cX12_holds 127 = .ok (.iload_n 3, 1) := by decide +kernel
theorem dX12_holds_128 : decode cX12_holds 128 = .ok (.aload_n 2, 1) := by decide +kernel
theorem dX12_holds_129 : decode cX12_holds 129 = .ok (.invokevirtual 323, 3) := by decide +kernel
theorem dX12_holds_132 : decode cX12_holds 132 = .ok (.aload_n 0, 1) := by decide +kernel
theorem dX12_holds_133 : decode cX12_holds 133 = .ok (.iload 4, 2) := by decide +kernel
theorem dX12_holds_135 : decode cX12_holds 135 = .ok (.aload_n 2, 1) := by decide +kernel
theorem dX12_holds_136 : decode cX12_holds 136 = .ok (.invokevirtual 323, 3) := by decide +kernel
theorem dX12_holds_139 : decode cX12_holds 139 = .ok (.iand, 1) := by decide +kernel
theorem dX12_holds_140 : decode cX12_holds 140 = .ok (.ireturn, 1) := by decide +kernel
theorem dX12_holds_141 : decode cX12_holds 141 = .ok (.aload_n 0, 1) := by decide +kernel
theorem dX12_holds_142 : decode cX12_holds 142 = .ok (.iload_n 3, 1) := by decide +kernel
theorem dX12_holds_143 : decode cX12_holds 143 = .ok (.aload_n 2, 1) := by decide +kernel
theorem dX12_holds_144 : decode cX12_holds 144 = .ok (.invokevirtual 323, 3) := by decide +kernel
theorem dX12_holds_147 : decode cX12_holds 147 = .ok (.aload_n 0, 1) := by decide +kernel
theorem dX12_holds_148 : decode cX12_holds 148 = .ok (.iload 4, 2) := by decide +kernel
theorem dX12_holds_150 : decode cX12_holds 150 = .ok (.aload_n 2, 1) := by decide +kernel
theorem dX12_holds_151 : decode cX12_holds 151 = .ok (.invokevirtual 323, 3) := by decide +kernel
theorem dX12_holds_154 : decode cX12_holds 154 = .ok (.ior, 1) := by decide +kernel
theorem dX12_holds_155 : decode cX12_holds 155 = .ok (.ireturn, 1) := by decide +kernel
theorem dX12_holds_156 : decode cX12_holds 156 = .ok (.aload_n 0, 1) := by decide +kernel
theorem dX12_holds_157 : decode cX12_holds 157 = .ok (.iload_n 3, 1) := by decide +kernel
theorem dX12_holds_158 : decode cX12_holds 158 = .ok (.aload_n 2, 1) := by decide +kernel
theorem dX12_holds_159 : decode cX12_holds 159 = .ok (.invokevirtual 304, 3) := by decide +kernel
theorem dX12_holds_162 : decode cX12_holds 162 = .ok (.aload_n 0, 1) := by decide +kernel
theorem dX12_holds_163 : decode cX12_holds 163 = .ok (.iload 4, 2) := by decide +kernel
theorem dX12_holds_165 : decode cX12_holds 165 = .ok (.aload_n 2, 1) := by decide +kernel
theorem dX12_holds_166 : decode cX12_holds 166 = .ok (.invokevirtual 304, 3) := by decide +kernel
theorem dX12_holds_169 : decode cX12_holds 169 = .ok (.if_icmp .ge 7, 3) := by decide +kernel
theorem dX12_holds_172 : decode cX12_holds 172 = .ok (.iconst 1, 1) := by decide +kernel
theorem dX12_holds_173 : decode cX12_holds 173 = .ok (.goto 4, 3) := by decide +kernel
theorem dX12_holds_176 : decode cX12_holds 176 = .ok (.iconst 0, 1) := by decide +kernel
theorem dX12_holds_177 : decode cX12_holds 177 = .ok (.ireturn, 1) := by decide +kernel
theorem dX12_holds_178 : decode cX12_holds 178 = .ok (.aload_n 0, 1) := by decide +kernel
theorem dX12_holds_179 : decode cX12_holds 179 = .ok (.iload_n 3, 1) := by decide +kernel
theorem dX12_holds_180 : decode cX12_holds 180 = .ok (.aload_n 2, 1) := by decide +kernel
theorem dX12_holds_181 : decode cX12_holds 181 = .ok (.invokevirtual 304, 3) := by decide +kernel
theorem dX12_holds_184 : decode cX12_holds 184 = .ok (.aload_n 0, 1) := by decide +kernel
theorem dX12_holds_185 : decode cX12_holds 185 = .ok (.iload 4, 2) := by decide +kernel
theorem dX12_holds_187 : decode cX12_holds 187 = .ok (.aload_n 2, 1) := by decide +kernel
theorem dX12_holds_188 : decode cX12_holds 188 = .ok (.invokevirtual 304, 3) := by decide +kernel
theorem dX12_holds_191 : decode cX12_holds 191 = .ok (.if_icmp .le 7, 3) := by decide +kernel
theorem dX12_holds_194 : decode cX12_holds 194 = .ok (.iconst 1, 1) := by decide +kernel
theorem dX12_holds_195 : decode cX12_holds 195 = .ok (.goto 4, 3) := by decide +kernel
theorem dX12_holds_198 : decode cX12_holds 198 = .ok (.iconst 0, 1) := by decide +kernel
theorem dX12_holds_199 : decode cX12_holds 199 = .ok (.ireturn, 1) := by decide +kernel
theorem dX12_holds_200 : decode cX12_holds 200 = .ok (.aload_n 0, 1) := by decide +kernel
theorem dX12_holds_201 : decode cX12_holds 201 = .ok (.iload_n 3, 1) := by decide +kernel
theorem dX12_holds_202 : decode cX12_holds 202 = .ok (.aload_n 2, 1) := by decide +kernel
theorem dX12_holds_203 : decode cX12_holds 203 = .ok (.invokevirtual 304, 3) := by decide +kernel
theorem dX12_holds_206 : decode cX12_holds 206 = .ok (.aload_n 0, 1) := by decide +kernel
theorem dX12_holds_207 : decode cX12_holds 207 = .ok (.iload 4, 2) := by decide +kernel
theorem dX12_holds_209 : decode cX12_holds 209 = .ok (.aload_n 2, 1) := by decide +kernel
theorem dX12_holds_210 : decode cX12_holds 210 = .ok (.invokevirtual 304, 3) := by decide +kernel
theorem dX12_holds_213 : decode cX12_holds 213 = .ok (.if_icmp .gt 7, 3) := by decide +kernel
theorem dX12_holds_216 : decode cX12_holds 216 = .ok (.iconst 1, 1) := by decide +kernel
theorem dX12_holds_217 : decode cX12_holds 217 = .ok (.goto 4, 3) := by decide +kernel
theorem dX12_holds_220 : decode cX12_holds 220 = .ok (.iconst 0, 1) := by decide +kernel
theorem dX12_holds_221 : decode cX12_holds 221 = .ok (.ireturn, 1) := by decide +kernel
theorem dX12_holds_222 : decode cX12_holds 222 = .ok (.aload_n 0, 1) := by decide +kernel
theorem dX12_holds_223 : decode cX12_holds 223 = .ok (.iload_n 3, 1) := by decide +kernel
theorem dX12_holds_224 : decode cX12_holds 224 = .ok (.aload_n 2, 1) := by decide +kernel
theorem dX12_holds_225 : decode cX12_holds 225 = .ok (.invokevirtual 304, 3) := by decide +kernel
theorem dX12_holds_228 : decode cX12_holds 228 = .ok (.aload_n 0, 1) := by decide +kernel
theorem dX12_holds_229 : decode cX12_holds 229 = .ok (.iload 4, 2) := by decide +kernel
theorem dX12_holds_231 : decode cX12_holds 231 = .ok (.aload_n 2, 1) := by decide +kernel
theorem dX12_holds_232 : decode cX12_holds 232 = .ok (.invokevirtual 304, 3) := by decide +kernel
theorem dX12_holds_235 : decode cX12_holds 235 = .ok (.if_icmp .lt 7, 3) := by decide +kernel
theorem dX12_holds_238 : decode cX12_holds 238 = .ok (.iconst 1, 1) := by decide +kernel
theorem dX12_holds_239 : decode cX12_holds 239 = .ok (.goto 4, 3) := by decide +kernel
theorem dX12_holds_242 : decode cX12_holds 242 = .ok (.iconst 0, 1) := by decide +kernel
theorem dX12_holds_243 : decode cX12_holds 243 = .ok (.ireturn, 1) := by decide +kernel
theorem dX12_holds_244 : decode cX12_holds 244 = .ok (.aload_n 0, 1) := by decide +kernel
theorem dX12_holds_245 : decode cX12_holds 245 = .ok (.iload_n 3, 1) := by decide +kernel
theorem dX12_holds_246 : decode cX12_holds 246 = .ok (.aload_n 2, 1) := by decide +kernel
theorem dX12_holds_247 : decode cX12_holds 247 = .ok (.invokevirtual 304, 3) := by decide +kernel
theorem dX12_holds_250 : decode cX12_holds 250 = .ok (.aload_n 0, 1) := by decide +kernel
theorem dX12_holds_251 : decode cX12_holds 251 = .ok (.iload 4, 2) := by decide +kernel
theorem dX12_holds_253 : decode cX12_holds 253 = .ok (.aload_n 2, 1) := by decide +kernel
theorem dX12_holds_254 : decode cX12_holds 254 = .ok (.invokevirtual 304, 3) := by decide +kernel
theorem dX12_holds_257 : decode cX12_holds 257 = .ok (.if_icmp .ne 7, 3) := by decide +kernel
theorem dX12_holds_260 : decode cX12_holds 260 = .ok (.iconst 1, 1) := by decide +kernel
theorem dX12_holds_261 : decode cX12_holds 261 = .ok (.goto 4, 3) := by decide +kernel
theorem dX12_holds_264 : decode cX12_holds 264 = .ok (.iconst 0, 1) := by decide +kernel
theorem dX12_holds_265 : decode cX12_holds 265 = .ok (.ireturn, 1) := by decide +kernel
theorem dX12_isWeary_0 : decode cX12_isWeary 0 = .ok (.aload_n 1, 1) := by decide +kernel
theorem dX12_isWeary_1 : decode cX12_isWeary 1 = .ok (.bipush 25, 2) := by decide +kernel
theorem dX12_isWeary_3 : decode cX12_isWeary 3 = .ok (.iload_n 2, 1) := by decide +kernel
theorem dX12_isWeary_4 : decode cX12_isWeary 4 = .ok (.iadd, 1) := by decide +kernel
theorem dX12_isWeary_5 : decode cX12_isWeary 5 = .ok (.iaload, 1) := by decide +kernel
theorem dX12_isWeary_6 : decode cX12_isWeary 6 = .ok (.iconst 5, 1) := by decide +kernel
theorem dX12_isWeary_7 : decode cX12_isWeary 7 = .ok (.aload_n 0, 1) := by decide +kernel
theorem dX12_isWeary_8 : decode cX12_isWeary 8 = .ok (.getfield 87, 3) := by decide +kernel
theorem dX12_isWeary_11 : decode cX12_isWeary 11 = .ok (.getfield 263, 3) := by decide +kernel
theorem dX12_isWeary_14 : decode cX12_isWeary 14 = .ok (.iload_n 2, 1) := by decide +kernel
theorem dX12_isWeary_15 : decode cX12_isWeary 15 = .ok (.iaload, 1) := by decide +kernel
theorem dX12_isWeary_16 : decode cX12_isWeary 16 = .ok (.imul, 1) := by decide +kernel
theorem dX12_isWeary_17 : decode cX12_isWeary 17 = .ok (.if_icmp .le 7, 3) := by decide +kernel
theorem dX12_isWeary_20 : decode cX12_isWeary 20 = .ok (.iconst 1, 1) := by decide +kernel
theorem dX12_isWeary_21 : decode cX12_isWeary 21 = .ok (.goto 4, 3) := by decide +kernel
theorem dX12_isWeary_24 : decode cX12_isWeary 24 = .ok (.iconst 0, 1) := by decide +kernel
theorem dX12_isWeary_25 : decode cX12_isWeary 25 = .ok (.ireturn, 1) := by decide +kernel
theorem dX12_obey_0 : decode cX12_obey 0 = .ok (.aload_n 0, 1) := by decide +kernel
theorem dX12_obey_1 : decode cX12_obey 1 = .ok (.getfield 87, 3) := by decide +kernel
theorem dX12_obey_4 : decode cX12_obey 4 = .ok (.getfield 269, 3) := by decide +kernel
theorem dX12_obey_7 : decode cX12_obey 7 = .ok (.iload_n 2, 1) := by decide +kernel
theorem dX12_obey_8 : decode cX12_obey 8 = .ok (.iconst 4, 1) := by decide +kernel
theorem dX12_obey_9 : decode cX12_obey 9 = .ok (.iadd, 1) := by decide +kernel
theorem dX12_obey_10 : decode cX12_obey 10 = .ok (.iaload, 1) := by decide +kernel
theorem dX12_obey_11 : decode cX12_obey 11 = .ok (.istore_n 3, 1) := by decide +kernel
theorem dX12_obey_12 : decode cX12_obey 12 = .ok (.iload_n 3, 1) := by decide +kernel
theorem dX12_obey_13 : decode cX12_obey 13 = .ok (.iconst (-1), 1) := by decide +kernel
theorem dX12_obey_14 : decode cX12_obey 14 = .ok (.if_icmp .eq 13, 3) := by decide +kernel
theorem dX12_obey_17 : decode cX12_obey 17 = .ok (.aload_n 0, 1) := by decide +kernel
theorem dX12_obey_18 : decode cX12_obey 18 = .ok (.iload_n 3, 1) := by decide +kernel
theorem dX12_obey_19 : decode cX12_obey 19 = .ok (.aload_n 1, 1) := by decide +kernel
theorem dX12_obey_20 : decode cX12_obey 20 = .ok (.invokevirtual 323, 3) := by decide +kernel
theorem dX12_obey_23 : decode cX12_obey 23 = .ok (.ifCond .ne 4, 3) := by decide +kernel
theorem dX12_obey_26 : decode cX12_obey 26 = .ok (.return_, 1) := by decide +kernel
theorem dX12_obey_27 : decode cX12_obey 27 = .ok (.aload_n 0, 1) := by decide +kernel
theorem dX12_obey_28 : decode cX12_obey 28 = .ok (.getfield 87, 3) := by decide +kernel
theorem dX12_obey_31 : decode cX12_obey 31 = .ok (.getfield 269, 3) := by decide +kernel
theorem dX12_obey_34 : decode cX12_obey 34 = .ok (.iload_n 2, 1) := by decide +kernel
theorem dX12_obey_35 : decode cX12_obey 35 = .ok (.iaload, 1) := by decide +kernel
theorem dX12_obey_36 : decode cX12_obey 36 = .ok (.bipush 11, 2) := by decide +kernel
theorem dX12_obey_38 : decode cX12_obey 38 = .ok (.if_icmp .ne 7, 3) := by decide +kernel
theorem dX12_obey_41 : decode cX12_obey 41 = .ok (.iconst 1, 1) := by decide +kernel
theorem dX12_obey_42 : decode cX12_obey 42 = .ok (.goto 4, 3) := by decide +kernel
theorem dX12_obey_45 : decode cX12_obey 45 = .ok (.iconst 0, 1) := by decide +kernel
theorem dX12_obey_46 : decode cX12_obey 46 = .ok (.istore 4, 2) := by decide +kernel
theorem dX12_obey_48 : decode cX12_obey 48 = .ok (.aload_n 0, 1) := by decide +kernel
theorem dX12_obey_49 : decode cX12_obey 49 = .ok (.getfield 87, 3) := by decide +kernel
theorem dX12_obey_52 : decode cX12_obey 52 = .ok (.getfield 269, 3) := by decide +kernel
theorem dX12_obey_55 : decode cX12_obey 55 = .ok (.iload_n 2, 1) := by decide +kernel
theorem dX12_obey_56 : decode cX12_obey 56 = .ok (.iconst 1, 1) := by decide +kernel
theorem dX12_obey_57 : decode cX12_obey 57 = .ok (.iadd, 1) := by decide +kernel
theorem dX12_obey_58 : decode cX12_obey 58 = .ok (.iaload, 1) := by decide +kernel
theorem dX12_obey_59 : decode cX12_obey 59 = .ok (.istore 5, 2) := by decide +kernel
theorem dX12_obey_61 : decode cX12_obey 61 = .ok (.aload_n 0, 1) := by decide +kernel
theorem dX12_obey_62 : decode cX12_obey 62 = .ok (.getfield 87, 3) := by decide +kernel
theorem dX12_obey_65 : decode cX12_obey 65 = .ok (.getfield 269, 3) := by decide +kernel
theorem dX12_obey_68 : decode cX12_obey 68 = .ok (.iload_n 2, 1) := by decide +kernel
theorem dX12_obey_69 : decode cX12_obey 69 = .ok (.iconst 2, 1) := by decide +kernel
theorem dX12_obey_70 : decode cX12_obey 70 = .ok (.iadd, 1) := by decide +kernel
theorem dX12_obey_71 : decode cX12_obey 71 = .ok (.iaload, 1) := by decide +kernel
theorem dX12_obey_72 : decode cX12_obey 72 = .ok (.istore 6, 2) := by decide +kernel
theorem dX12_obey_74 : decode cX12_obey 74 = .ok (.iload 4, 2) := by decide +kernel
theorem dX12_obey_76 : decode cX12_obey 76 = .ok (.ifCond .eq 32, 3) := by decide +kernel
theorem dX12_obey_79 : decode cX12_obey 79 = .ok (.iconst 0, 1) := by decide +kernel
theorem dX12_obey_80 : decode cX12_obey 80 = .ok (.sipush 9999, 3) := by decide +kernel
theorem dX12_obey_83 : decode cX12_obey 83 = .ok (.aload_n 0, 1) := by decide +kernel
theorem dX12_obey_84 : decode cX12_obey 84 = .ok (.aload_n 0, 1) := by decide +kernel
theorem dX12_obey_85 : decode cX12_obey 85 = .ok (.getfield 87, 3) := by decide +kernel
theorem dX12_obey_88 : decode cX12_obey 88 = .ok (.getfield 269, 3) := by decide +kernel
theorem dX12_obey_91 : decode cX12_obey 91 = .ok (.iload_n 2, 1) := by decide +kernel
theorem dX12_obey_92 : decode cX12_obey 92 = .ok (.iconst 3, 1) := by decide +kernel
theorem dX12_obey_93 : decode cX12_obey 93 = .ok (.iadd, 1) := by decide +kernel
theorem dX12_obey_94 : decode cX12_obey 94 = .ok (.iaload, 1) := by decide +kernel
theorem dX12_obey_95 : decode cX12_obey 95 = .ok (.aload_n 1, 1) := by decide +kernel
theorem dX12_obey_96 : decode cX12_obey 96 = .ok (.invokevirtual 304, 3) := by decide +kernel
theorem dX12_obey_99 : decode cX12_obey 99 = .ok (.invokestatic 308, 3) := by decide +kernel
theorem dX12_obey_102 : decode cX12_obey 102 = .ok (.invokestatic 313, 3) := by decide +kernel
theorem dX12_obey_105 : decode cX12_obey 105 = .ok (.goto 10, 3) := by decide +kernel
theorem dX12_obey_108 : decode cX12_obey 108 = .ok (.aload_n 0, 1) := by decide +kernel
theorem dX12_obey_109 : decode cX12_obey 109 = .ok (.aload_n 1, 1) := by decide +kernel
theorem dX12_obey_110 : decode cX12_obey 110 = .ok (.iload 5, 2) := by decide +kernel
theorem dX12_obey_112 : decode cX12_obey 112 = .ok (.invokevirtual 290, 3) := by decide +kernel
theorem dX12_obey_115 : decode cX12_obey 115 = .ok (.istore 7, 2) := by decide +kernel
theorem dX12_obey_117 : decode cX12_obey 117 = .ok (.aload_n 0, 1) := by decide +kernel
theorem dX12_obey_118 : decode cX12_obey 118 = .ok (.aload_n 1, 1) := by decide +kernel
theorem dX12_obey_119 : decode cX12_obey 119 = .ok (.iload 6, 2) := by decide +kernel
theorem dX12_obey_121 : decode cX12_obey 121 = .ok (.invokevirtual 327, 3) := by decide +kernel
theorem dX12_obey_124 : decode cX12_obey 124 = .ok (.ifCond .eq 13, 3) := by decide +kernel
theorem dX12_obey_127 : decode cX12_obey 127 = .ok (.iload 7, 2) := by decide +kernel
theorem dX12_obey_129 : decode cX12_obey 129 = .ok (.iload 7, 2) := by decide +kernel
theorem dX12_obey_131 : decode cX12_obey 131 = .ok (.bipush 10, 2) := by decide +kernel
theorem dX12_obey_133 : decode cX12_obey 133 = .ok (.irem, 1) := by decide +kernel
theorem dX12_obey_134 : decode cX12_obey 134 = .ok (.isub, 1) := by decide +kernel
theorem dX12_obey_135 : decode cX12_obey 135 = .ok (.istore 7, 2) := by decide +kernel
theorem dX12_obey_137 : decode cX12_obey 137 = .ok (.aload_n 1, 1) := by decide +kernel
theorem dX12_obey_138 : decode cX12_obey 138 = .ok (.iload 4, 2) := by decide +kernel
theorem dX12_obey_140 : decode cX12_obey 140 = .ok (.ifCond .eq 10, 3) := by decide +kernel
theorem dX12_obey_143 : decode cX12_obey 143 = .ok (.iconst 3, 1) := by decide +kernel
theorem dX12_obey_144 : decode cX12_obey 144 = .ok (.iload 5, 2) := by decide +kernel
theorem dX12_obey_146 : decode cX12_obey 146 = .ok (.iadd, 1) := by decide +kernel
theorem dX12_obey_147 : decode cX12_obey 147 = .ok (.goto 8, 3) := by decide +kernel
theorem dX12_obey_150 : decode cX12_obey 150 = .ok (.bipush 19, 2) := by decide +kernel
theorem dX12_obey_152 : decode cX12_obey 152 = .ok (.iload 5, 2) := by decide +kernel
theorem dX12_obey_154 : decode cX12_obey 154 = .ok (.iadd, 1) := by decide +kernel
theorem dX12_obey_155 : decode cX12_obey 155 = .ok (.iload 7, 2) := by decide +kernel
theorem dX12_obey_157 : decode cX12_obey 157 = .ok (.iastore, 1) := by decide +kernel
theorem dX12_obey_158 : decode cX12_obey 158 = .ok (.aload_n 1, 1) := by decide +kernel
theorem dX12_obey_159 : decode cX12_obey 159 = .ok (.bipush 25, 2) := by decide +kernel
theorem dX12_obey_161 : decode cX12_obey 161 = .ok (.iload 6, 2) := by decide +kernel
theorem dX12_obey_163 : decode cX12_obey 163 = .ok (.iadd, 1) := by decide +kernel
theorem dX12_obey_164 : decode cX12_obey 164 = .ok (.dup2, 1) := by decide +kernel
theorem dX12_obey_165 : decode cX12_obey 165 = .ok (.iaload, 1) := by decide +kernel
theorem dX12_obey_166 : decode cX12_obey 166 = .ok (.iconst 1, 1) := by decide +kernel
theorem dX12_obey_167 : decode cX12_obey 167 = .ok (.iload 7, 2) := by decide +kernel
theorem dX12_obey_169 : decode cX12_obey 169 = .ok (.invokestatic 301, 3) := by decide +kernel
theorem dX12_obey_172 : decode cX12_obey 172 = .ok (.iconst 4, 1) := by decide +kernel
theorem dX12_obey_173 : decode cX12_obey 173 = .ok (.idiv, 1) := by decide +kernel
theorem dX12_obey_174 : decode cX12_obey 174 = .ok (.iadd, 1) := by decide +kernel
theorem dX12_obey_175 : decode cX12_obey 175 = .ok (.iadd, 1) := by decide +kernel
theorem dX12_obey_176 : decode cX12_obey 176 = .ok (.iastore, 1) := by decide +kernel
theorem dX12_obey_177 : decode cX12_obey 177 = .ok (.aload_n 1, 1) := by decide +kernel
theorem dX12_obey_178 : decode cX12_obey 178 = .ok (.bipush 30, 2) := by decide +kernel
theorem dX12_obey_180 : decode cX12_obey 180 = .ok (.iload 6, 2) := by decide +kernel
theorem dX12_obey_182 : decode cX12_obey 182 = .ok (.iadd, 1) := by decide +kernel
theorem dX12_obey_183 : decode cX12_obey 183 = .ok (.dup2, 1) := by decide +kernel
theorem dX12_obey_184 : decode cX12_obey 184 = .ok (.iaload, 1) := by decide +kernel
theorem dX12_obey_185 : decode cX12_obey 185 = .ok (.iconst 1, 1) := by decide +kernel
theorem dX12_obey_186 : decode cX12_obey 186 = .ok (.iadd, 1) := by decide +kernel
theorem dX12_obey_187 : decode cX12_obey 187 = .ok (.iastore, 1) := by decide +kernel
theorem dX12_obey_188 : decode cX12_obey 188 = .ok (.aload_n 1, 1) := by decide +kernel
theorem dX12_obey_189 : decode cX12_obey 189 = .ok (.iconst 1, 1) := by decide +kernel
theorem dX12_obey_190 : decode cX12_obey 190 = .ok (.dup2, 1) := by decide +kernel
theorem dX12_obey_191 : decode cX12_obey 191 = .ok (.iaload, 1) := by decide +kernel
theorem dX12_obey_192 : decode cX12_obey 192 = .ok (.iconst 1, 1) := by decide +kernel
theorem dX12_obey_193 : decode cX12_obey 193 = .ok (.iadd, 1) := by decide +kernel
theorem dX12_obey_194 : decode cX12_obey 194 = .ok (.iastore, 1) := by decide +kernel
theorem dX12_obey_195 : decode cX12_obey 195 = .ok (.return_, 1) := by decide +kernel
theorem dX12_eat_0 : decode cX12_eat 0 = .ok (.iconst (-1), 1) := by decide +kernel
theorem dX12_eat_1 : decode cX12_eat 1 = .ok (.istore_n 2, 1) := by decide +kernel
theorem dX12_eat_2 : decode cX12_eat 2 = .ok (.iconst 0, 1) := by decide +kernel
theorem dX12_eat_3 : decode cX12_eat 3 = .ok (.istore_n 3, 1) := by decide +kernel
theorem dX12_eat_4 : decode cX12_eat 4 = .ok (.iload_n 3, 1) := by decide +kernel
theorem dX12_eat_5 : decode cX12_eat 5 = .ok (.aload_n 0, 1) := by decide +kernel
theorem dX12_eat_6 : decode cX12_eat 6 = .ok (.getfield 87, 3) := by decide +kernel
theorem dX12_eat_9 : decode cX12_eat 9 = .ok (.getfield 161, 3) := by decide +kernel
theorem dX12_eat_12 : decode cX12_eat 12 = .ok (.if_icmp .ge 43, 3) := by decide +kernel
theorem dX12_eat_15 : decode cX12_eat 15 = .ok (.aload_n 1, 1) := by decide +kernel
theorem dX12_eat_16 : decode cX12_eat 16 = .ok (.iconst 3, 1) := by decide +kernel
theorem dX12_eat_17 : decode cX12_eat 17 = .ok (.iload_n 3, 1) := by decide +kernel
theorem dX12_eat_18 : decode cX12_eat 18 = .ok (.iadd, 1) := by decide +kernel
theorem dX12_eat_19 : decode cX12_eat 19 = .ok (.iaload, 1) := by decide +kernel
theorem dX12_eat_20 : decode cX12_eat 20 = .ok (.ifCond .le 29, 3) := by decide +kernel
theorem dX12_eat_23 : decode cX12_eat 23 = .ok (.iload_n 2, 1) := by decide +kernel
theorem dX12_eat_24 : decode cX12_eat 24 = .ok (.iconst (-1), 1) := by decide +kernel
theorem dX12_eat_25 : decode cX12_eat 25 = .ok (.if_icmp .eq 22, 3) := by decide +kernel
theorem dX12_eat_28 : decode cX12_eat 28 = .ok (.aload_n 1, 1) := by decide +kernel
theorem dX12_eat_29 : decode cX12_eat 29 = .ok (.iconst 3, 1) := by decide +kernel
theorem dX12_eat_30 : decode cX12_eat 30 = .ok (.iload_n 3, 1) := by decide +kernel
theorem dX12_eat_31 : decode cX12_eat 31 = .ok (.iadd, 1) := by decide +kernel
theorem dX12_eat_32 : decode cX12_eat 32 = .ok (.iaload, 1) := by decide +kernel
theorem dX12_eat_33 : decode cX12_eat 33 = .ok (.invokestatic 330, 3) := by decide +kernel
theorem dX12_eat_36 : decode cX12_eat 36 = .ok (.aload_n 1, 1) := by decide +kernel
theorem dX12_eat_37 : decode cX12_eat 37 = .ok (.iconst 3, 1) := by decide +kernel
theorem dX12_eat_38 : decode cX12_eat 38 = .ok (.iload_n 2, 1) := by decide +kernel
theorem dX12_eat_39 : decode cX12_eat 39 = .ok (.iadd, 1) := by decide +kernel
theorem dX12_eat_40 : decode cX12_eat 40 = .ok (.iaload, 1) := by decide +kernel
theorem dX12_eat_41 : decode cX12_eat 41 = .ok (.invokestatic 330, 3) := by decide +kernel
theorem dX12_eat_44 : decode cX12_eat 44 = .ok (.if_icmp .le 5, 3) := by decide +kernel
theorem dX12_eat_47 : decode cX12_eat 47 = .ok (.iload_n 3, 1) := by decide +kernel
theorem dX12_eat_48 : decode cX12_eat 48 = .ok (.istore_n 2, 1) := by decide +kernel
theorem dX12_eat_49 : decode cX12_eat 49 = .ok (.iinc 3 1, 3) := by decide +kernel
theorem dX12_eat_52 : decode cX12_eat 52 = .ok (.goto (-48), 3) := by decide +kernel
theorem dX12_eat_55 : decode cX12_eat 55 = .ok (.iload_n 2, 1) := by decide +kernel
theorem dX12_eat_56 : decode cX12_eat 56 = .ok (.iconst (-1), 1) := by decide +kernel
theorem dX12_eat_57 : decode cX12_eat 57 = .ok (.if_icmp .ne 4, 3) := by decide +kernel
theorem dX12_eat_60 : decode cX12_eat 60 = .ok (.return_, 1) := by decide +kernel
theorem dX12_eat_61 : decode cX12_eat 61 = .ok (.aload_n 1, 1) := by decide +kernel
theorem dX12_eat_62 : decode cX12_eat 62 = .ok (.iconst 3, 1) := by decide +kernel
theorem dX12_eat_63 : decode cX12_eat 63 = .ok (.iload_n 2, 1) := by decide +kernel
theorem dX12_eat_64 : decode cX12_eat 64 = .ok (.iadd, 1) := by decide +kernel
theorem dX12_eat_65 : decode cX12_eat 65 = .ok (.iaload, 1) := by decide +kernel
theorem dX12_eat_66 : decode cX12_eat 66 = .ok (.istore_n 3, 1) := by decide +kernel
theorem dX12_eat_67 : decode cX12_eat 67 = .ok (.iconst 1, 1) := by decide +kernel
theorem dX12_eat_68 : decode cX12_eat 68 = .ok (.istore 4, 2) := by decide +kernel
theorem dX12_eat_70 : decode cX12_eat 70 = .ok (.iload_n 3, 1) := by decide +kernel
theorem dX12_eat_71 : decode cX12_eat 71 = .ok (.iload 4, 2) := by decide +kernel
theorem dX12_eat_73 : decode cX12_eat 73 = .ok (.idiv, 1) := by decide +kernel
theorem dX12_eat_74 : decode cX12_eat 74 = .ok (.bipush 9, 2) := by decide +kernel
theorem dX12_eat_76 : decode cX12_eat 76 = .ok (.if_icmp .le 13, 3) := by decide +kernel
theorem dX12_eat_79 : decode cX12_eat 79 = .ok (.iload 4, 2) := by decide +kernel
theorem dX12_eat_81 : decode cX12_eat 81 = .ok (.bipush 10, 2) := by decide +kernel
theorem dX12_eat_83 : decode cX12_eat 83 = .ok (.imul, 1) := by decide +kernel
theorem dX12_eat_84 : decode cX12_eat 84 = .ok (.istore 4, 2) := by decide +kernel
theorem dX12_eat_86 : decode cX12_eat 86 = .ok (.goto (-16), 3) := by decide +kernel
theorem dX12_eat_89 : decode cX12_eat 89 = .ok (.aload_n 1, 1) := by decide +kernel
theorem dX12_eat_90 : decode cX12_eat 90 = .ok (.iconst 3, 1) := by decide +kernel
theorem dX12_eat_91 : decode cX12_eat 91 = .ok (.iload_n 2, 1) := by decide +kernel
theorem dX12_eat_92 : decode cX12_eat 92 = .ok (.iadd, 1) := by decide +kernel
theorem dX12_eat_93 : decode cX12_eat 93 = .ok (.iload 4, 2) := by decide +kernel
theorem dX12_eat_95 : decode cX12_eat 95 = .ok (.iconst 1, 1) := by decide +kernel
theorem dX12_eat_96 : decode cX12_eat 96 = .ok (.if_icmp .ne 7, 3) := by decide +kernel
theorem dX12_eat_99 : decode cX12_eat 99 = .ok (.iconst 0, 1) := by decide +kernel
theorem dX12_eat_100 : decode cX12_eat 100 = .ok (.goto 7, 3) := by decide +kernel
theorem dX12_eat_103 : decode cX12_eat 103 = .ok (.iload_n 3, 1) := by decide +kernel
theorem dX12_eat_104 : decode cX12_eat 104 = .ok (.iload 4, 2) := by decide +kernel
theorem dX12_eat_106 : decode cX12_eat 106 = .ok (.isub, 1) := by decide +kernel
theorem dX12_eat_107 : decode cX12_eat 107 = .ok (.iastore, 1) := by decide +kernel
theorem dX12_eat_108 : decode cX12_eat 108 = .ok (.aload_n 1, 1) := by decide +kernel
theorem dX12_eat_109 : decode cX12_eat 109 = .ok (.iconst 2, 1) := by decide +kernel
theorem dX12_eat_110 : decode cX12_eat 110 = .ok (.dup2, 1) := by decide +kernel
theorem dX12_eat_111 : decode cX12_eat 111 = .ok (.iaload, 1) := by decide +kernel
theorem dX12_eat_112 : decode cX12_eat 112 = .ok (.iconst 1, 1) := by decide +kernel
theorem dX12_eat_113 : decode cX12_eat 113 = .ok (.iadd, 1) := by decide +kernel
theorem dX12_eat_114 : decode cX12_eat 114 = .ok (.iastore, 1) := by decide +kernel
theorem dX12_eat_115 : decode cX12_eat 115 = .ok (.return_, 1) := by decide +kernel
theorem dX12_pass_0 : decode cX12_pass 0 = .ok (.iconst 0, 1) := by decide +kernel
theorem dX12_pass_1 : decode cX12_pass 1 = .ok (.istore_n 2, 1) := by decide +kernel
theorem dX12_pass_2 : decode cX12_pass 2 = .ok (.iload_n 2, 1) := by decide +kernel
theorem dX12_pass_3 : decode cX12_pass 3 = .ok (.iconst 5, 1) := by decide +kernel
theorem dX12_pass_4 : decode cX12_pass 4 = .ok (.aload_n 0, 1) := by decide +kernel
theorem dX12_pass_5 : decode cX12_pass 5 = .ok (.getfield 87, 3) := by decide +kernel
theorem dX12_pass_8 : decode cX12_pass 8 = .ok (.getfield 266, 3) := by decide +kernel
theorem dX12_pass_11 : decode cX12_pass 11 = .ok (.imul, 1) := by decide +kernel
theorem dX12_pass_12 : decode cX12_pass 12 = .ok (.if_icmp .ge 15, 3) := by decide +kernel
theorem dX12_pass_15 : decode cX12_pass 15 = .ok (.aload_n 0, 1) := by decide +kernel
theorem dX12_pass_16 : decode cX12_pass 16 = .ok (.aload_n 1, 1) := by decide +kernel
theorem dX12_pass_17 : decode cX12_pass 17 = .ok (.iload_n 2, 1) := by decide +kernel
theorem dX12_pass_18 : decode cX12_pass 18 = .ok (.invokevirtual 333, 3) := by decide +kernel
theorem dX12_pass_21 : decode cX12_pass 21 = .ok (.iinc 2 5, 3) := by decide +kernel
theorem dX12_pass_24 : decode cX12_pass 24 = .ok (.goto (-22), 3) := by decide +kernel
theorem dX12_pass_27 : decode cX12_pass 27 = .ok (.iconst 0, 1) := by decide +kernel
theorem dX12_pass_28 : decode cX12_pass 28 = .ok (.istore_n 2, 1) := by decide +kernel
theorem dX12_pass_29 : decode cX12_pass 29 = .ok (.iload_n 2, 1) := by decide +kernel
theorem dX12_pass_30 : decode cX12_pass 30 = .ok (.aload_n 0, 1) := by decide +kernel
theorem dX12_pass_31 : decode cX12_pass 31 = .ok (.getfield 87, 3) := by decide +kernel
theorem dX12_pass_34 : decode cX12_pass 34 = .ok (.getfield 167, 3) := by decide +kernel
theorem dX12_pass_37 : decode cX12_pass 37 = .ok (.if_icmp .ge 35, 3) := by decide +kernel
theorem dX12_pass_40 : decode cX12_pass 40 = .ok (.aload_n 1, 1) := by decide +kernel
theorem dX12_pass_41 : decode cX12_pass 41 = .ok (.bipush 25, 2) := by decide +kernel
theorem dX12_pass_43 : decode cX12_pass 43 = .ok (.iload_n 2, 1) := by decide +kernel
theorem dX12_pass_44 : decode cX12_pass 44 = .ok (.iadd, 1) := by decide +kernel
theorem dX12_pass_45 : decode cX12_pass 45 = .ok (.iconst 0, 1) := by decide +kernel
theorem dX12_pass_46 : decode cX12_pass 46 = .ok (.aload_n 1, 1) := by decide +kernel
theorem dX12_pass_47 : decode cX12_pass 47 = .ok (.bipush 25, 2) := by decide +kernel
theorem dX12_pass_49 : decode cX12_pass 49 = .ok (.iload_n 2, 1) := by decide +kernel
theorem dX12_pass_50 : decode cX12_pass 50 = .ok (.iadd, 1) := by decide +kernel
theorem dX12_pass_51 : decode cX12_pass 51 = .ok (.iaload, 1) := by decide +kernel
theorem dX12_pass_52 : decode cX12_pass 52 = .ok (.aload_n 0, 1) := by decide +kernel
theorem dX12_pass_53 : decode cX12_pass 53 = .ok (.getfield 87, 3) := by decide +kernel
theorem dX12_pass_56 : decode cX12_pass 56 = .ok (.getfield 263, 3) := by decide +kernel
theorem dX12_pass_59 : decode cX12_pass 59 = .ok (.iload_n 2, 1) := by decide +kernel
theorem dX12_pass_60 : decode cX12_pass 60 = .ok (.iaload, 1) := by decide +kernel
theorem dX12_pass_61 : decode cX12_pass 61 = .ok (.isub, 1) := by decide +kernel
theorem dX12_pass_62 : decode cX12_pass 62 = .ok (.invokestatic 313, 3) := by decide +kernel
theorem dX12_pass_65 : decode cX12_pass 65 = .ok (.iastore, 1) := by decide +kernel
theorem dX12_pass_66 : decode cX12_pass 66 = .ok (.iinc 2 1, 3) := by decide +kernel
theorem dX12_pass_69 : decode cX12_pass 69 = .ok (.goto (-40), 3) := by decide +kernel
theorem dX12_pass_72 : decode cX12_pass 72 = .ok (.aload_n 1, 1) := by decide +kernel
theorem dX12_pass_73 : decode cX12_pass 73 = .ok (.iconst 0, 1) := by decide +kernel
theorem dX12_pass_74 : decode cX12_pass 74 = .ok (.iaload, 1) := by decide +kernel
theorem dX12_pass_75 : decode cX12_pass 75 = .ok (.bipush 6, 2) := by decide +kernel
theorem dX12_pass_77 : decode cX12_pass 77 = .ok (.irem, 1) := by decide +kernel
theorem dX12_pass_78 : decode cX12_pass 78 = .ok (.ifCond .ne 8, 3) := by decide +kernel
theorem dX12_pass_81 : decode cX12_pass 81 = .ok (.aload_n 0, 1) := by decide +kernel
theorem dX12_pass_82 : decode cX12_pass 82 = .ok (.aload_n 1, 1) := by decide +kernel
theorem dX12_pass_83 : decode cX12_pass 83 = .ok (.invokevirtual 337, 3) := by decide +kernel
theorem dX12_pass_86 : decode cX12_pass 86 = .ok (.aload_n 1, 1) := by decide +kernel
theorem dX12_pass_87 : decode cX12_pass 87 = .ok (.iconst 0, 1) := by decide +kernel
theorem dX12_pass_88 : decode cX12_pass 88 = .ok (.dup2, 1) := by decide +kernel
theorem dX12_pass_89 : decode cX12_pass 89 = .ok (.iaload, 1) := by decide +kernel
theorem dX12_pass_90 : decode cX12_pass 90 = .ok (.iconst 1, 1) := by decide +kernel
theorem dX12_pass_91 : decode cX12_pass 91 = .ok (.iadd, 1) := by decide +kernel
theorem dX12_pass_92 : decode cX12_pass 92 = .ok (.iastore, 1) := by decide +kernel
theorem dX12_pass_93 : decode cX12_pass 93 = .ok (.return_, 1) := by decide +kernel
theorem dX12_passAll_0 : decode cX12_passAll 0 = .ok (.iconst 0, 1) := by decide +kernel
theorem dX12_passAll_1 : decode cX12_passAll 1 = .ok (.istore_n 3, 1) := by decide +kernel
theorem dX12_passAll_2 : decode cX12_passAll 2 = .ok (.iload_n 3, 1) := by decide +kernel
theorem dX12_passAll_3 : decode cX12_passAll 3 = .ok (.iload_n 2, 1) := by decide +kernel
theorem dX12_passAll_4 : decode cX12_passAll 4 = .ok (.if_icmp .ge 14, 3) := by decide +kernel
theorem dX12_passAll_7 : decode cX12_passAll 7 = .ok (.aload_n 0, 1) := by decide +kernel
theorem dX12_passAll_8 : decode cX12_passAll 8 = .ok (.aload_n 1, 1) := by decide +kernel
theorem dX12_passAll_9 : decode cX12_passAll 9 = .ok (.invokevirtual 341, 3) := by decide +kernel
theorem dX12_passAll_12 : decode cX12_passAll 12 = .ok (.iinc 3 1, 3) := by decide +kernel
theorem dX12_passAll_15 : decode cX12_passAll 15 = .ok (.goto (-13), 3) := by decide +kernel
theorem dX12_passAll_18 : decode cX12_passAll 18 = .ok (.return_, 1) := by decide +kernel
theorem dX12_lookAhead_0 : decode cX12_lookAhead 0 = .ok (.aload_n 0, 1) := by decide +kernel
theorem dX12_lookAhead_1 : decode cX12_lookAhead 1 = .ok (.getfield 109, 3) := by decide +kernel
theorem dX12_lookAhead_4 : decode cX12_lookAhead 4 = .ok (.iconst 0, 1) := by decide +kernel
theorem dX12_lookAhead_5 : decode cX12_lookAhead 5 = .ok (.aload_n 0, 1) := by decide +kernel
theorem dX12_lookAhead_6 : decode cX12_lookAhead 6 = .ok (.getfield 112, 3) := by decide +kernel
theorem dX12_lookAhead_9 : decode cX12_lookAhead 9 = .ok (.iconst 0, 1) := by decide +kernel
theorem dX12_lookAhead_10 : decode cX12_lookAhead 10 = .ok (.bipush 35, 2) := by decide +kernel
theorem dX12_lookAhead_12 : decode cX12_lookAhead 12 = .ok (.invokestatic 344, 3) := by decide +kernel
theorem dX12_lookAhead_15 : decode cX12_lookAhead 15 = .ok (.return_, 1) := by decide +kernel
theorem dX12_wrongs_0 : decode cX12_wrongs 0 = .ok (.iconst 0, 1) := by decide +kernel
theorem dX12_wrongs_1 : decode cX12_wrongs 1 = .ok (.istore_n 2, 1) := by decide +kernel
theorem dX12_wrongs_2 : decode cX12_wrongs 2 = .ok (.iconst 0, 1) := by decide +kernel
theorem dX12_wrongs_3 : decode cX12_wrongs 3 = .ok (.istore_n 3, 1) := by decide +kernel
theorem dX12_wrongs_4 : decode cX12_wrongs 4 = .ok (.iload_n 3, 1) := by decide +kernel
theorem dX12_wrongs_5 : decode cX12_wrongs 5 = .ok (.aload_n 0, 1) := by decide +kernel
theorem dX12_wrongs_6 : decode cX12_wrongs 6 = .ok (.getfield 87, 3) := by decide +kernel
theorem dX12_wrongs_9 : decode cX12_wrongs 9 = .ok (.getfield 164, 3) := by decide +kernel
theorem dX12_wrongs_12 : decode cX12_wrongs 12 = .ok (.if_icmp .ge 26, 3) := by decide +kernel
theorem dX12_wrongs_15 : decode cX12_wrongs 15 = .ok (.iload_n 2, 1) := by decide +kernel
theorem dX12_wrongs_16 : decode cX12_wrongs 16 = .ok (.aload_n 0, 1) := by decide +kernel
theorem dX12_wrongs_17 : decode cX12_wrongs 17 = .ok (.aload_n 1, 1) := by decide +kernel
theorem dX12_wrongs_18 : decode cX12_wrongs 18 = .ok (.iload_n 3, 1) := by decide +kernel
theorem dX12_wrongs_19 : decode cX12_wrongs 19 = .ok (.invokevirtual 319, 3) := by decide +kernel
theorem dX12_wrongs_22 : decode cX12_wrongs 22 = .ok (.ifCond .eq 7, 3) := by decide +kernel
theorem dX12_wrongs_25 : decode cX12_wrongs 25 = .ok (.iconst 1, 1) := by decide +kernel
theorem dX12_wrongs_26 : decode cX12_wrongs 26 = .ok (.goto 4, 3) := by decide +kernel
theorem dX12_wrongs_29 : decode cX12_wrongs 29 = .ok (.iconst 0, 1) := by decide +kernel
theorem dX12_wrongs_30 : decode cX12_wrongs 30 = .ok (.iadd, 1) := by decide +kernel
theorem dX12_wrongs_31 : decode cX12_wrongs 31 = .ok (.istore_n 2, 1) := by decide +kernel
theorem dX12_wrongs_32 : decode cX12_wrongs 32 = .ok (.iinc 3 1, 3) := by decide +kernel
theorem dX12_wrongs_35 : decode cX12_wrongs 35 = .ok (.goto (-31), 3) := by decide +kernel
theorem dX12_wrongs_38 : decode cX12_wrongs 38 = .ok (.iload_n 2, 1) := by decide +kernel
theorem dX12_wrongs_39 : decode cX12_wrongs 39 = .ok (.ireturn, 1) := by decide +kernel
theorem dX12_ofAll_0 : decode cX12_ofAll 0 = .ok (.iconst 0, 1) := by decide +kernel
theorem dX12_ofAll_1 : decode cX12_ofAll 1 = .ok (.istore_n 3, 1) := by decide +kernel
theorem dX12_ofAll_2 : decode cX12_ofAll 2 = .ok (.iconst 0, 1) := by decide +kernel
theorem dX12_ofAll_3 : decode cX12_ofAll 3 = .ok (.istore 4, 2) := by decide +kernel
theorem dX12_ofAll_5 : decode cX12_ofAll 5 = .ok (.iload 4, 2) := by decide +kernel
theorem dX12_ofAll_7 : decode cX12_ofAll 7 = .ok (.aload_n 0, 1) := by decide +kernel
theorem dX12_ofAll_8 : decode cX12_ofAll 8 = .ok (.getfield 87, 3) := by decide +kernel
theorem dX12_ofAll_11 : decode cX12_ofAll 11 = .ok (.getfield 161, 3) := by decide +kernel
theorem dX12_ofAll_14 : decode cX12_ofAll 14 = .ok (.if_icmp .ge 50, 3) := by decide +kernel
theorem dX12_ofAll_17 : decode cX12_ofAll 17 = .ok (.aload_n 1, 1) := by decide +kernel
theorem dX12_ofAll_18 : decode cX12_ofAll 18 = .ok (.iconst 3, 1) := by decide +kernel
theorem dX12_ofAll_19 : decode cX12_ofAll 19 = .ok (.iload 4, 2) := by decide +kernel
theorem dX12_ofAll_21 : decode cX12_ofAll 21 = .ok (.iadd, 1) := by decide +kernel
theorem dX12_ofAll_22 : decode cX12_ofAll 22 = .ok (.iaload, 1) := by decide +kernel
theorem dX12_ofAll_23 : decode cX12_ofAll 23 = .ok (.istore 5, 2) := by decide +kernel
theorem dX12_ofAll_25 : decode cX12_ofAll 25 = .ok (.iload_n 3, 1) := by decide +kernel
theorem dX12_ofAll_26 : decode cX12_ofAll 26 = .ok (.iload_n 2, 1) := by decide +kernel
theorem dX12_ofAll_27 : decode cX12_ofAll 27 = .ok (.bipush 6, 2) := by decide +kernel
theorem dX12_ofAll_29 : decode cX12_ofAll 29 = .ok (.if_icmp .ne 8, 3) := by decide +kernel
theorem dX12_ofAll_32 : decode cX12_ofAll 32 = .ok (.iload 5, 2) := by decide +kernel
theorem dX12_ofAll_34 : decode cX12_ofAll 34 = .ok (.goto 22, 3) := by decide +kernel
theorem dX12_ofAll_37 : decode cX12_ofAll 37 = .ok (.iload_n 2, 1) := by decide +kernel
theorem dX12_ofAll_38 : decode cX12_ofAll 38 = .ok (.bipush 7, 2) := by decide +kernel
theorem dX12_ofAll_40 : decode cX12_ofAll 40 = .ok (.if_icmp .ne 11, 3) := by decide +kernel
theorem dX12_ofAll_43 : decode cX12_ofAll 43 = .ok (.iload 5, 2) := by decide +kernel
theorem dX12_ofAll_45 : decode cX12_ofAll 45 = .ok (.invokestatic 301, 3) := by decide +kernel
theorem dX12_ofAll_48 : decode cX12_ofAll 48 = .ok (.goto 8, 3) := by decide +kernel
theorem dX12_ofAll_51 : decode cX12_ofAll 51 = .ok (.iload 5, 2) := by decide +kernel
theorem dX12_ofAll_53 : decode cX12_ofAll 53 = .ok (.invokestatic 330, 3) := by decide +kernel
theorem dX12_ofAll_56 : decode cX12_ofAll 56 = .ok (.iadd, 1) := by decide +kernel
theorem dX12_ofAll_57 : decode cX12_ofAll 57 = .ok (.istore_n 3, 1) := by decide +kernel
theorem dX12_ofAll_58 : decode cX12_ofAll 58 = .ok (.iinc 4 1, 3) := by decide +kernel
theorem dX12_ofAll_61 : decode cX12_ofAll 61 = .ok (.goto (-56), 3) := by decide +kernel
theorem dX12_ofAll_64 : decode cX12_ofAll 64 = .ok (.iload_n 3, 1) := by decide +kernel
theorem dX12_ofAll_65 : decode cX12_ofAll 65 = .ok (.ireturn, 1) := by decide +kernel
theorem dX12_counted_0 : decode cX12_counted 0 = .ok (.iload_n 2, 1) := by decide +kernel
theorem dX12_counted_1 : decode cX12_counted 1 = .ok (.tableswitch 128 0 11 #[63, 67, 75, 83, 91, 99, 107, 107, 107, 114, 120, 124], 63) := by decide +kernel
theorem dX12_counted_64 : decode cX12_counted 64 = .ok (.aload_n 1, 1) := by decide +kernel
theorem dX12_counted_65 : decode cX12_counted 65 = .ok (.iconst 0, 1) := by decide +kernel
theorem dX12_counted_66 : decode cX12_counted 66 = .ok (.iaload, 1) := by decide +kernel
theorem dX12_counted_67 : decode cX12_counted 67 = .ok (.ireturn, 1) := by decide +kernel
theorem dX12_counted_68 : decode cX12_counted 68 = .ok (.aload_n 0, 1) := by decide +kernel
theorem dX12_counted_69 : decode cX12_counted 69 = .ok (.getfield 87, 3) := by decide +kernel
theorem dX12_counted_72 : decode cX12_counted 72 = .ok (.getfield 154, 3) := by decide +kernel
theorem dX12_counted_75 : decode cX12_counted 75 = .ok (.ireturn, 1) := by decide +kernel
theorem dX12_counted_76 : decode cX12_counted 76 = .ok (.aload_n 0, 1) := by decide +kernel
theorem dX12_counted_77 : decode cX12_counted 77 = .ok (.getfield 87, 3) := by decide +kernel
theorem dX12_counted_80 : decode cX12_counted 80 = .ok (.getfield 161, 3) := by decide +kernel
theorem dX12_counted_83 : decode cX12_counted 83 = .ok (.ireturn, 1) := by decide +kernel
theorem dX12_counted_84 : decode cX12_counted 84 = .ok (.aload_n 0, 1) := by decide +kernel
theorem dX12_counted_85 : decode cX12_counted 85 = .ok (.getfield 87, 3) := by decide +kernel
theorem dX12_counted_88 : decode cX12_counted 88 = .ok (.getfield 164, 3) := by decide +kernel
theorem dX12_counted_91 : decode cX12_counted 91 = .ok (.ireturn, 1) := by decide +kernel
theorem dX12_counted_92 : decode cX12_counted 92 = .ok (.aload_n 0, 1) := by decide +kernel
theorem dX12_counted_93 : decode cX12_counted 93 = .ok (.getfield 87, 3) := by decide +kernel
theorem dX12_counted_96 : decode cX12_counted 96 = .ok (.getfield 167, 3) := by decide +kernel
theorem dX12_counted_99 : decode cX12_counted 99 = .ok (.ireturn, 1) := by decide +kernel
theorem dX12_counted_100 : decode cX12_counted 100 = .ok (.aload_n 0, 1) := by decide +kernel
theorem dX12_counted_101 : decode cX12_counted 101 = .ok (.getfield 87, 3) := by decide +kernel
theorem dX12_counted_104 : decode cX12_counted 104 = .ok (.getfield 266, 3) := by decide +kernel
theorem dX12_counted_107 : decode cX12_counted 107 = .ok (.ireturn, 1) := by decide +kernel
theorem dX12_counted_108 : decode cX12_counted 108 = .ok (.aload_n 0, 1) := by decide +kernel
theorem dX12_counted_109 : decode cX12_counted 109 = .ok (.aload_n 1, 1) := by decide +kernel
theorem dX12_counted_110 : decode cX12_counted 110 = .ok (.iload_n 2, 1) := by decide +kernel
theorem dX12_counted_111 : decode cX12_counted 111 = .ok (.invokevirtual 350, 3) := by decide +kernel
theorem dX12_counted_114 : decode cX12_counted 114 = .ok (.ireturn, 1) := by decide +kernel
theorem dX12_counted_115 : decode cX12_counted 115 = .ok (.aload_n 0, 1) := by decide +kernel
theorem dX12_counted_116 : decode cX12_counted 116 = .ok (.aload_n 1, 1) := by decide +kernel
theorem dX12_counted_117 : decode cX12_counted 117 = .ok (.invokevirtual 353, 3) := by decide +kernel
theorem dX12_counted_120 : decode cX12_counted 120 = .ok (.ireturn, 1) := by decide +kernel
theorem dX12_counted_121 : decode cX12_counted 121 = .ok (.aload_n 1, 1) := by decide +kernel
theorem dX12_counted_122 : decode cX12_counted 122 = .ok (.iconst 1, 1) := by decide +kernel
theorem dX12_counted_123 : decode cX12_counted 123 = .ok (.iaload, 1) := by decide +kernel
theorem dX12_counted_124 : decode cX12_counted 124 = .ok (.ireturn, 1) := by decide +kernel
theorem dX12_counted_125 : decode cX12_counted 125 = .ok (.aload_n 1, 1) := by decide +kernel
theorem dX12_counted_126 : decode cX12_counted 126 = .ok (.iconst 2, 1) := by decide +kernel
theorem dX12_counted_127 : decode cX12_counted 127 = .ok (.iaload, 1) := by decide +kernel
theorem dX12_counted_128 : decode cX12_counted 128 = .ok (.ireturn, 1) := by decide +kernel
theorem dX12_counted_129 : decode cX12_counted 129 = .ok (.aload_n 0, 1) := by decide +kernel
theorem dX12_counted_130 : decode cX12_counted 130 = .ok (.getfield 7, 3) := by decide +kernel
theorem dX12_counted_133 : decode cX12_counted 133 = .ok (.ireturn, 1) := by decide +kernel
theorem dX12_count_0 : decode cX12_count 0 = .ok (.aload_n 0, 1) := by decide +kernel
theorem dX12_count_1 : decode cX12_count 1 = .ok (.iconst 0, 1) := by decide +kernel
theorem dX12_count_2 : decode cX12_count 2 = .ok (.putfield 1, 3) := by decide +kernel
theorem dX12_count_5 : decode cX12_count 5 = .ok (.iload_n 1, 1) := by decide +kernel
theorem dX12_count_6 : decode cX12_count 6 = .ok (.iconst 0, 1) := by decide +kernel
theorem dX12_count_7 : decode cX12_count 7 = .ok (.bipush 12, 2) := by decide +kernel
theorem dX12_count_9 : decode cX12_count 9 = .ok (.invokestatic 22, 3) := by decide +kernel
theorem dX12_count_12 : decode cX12_count 12 = .ok (.ifCond .eq 15, 3) := by decide +kernel
theorem dX12_count_15 : decode cX12_count 15 = .ok (.aload_n 0, 1) := by decide +kernel
theorem dX12_count_16 : decode cX12_count 16 = .ok (.aload_n 0, 1) := by decide +kernel
theorem dX12_count_17 : decode cX12_count 17 = .ok (.getfield 109, 3) := by decide +kernel
theorem dX12_count_20 : decode cX12_count 20 = .ok (.iload_n 1, 1) := by decide +kernel
theorem dX12_count_21 : decode cX12_count 21 = .ok (.invokevirtual 357, 3) := by decide +kernel
theorem dX12_count_24 : decode cX12_count 24 = .ok (.goto 8, 3) := by decide +kernel
theorem dX12_count_27 : decode cX12_count 27 = .ok (.aload_n 0, 1) := by decide +kernel
theorem dX12_count_28 : decode cX12_count 28 = .ok (.iconst 1, 1) := by decide +kernel
theorem dX12_count_29 : decode cX12_count 29 = .ok (.invokevirtual 10, 3) := by decide +kernel
theorem dX12_count_32 : decode cX12_count 32 = .ok (.ireturn, 1) := by decide +kernel
theorem dX12_isColour_0 : decode cX12_isColour 0 = .ok (.iload_n 1, 1) := by decide +kernel
theorem dX12_isColour_1 : decode cX12_isColour 1 = .ok (.iconst 0, 1) := by decide +kernel
theorem dX12_isColour_2 : decode cX12_isColour 2 = .ok (.aload_n 0, 1) := by decide +kernel
theorem dX12_isColour_3 : decode cX12_isColour 3 = .ok (.getfield 87, 3) := by decide +kernel
theorem dX12_isColour_6 : decode cX12_isColour 6 = .ok (.getfield 154, 3) := by decide +kernel
theorem dX12_isColour_9 : decode cX12_isColour 9 = .ok (.iconst 1, 1) := by decide +kernel
theorem dX12_isColour_10 : decode cX12_isColour 10 = .ok (.isub, 1) := by decide +kernel
theorem dX12_isColour_11 : decode cX12_isColour 11 = .ok (.invokestatic 22, 3) := by decide +kernel
theorem dX12_isColour_14 : decode cX12_isColour 14 = .ok (.ireturn, 1) := by decide +kernel
theorem dX12_isCord_0 : decode cX12_isCord 0 = .ok (.iload_n 1, 1) := by decide +kernel
theorem dX12_isCord_1 : decode cX12_isCord 1 = .ok (.iconst 0, 1) := by decide +kernel
theorem dX12_isCord_2 : decode cX12_isCord 2 = .ok (.aload_n 0, 1) := by decide +kernel
theorem dX12_isCord_3 : decode cX12_isCord 3 = .ok (.getfield 87, 3) := by decide +kernel
theorem dX12_isCord_6 : decode cX12_isCord 6 = .ok (.getfield 161, 3) := by decide +kernel
theorem dX12_isCord_9 : decode cX12_isCord 9 = .ok (.iconst 1, 1) := by decide +kernel
theorem dX12_isCord_10 : decode cX12_isCord 10 = .ok (.isub, 1) := by decide +kernel
theorem dX12_isCord_11 : decode cX12_isCord 11 = .ok (.invokestatic 22, 3) := by decide +kernel
theorem dX12_isCord_14 : decode cX12_isCord 14 = .ok (.ireturn, 1) := by decide +kernel
theorem dX12_isTop_0 : decode cX12_isTop 0 = .ok (.iload_n 1, 1) := by decide +kernel
theorem dX12_isTop_1 : decode cX12_isTop 1 = .ok (.iconst 0, 1) := by decide +kernel
theorem dX12_isTop_2 : decode cX12_isTop 2 = .ok (.aload_n 0, 1) := by decide +kernel
theorem dX12_isTop_3 : decode cX12_isTop 3 = .ok (.getfield 87, 3) := by decide +kernel
theorem dX12_isTop_6 : decode cX12_isTop 6 = .ok (.getfield 164, 3) := by decide +kernel
theorem dX12_isTop_9 : decode cX12_isTop 9 = .ok (.iconst 1, 1) := by decide +kernel
theorem dX12_isTop_10 : decode cX12_isTop 10 = .ok (.isub, 1) := by decide +kernel
theorem dX12_isTop_11 : decode cX12_isTop 11 = .ok (.invokestatic 22, 3) := by decide +kernel
theorem dX12_isTop_14 : decode cX12_isTop 14 = .ok (.ireturn, 1) := by decide +kernel
theorem dX12_isKeeper_0 : decode cX12_isKeeper 0 = .ok (.iload_n 1, 1) := by decide +kernel
theorem dX12_isKeeper_1 : decode cX12_isKeeper 1 = .ok (.iconst 0, 1) := by decide +kernel
theorem dX12_isKeeper_2 : decode cX12_isKeeper 2 = .ok (.aload_n 0, 1) := by decide +kernel
theorem dX12_isKeeper_3 : decode cX12_isKeeper 3 = .ok (.getfield 87, 3) := by decide +kernel
theorem dX12_isKeeper_6 : decode cX12_isKeeper 6 = .ok (.getfield 167, 3) := by decide +kernel
theorem dX12_isKeeper_9 : decode cX12_isKeeper 9 = .ok (.iconst 1, 1) := by decide +kernel
theorem dX12_isKeeper_10 : decode cX12_isKeeper 10 = .ok (.isub, 1) := by decide +kernel
theorem dX12_isKeeper_11 : decode cX12_isKeeper 11 = .ok (.invokestatic 22, 3) := by decide +kernel
theorem dX12_isKeeper_14 : decode cX12_isKeeper 14 = .ok (.ireturn, 1) := by decide +kernel
theorem dX12_colourTold_0 : decode cX12_colourTold 0 = .ok (.iconst 0, 1) := by decide +kernel
theorem dX12_colourTold_1 : decode cX12_colourTold 1 = .ok (.istore_n 3, 1) := by decide +kernel
theorem dX12_colourTold_2 : decode cX12_colourTold 2 = .ok (.iconst 0, 1) := by decide +kernel
theorem dX12_colourTold_3 : decode cX12_colourTold 3 = .ok (.istore 4, 2) := by decide +kernel
theorem dX12_colourTold_5 : decode cX12_colourTold 5 = .ok (.iconst 0, 1) := by decide +kernel
theorem dX12_colourTold_6 : decode cX12_colourTold 6 = .ok (.istore 5, 2) := by decide +kernel
theorem dX12_colourTold_8 : decode cX12_colourTold 8 = .ok (.iload 5, 2) := by decide +kernel
theorem dX12_colourTold_10 : decode cX12_colourTold 10 = .ok (.aload_n 0, 1) := by decide +kernel
theorem dX12_colourTold_11 : decode cX12_colourTold 11 = .ok (.getfield 87, 3) := by decide +kernel
theorem dX12_colourTold_14 : decode cX12_colourTold 14 = .ok (.getfield 161, 3) := by decide +kernel
theorem dX12_colourTold_17 : decode cX12_colourTold 17 = .ok (.if_icmp .ge 43, 3) := by decide +kernel
theorem dX12_colourTold_20 : decode cX12_colourTold 20 = .ok (.aload_n 0, 1) := by decide +kernel
theorem dX12_colourTold_21 : decode cX12_colourTold 21 = .ok (.getfield 87, 3) := by decide +kernel
theorem dX12_colourTold_24 : decode cX12_colourTold 24 = .ok (.getfield 245, 3) := by decide +kernel
theorem dX12_colourTold_27 : decode cX12_colourTold 27 = .ok (.iload 5, 2) := by decide +kernel
theorem dX12_colourTold_29 : decode cX12_colourTold 29 = .ok (.iaload, 1) := by decide +kernel
theorem dX12_colourTold_30 : decode cX12_colourTold 30 = .ok (.iload_n 1, 1) := by decide +kernel
theorem dX12_colourTold_31 : decode cX12_colourTold 31 = .ok (.if_icmp .eq 6, 3) := by decide +kernel
theorem dX12_colourTold_34 : decode cX12_colourTold 34 = .ok (.goto 20, 3) := by decide +kernel
theorem dX12_colourTold_37 : decode cX12_colourTold 37 = .ok (.iinc 3 1, 3) := by decide +kernel
theorem dX12_colourTold_40 : decode cX12_colourTold 40 = .ok (.iload 4, 2) := by decide +kernel
theorem dX12_colourTold_42 : decode cX12_colourTold 42 = .ok (.aload_n 0, 1) := by decide +kernel
theorem dX12_colourTold_43 : decode cX12_colourTold 43 = .ok (.getfield 109, 3) := by decide +kernel
theorem dX12_colourTold_46 : decode cX12_colourTold 46 = .ok (.iconst 3, 1) := by decide +kernel
theorem dX12_colourTold_47 : decode cX12_colourTold 47 = .ok (.iload 5, 2) := by decide +kernel
theorem dX12_colourTold_49 : decode cX12_colourTold 49 = .ok (.iadd, 1) := by decide +kernel
theorem dX12_colourTold_50 : decode cX12_colourTold 50 = .ok (.iaload, 1) := by decide +kernel
theorem dX12_colourTold_51 : decode cX12_colourTold 51 = .ok (.iadd, 1) := by decide +kernel
theorem dX12_colourTold_52 : decode cX12_colourTold 52 = .ok (.istore 4, 2) := by decide +kernel
theorem dX12_colourTold_54 : decode cX12_colourTold 54 = .ok (.iinc 5 1, 3) := by decide +kernel
theorem dX12_colourTold_57 : decode cX12_colourTold 57 = .ok (.goto (-49), 3) := by decide +kernel
theorem dX12_colourTold_60 : decode cX12_colourTold 60 = .ok (.iload_n 2, 1) := by decide +kernel
theorem dX12_colourTold_61 : decode cX12_colourTold 61 = .ok (.ifCond .ne 15, 3) := by decide +kernel
theorem dX12_colourTold_64 : decode cX12_colourTold 64 = .ok (.aload_n 0, 1) := by decide +kernel
theorem dX12_colourTold_65 : decode cX12_colourTold 65 = .ok (.getfield 87, 3) := by decide +kernel
theorem dX12_colourTold_68 : decode cX12_colourTold 68 = .ok (.getfield 236, 3) := by decide +kernel
theorem dX12_colourTold_71 : decode cX12_colourTold 71 = .ok (.iload_n 1, 1) := by decide +kernel
theorem dX12_colourTold_72 : decode cX12_colourTold 72 = .ok (.iaload, 1) := by decide +kernel
theorem dX12_colourTold_73 : decode cX12_colourTold 73 = .ok (.goto 14, 3) := by decide +kernel
theorem dX12_colourTold_76 : decode cX12_colourTold 76 = .ok (.iload_n 2, 1) := by decide +kernel
theorem dX12_colourTold_77 : decode cX12_colourTold 77 = .ok (.iconst 1, 1) := by decide +kernel
theorem dX12_colourTold_78 : decode cX12_colourTold 78 = .ok (.if_icmp .ne 7, 3) := by decide +kernel
theorem dX12_colourTold_81 : decode cX12_colourTold 81 = .ok (.iload_n 3, 1) := by decide +kernel
theorem dX12_colourTold_82 : decode cX12_colourTold 82 = .ok (.goto 5, 3) := by decide +kernel
theorem dX12_colourTold_85 : decode cX12_colourTold 85 = .ok (.iload 4, 2) := by decide +kernel
theorem dX12_colourTold_87 : decode cX12_colourTold 87 = .ok (.ireturn, 1) := by decide +kernel
theorem dX12_colour_0 : decode cX12_colour 0 = .ok (.aload_n 0, 1) := by decide +kernel
theorem dX12_colour_1 : decode cX12_colour 1 = .ok (.iconst 0, 1) := by decide +kernel
theorem dX12_colour_2 : decode cX12_colour 2 = .ok (.putfield 1, 3) := by decide +kernel
theorem dX12_colour_5 : decode cX12_colour 5 = .ok (.aload_n 0, 1) := by decide +kernel
theorem dX12_colour_6 : decode cX12_colour 6 = .ok (.iload_n 1, 1) := by decide +kernel
theorem dX12_colour_7 : decode cX12_colour 7 = .ok (.invokevirtual 360, 3) := by decide +kernel
theorem dX12_colour_10 : decode cX12_colour 10 = .ok (.ifCond .eq 21, 3) := by decide +kernel
theorem dX12_colour_13 : decode cX12_colour 13 = .ok (.iload_n 2, 1) := by decide +kernel
theorem dX12_colour_14 : decode cX12_colour 14 = .ok (.iconst 0, 1) := by decide +kernel
theorem dX12_colour_15 : decode cX12_colour 15 = .ok (.iconst 2, 1) := by decide +kernel
theorem dX12_colour_16 : decode cX12_colour 16 = .ok (.invokestatic 22, 3) := by decide +kernel
theorem dX12_colour_19 : decode cX12_colour 19 = .ok (.ifCond .eq 12, 3) := by decide +kernel
theorem dX12_colour_22 : decode cX12_colour 22 = .ok (.aload_n 0, 1) := by decide +kernel
theorem dX12_colour_23 : decode cX12_colour 23 = .ok (.iload_n 1, 1) := by decide +kernel
theorem dX12_colour_24 : decode cX12_colour 24 = .ok (.iload_n 2, 1) := by decide +kernel
theorem dX12_colour_25 : decode cX12_colour 25 = .ok (.invokevirtual 363, 3) := by decide +kernel
theorem dX12_colour_28 : decode cX12_colour 28 = .ok (.goto 8, 3) := by decide +kernel
theorem dX12_colour_31 : decode cX12_colour 31 = .ok (.aload_n 0, 1) := by decide +kernel
theorem dX12_colour_32 : decode cX12_colour 32 = .ok (.iconst 1, 1) := by decide +kernel
theorem dX12_colour_33 : decode cX12_colour 33 = .ok (.invokevirtual 10, 3) := by decide +kernel
theorem dX12_colour_36 : decode cX12_colour 36 = .ok (.ireturn, 1) := by decide +kernel
theorem dX12_below_0 : decode cX12_below 0 = .ok (.iconst 0, 1) := by decide +kernel
theorem dX12_below_1 : decode cX12_below 1 = .ok (.istore_n 2, 1) := by decide +kernel
theorem dX12_below_2 : decode cX12_below 2 = .ok (.iconst 0, 1) := by decide +kernel
theorem dX12_below_3 : decode cX12_below 3 = .ok (.istore_n 3, 1) := by decide +kernel
theorem dX12_below_4 : decode cX12_below 4 = .ok (.iload_n 3, 1) := by decide +kernel
theorem dX12_below_5 : decode cX12_below 5 = .ok (.aload_n 0, 1) := by decide +kernel
theorem dX12_below_6 : decode cX12_below 6 = .ok (.getfield 87, 3) := by decide +kernel
theorem dX12_below_9 : decode cX12_below 9 = .ok (.getfield 161, 3) := by decide +kernel
theorem dX12_below_12 : decode cX12_below 12 = .ok (.if_icmp .ge 30, 3) := by decide +kernel
theorem dX12_below_15 : decode cX12_below 15 = .ok (.iload_n 2, 1) := by decide +kernel
theorem dX12_below_16 : decode cX12_below 16 = .ok (.aload_n 0, 1) := by decide +kernel
theorem dX12_below_17 : decode cX12_below 17 = .ok (.getfield 87, 3) := by decide +kernel
theorem dX12_below_20 : decode cX12_below 20 = .ok (.getfield 248, 3) := by decide +kernel
theorem dX12_below_23 : decode cX12_below 23 = .ok (.iload_n 3, 1) := by decide +kernel
theorem dX12_below_24 : decode cX12_below 24 = .ok (.iaload, 1) := by decide +kernel
theorem dX12_below_25 : decode cX12_below 25 = .ok (.iload_n 1, 1) := by decide +kernel
theorem dX12_below_26 : decode cX12_below 26 = .ok (.if_icmp .ne 7, 3) := by decide +kernel
theorem dX12_below_29 : decode cX12_below 29 = .ok (.iconst 1, 1) := by decide +kernel
theorem dX12_below_30 : decode cX12_below 30 = .ok (.goto 4, 3) := by decide +kernel
theorem dX12_below_33 : decode cX12_below 33 = .ok (.iconst 0, 1) := by decide +kernel
theorem dX12_below_34 : decode cX12_below 34 = .ok (.iadd, 1) := by decide +kernel
theorem dX12_below_35 : decode cX12_below 35 = .ok (.istore_n 2, 1) := by decide +kernel
theorem dX12_below_36 : decode cX12_below 36 = .ok (.iinc 3 1, 3) := by decide +kernel
theorem dX12_below_39 : decode cX12_below 39 = .ok (.goto (-35), 3) := by decide +kernel
theorem dX12_below_42 : decode cX12_below 42 = .ok (.iload_n 2, 1) := by decide +kernel
theorem dX12_below_43 : decode cX12_below 43 = .ok (.ireturn, 1) := by decide +kernel
theorem dX12_over_0 : decode cX12_over 0 = .ok (.iconst 0, 1) := by decide +kernel
theorem dX12_over_1 : decode cX12_over 1 = .ok (.istore_n 2, 1) := by decide +kernel
theorem dX12_over_2 : decode cX12_over 2 = .ok (.iconst 0, 1) := by decide +kernel
theorem dX12_over_3 : decode cX12_over 3 = .ok (.istore_n 3, 1) := by decide +kernel
theorem dX12_over_4 : decode cX12_over 4 = .ok (.iload_n 3, 1) := by decide +kernel
theorem dX12_over_5 : decode cX12_over 5 = .ok (.aload_n 0, 1) := by decide +kernel
theorem dX12_over_6 : decode cX12_over 6 = .ok (.getfield 87, 3) := by decide +kernel
theorem dX12_over_9 : decode cX12_over 9 = .ok (.getfield 164, 3) := by decide +kernel
theorem dX12_over_12 : decode cX12_over 12 = .ok (.if_icmp .ge 62, 3) := by decide +kernel
theorem dX12_over_15 : decode cX12_over 15 = .ok (.iconst 1, 1) := by decide +kernel
theorem dX12_over_16 : decode cX12_over 16 = .ok (.istore 4, 2) := by decide +kernel
theorem dX12_over_18 : decode cX12_over 18 = .ok (.iload 4, 2) := by decide +kernel
theorem dX12_over_20 : decode cX12_over 20 = .ok (.aload_n 0, 1) := by decide +kernel
theorem dX12_over_21 : decode cX12_over 21 = .ok (.getfield 87, 3) := by decide +kernel
theorem dX12_over_24 : decode cX12_over 24 = .ok (.getfield 260, 3) := by decide +kernel
theorem dX12_over_27 : decode cX12_over 27 = .ok (.bipush 9, 2) := by decide +kernel
theorem dX12_over_29 : decode cX12_over 29 = .ok (.iload_n 3, 1) := by decide +kernel
theorem dX12_over_30 : decode cX12_over 30 = .ok (.imul, 1) := by decide +kernel
theorem dX12_over_31 : decode cX12_over 31 = .ok (.iaload, 1) := by decide +kernel
theorem dX12_over_32 : decode cX12_over 32 = .ok (.if_icmp .gt 36, 3) := by decide +kernel
theorem dX12_over_35 : decode cX12_over 35 = .ok (.iload_n 2, 1) := by decide +kernel
theorem dX12_over_36 : decode cX12_over 36 = .ok (.aload_n 0, 1) := by decide +kernel
theorem dX12_over_37 : decode cX12_over 37 = .ok (.getfield 87, 3) := by decide +kernel
theorem dX12_over_40 : decode cX12_over 40 = .ok (.getfield 260, 3) := by decide +kernel
theorem dX12_over_43 : decode cX12_over 43 = .ok (.bipush 9, 2) := by decide +kernel
theorem dX12_over_45 : decode cX12_over 45 = .ok (.iload_n 3, 1) := by decide +kernel
theorem dX12_over_46 : decode cX12_over 46 = .ok (.imul, 1) := by decide +kernel
theorem dX12_over_47 : decode cX12_over 47 = .ok (.iload 4, 2) := by decide +kernel
theorem dX12_over_49 : decode cX12_over 49 = .ok (.iadd, 1) := by decide +kernel
theorem dX12_over_50 : decode cX12_over 50 = .ok (.iaload, 1) := by decide +kernel
theorem dX12_over_51 : decode cX12_over 51 = .ok (.iload_n 1, 1) := by decide +kernel
theorem dX12_over_52 : decode cX12_over 52 = .ok (.if_icmp .ne 7, 3) := by decide +kernel
theorem dX12_over_55 : decode cX12_over 55 = .ok (.iconst 1, 1) := by decide +kernel
theorem dX12_over_56 : decode cX12_over 56 = .ok (.goto 4, 3) := by decide +kernel
theorem dX12_over_59 : decode cX12_over 59 = .ok (.iconst 0, 1) := by decide +kernel
theorem dX12_over_60 : decode cX12_over 60 = .ok (.iadd, 1) := by decide +kernel
theorem dX12_over_61 : decode cX12_over 61 = .ok (.istore_n 2, 1) := by decide +kernel
theorem dX12_over_62 : decode cX12_over 62 = .ok (.iinc 4 1, 3) := by decide +kernel
theorem dX12_over_65 : decode cX12_over 65 = .ok (.goto (-47), 3) := by decide +kernel
theorem dX12_over_68 : decode cX12_over 68 = .ok (.iinc 3 1, 3) := by decide +kernel
theorem dX12_over_71 : decode cX12_over 71 = .ok (.goto (-67), 3) := by decide +kernel
theorem dX12_over_74 : decode cX12_over 74 = .ok (.iload_n 2, 1) := by decide +kernel
theorem dX12_over_75 : decode cX12_over 75 = .ok (.ireturn, 1) := by decide +kernel
theorem dX12_cordTold_0 : decode cX12_cordTold 0 = .ok (.iload_n 2, 1) := by decide +kernel
theorem dX12_cordTold_1 : decode cX12_cordTold 1 = .ok (.tableswitch 125 0 7 #[47, 57, 67, 76, 85, 95, 107, 119], 47) := by decide +kernel
theorem dX12_cordTold_48 : decode cX12_cordTold 48 = .ok (.aload_n 0, 1) := by decide +kernel
theorem dX12_cordTold_49 : decode cX12_cordTold 49 = .ok (.getfield 87, 3) := by decide +kernel
theorem dX12_cordTold_52 : decode cX12_cordTold 52 = .ok (.getfield 245, 3) := by decide +kernel
theorem dX12_cordTold_55 : decode cX12_cordTold 55 = .ok (.iload_n 1, 1) := by decide +kernel
theorem dX12_cordTold_56 : decode cX12_cordTold 56 = .ok (.iaload, 1) := by decide +kernel
theorem dX12_cordTold_57 : decode cX12_cordTold 57 = .ok (.ireturn, 1) := by decide +kernel
theorem dX12_cordTold_58 : decode cX12_cordTold 58 = .ok (.aload_n 0, 1) := by decide +kernel
theorem dX12_cordTold_59 : decode cX12_cordTold 59 = .ok (.getfield 87, 3) := by decide +kernel
theorem dX12_cordTold_62 : decode cX12_cordTold 62 = .ok (.getfield 248, 3) := by decide +kernel
theorem dX12_cordTold_65 : decode cX12_cordTold 65 = .ok (.iload_n 1, 1) := by decide +kernel
theorem dX12_cordTold_66 : decode cX12_cordTold 66 = .ok (.iaload, 1) := by decide +kernel
theorem dX12_cordTold_67 : decode cX12_cordTold 67 = .ok (.ireturn, 1) := by decide +kernel
theorem dX12_cordTold_68 : decode cX12_cordTold 68 = .ok (.aload_n 0, 1) := by decide +kernel
theorem dX12_cordTold_69 : decode cX12_cordTold 69 = .ok (.getfield 87, 3) := by decide +kernel
theorem dX12_cordTold_72 : decode cX12_cordTold 72 = .ok (.iload_n 1, 1) := by decide +kernel
theorem dX12_cordTold_73 : decode cX12_cordTold 73 = .ok (.invokevirtual 254, 3) := by decide +kernel
theorem dX12_cordTold_76 : decode cX12_cordTold 76 = .ok (.ireturn, 1) := by decide +kernel
theorem dX12_cordTold_77 : decode cX12_cordTold 77 = .ok (.aload_n 0, 1) := by decide +kernel
theorem dX12_cordTold_78 : decode cX12_cordTold 78 = .ok (.getfield 109, 3) := by decide +kernel
theorem dX12_cordTold_81 : decode cX12_cordTold 81 = .ok (.iconst 3, 1) := by decide +kernel
theorem dX12_cordTold_82 : decode cX12_cordTold 82 = .ok (.iload_n 1, 1) := by decide +kernel
theorem dX12_cordTold_83 : decode cX12_cordTold 83 = .ok (.iadd, 1) := by decide +kernel
theorem dX12_cordTold_84 : decode cX12_cordTold 84 = .ok (.iaload, 1) := by decide +kernel
theorem dX12_cordTold_85 : decode cX12_cordTold 85 = .ok (.ireturn, 1) := by decide +kernel
theorem dX12_cordTold_86 : decode cX12_cordTold 86 = .ok (.aload_n 0, 1) := by decide +kernel
theorem dX12_cordTold_87 : decode cX12_cordTold 87 = .ok (.aload_n 0, 1) := by decide +kernel
theorem dX12_cordTold_88 : decode cX12_cordTold 88 = .ok (.getfield 109, 3) := by decide +kernel
theorem dX12_cordTold_91 : decode cX12_cordTold 91 = .ok (.iload_n 1, 1) := by decide +kernel
theorem dX12_cordTold_92 : decode cX12_cordTold 92 = .ok (.invokevirtual 287, 3) := by decide +kernel
theorem dX12_cordTold_95 : decode cX12_cordTold 95 = .ok (.ireturn, 1) := by decide +kernel
theorem dX12_cordTold_96 : decode cX12_cordTold 96 = .ok (.aload_n 0, 1) := by decide +kernel
theorem dX12_cordTold_97 : decode cX12_cordTold 97 = .ok (.getfield 109, 3) := by decide +kernel
theorem dX12_cordTold_100 : decode cX12_cordTold 100 = .ok (.iconst 3, 1) := by decide +kernel
theorem dX12_cordTold_101 : decode cX12_cordTold 101 = .ok (.iload_n 1, 1) := by decide +kernel
theorem dX12_cordTold_102 : decode cX12_cordTold 102 = .ok (.iadd, 1) := by decide +kernel
theorem dX12_cordTold_103 : decode cX12_cordTold 103 = .ok (.iaload, 1) := by decide +kernel
theorem dX12_cordTold_104 : decode cX12_cordTold 104 = .ok (.invokestatic 301, 3) := by decide +kernel
theorem dX12_cordTold_107 : decode cX12_cordTold 107 = .ok (.ireturn, 1) := by decide +kernel
theorem dX12_cordTold_108 : decode cX12_cordTold 108 = .ok (.aload_n 0, 1) := by decide +kernel
theorem dX12_cordTold_109 : decode cX12_cordTold 109 = .ok (.getfield 109, 3) := by decide +kernel
theorem dX12_cordTold_112 : decode cX12_cordTold 112 = .ok (.iconst 3, 1) := by decide +kernel
theorem dX12_cordTold_113 : decode cX12_cordTold 113 = .ok (.iload_n 1, 1) := by decide +kernel
theorem dX12_cordTold_114 : decode cX12_cordTold 114 = .ok (.iadd, 1) := by decide +kernel
theorem dX12_cordTold_115 : decode cX12_cordTold 115 = .ok (.iaload, 1) := by decide +kernel
theorem dX12_cordTold_116 : decode cX12_cordTold 116 = .ok (.invokestatic 330, 3) := by decide +kernel
theorem dX12_cordTold_119 : decode cX12_cordTold 119 = .ok (.ireturn, 1) := by decide +kernel
theorem dX12_cordTold_120 : decode cX12_cordTold 120 = .ok (.aload_n 0, 1) := by decide +kernel
theorem dX12_cordTold_121 : decode cX12_cordTold 121 = .ok (.iload_n 1, 1) := by decide +kernel
theorem dX12_cordTold_122 : decode cX12_cordTold 122 = .ok (.invokevirtual 366, 3) := by decide +kernel
theorem dX12_cordTold_125 : decode cX12_cordTold 125 = .ok (.ireturn, 1) := by decide +kernel
theorem dX12_cordTold_126 : decode cX12_cordTold 126 = .ok (.aload_n 0, 1) := by decide +kernel
theorem dX12_cordTold_127 : decode cX12_cordTold 127 = .ok (.iload_n 1, 1) := by decide +kernel
theorem dX12_cordTold_128 : decode cX12_cordTold 128 = .ok (.invokevirtual 369, 3) := by decide +kernel
theorem dX12_cordTold_131 : decode cX12_cordTold 131 = .ok (.ireturn, 1) := by decide +kernel
theorem dX12_cord_0 : decode cX12_cord 0 = .ok (.aload_n 0, 1) := by decide +kernel
theorem dX12_cord_1 : decode cX12_cord 1 = .ok (.iconst 0, 1) := by decide +kernel
theorem dX12_cord_2 : decode cX12_cord 2 = .ok (.putfield 1, 3) := by decide +kernel
theorem dX12_cord_5 : decode cX12_cord 5 = .ok (.aload_n 0, 1) := by decide +kernel
theorem dX12_cord_6 : decode cX12_cord 6 = .ok (.iload_n 1, 1) := by decide +kernel
theorem dX12_cord_7 : decode cX12_cord 7 = .ok (.invokevirtual 372, 3) := by decide +kernel
theorem dX12_cord_10 : decode cX12_cord 10 = .ok (.ifCond .eq 22, 3) := by decide +kernel
theorem dX12_cord_13 : decode cX12_cord 13 = .ok (.iload_n 2, 1) := by decide +kernel
theorem dX12_cord_14 : decode cX12_cord 14 = .ok (.iconst 0, 1) := by decide +kernel
theorem dX12_cord_15 : decode cX12_cord 15 = .ok (.bipush 8, 2) := by decide +kernel
theorem dX12_cord_17 : decode cX12_cord 17 = .ok (.invokestatic 22, 3) := by decide +kernel
theorem dX12_cord_20 : decode cX12_cord 20 = .ok (.ifCond .eq 12, 3) := by decide +kernel
theorem dX12_cord_23 : decode cX12_cord 23 = .ok (.aload_n 0, 1) := by decide +kernel
theorem dX12_cord_24 : decode cX12_cord 24 = .ok (.iload_n 1, 1) := by decide +kernel
theorem dX12_cord_25 : decode cX12_cord 25 = .ok (.iload_n 2, 1) := by decide +kernel
theorem dX12_cord_26 : decode cX12_cord 26 = .ok (.invokevirtual 375, 3) := by decide +kernel
theorem dX12_cord_29 : decode cX12_cord 29 = .ok (.goto 8, 3) := by decide +kernel
theorem dX12_cord_32 : decode cX12_cord 32 = .ok (.aload_n 0, 1) := by decide +kernel
theorem dX12_cord_33 : decode cX12_cord 33 = .ok (.iconst 1, 1) := by decide +kernel
theorem dX12_cord_34 : decode cX12_cord 34 = .ok (.invokevirtual 10, 3) := by decide +kernel
theorem dX12_cord_37 : decode cX12_cord 37 = .ok (.ireturn, 1) := by decide +kernel
theorem dX12_digit_0 : decode cX12_digit 0 = .ok (.aload_n 0, 1) := by decide +kernel
theorem dX12_digit_1 : decode cX12_digit 1 = .ok (.iconst 0, 1) := by decide +kernel
theorem dX12_digit_2 : decode cX12_digit 2 = .ok (.putfield 1, 3) := by decide +kernel
theorem dX12_digit_5 : decode cX12_digit 5 = .ok (.aload_n 0, 1) := by decide +kernel
theorem dX12_digit_6 : decode cX12_digit 6 = .ok (.iload_n 1, 1) := by decide +kernel
theorem dX12_digit_7 : decode cX12_digit 7 = .ok (.invokevirtual 372, 3) := by decide +kernel
theorem dX12_digit_10 : decode cX12_digit 10 = .ok (.ifCond .eq 12, 3) := by decide +kernel
theorem dX12_digit_13 : decode cX12_digit 13 = .ok (.iload_n 2, 1) := by decide +kernel
theorem dX12_digit_14 : decode cX12_digit 14 = .ok (.iconst 0, 1) := by decide +kernel
theorem dX12_digit_15 : decode cX12_digit 15 = .ok (.iconst 3, 1) := by decide +kernel
theorem dX12_digit_16 : decode cX12_digit 16 = .ok (.invokestatic 22, 3) := by decide +kernel
theorem dX12_digit_19 : decode cX12_digit 19 = .ok (.ifCond .ne 9, 3) := by decide +kernel
theorem dX12_digit_22 : decode cX12_digit 22 = .ok (.aload_n 0, 1) := by decide +kernel
theorem dX12_digit_23 : decode cX12_digit 23 = .ok (.iconst 1, 1) := by decide +kernel
theorem dX12_digit_24 : decode cX12_digit 24 = .ok (.invokevirtual 10, 3) := by decide +kernel
theorem dX12_digit_27 : decode cX12_digit 27 = .ok (.ireturn, 1) := by decide +kernel
theorem dX12_digit_28 : decode cX12_digit 28 = .ok (.aload_n 0, 1) := by decide +kernel
theorem dX12_digit_29 : decode cX12_digit 29 = .ok (.getfield 109, 3) := by decide +kernel
theorem dX12_digit_32 : decode cX12_digit 32 = .ok (.iconst 3, 1) := by decide +kernel
theorem dX12_digit_33 : decode cX12_digit 33 = .ok (.iload_n 1, 1) := by decide +kernel
theorem dX12_digit_34 : decode cX12_digit 34 = .ok (.iadd, 1) := by decide +kernel
theorem dX12_digit_35 : decode cX12_digit 35 = .ok (.iaload, 1) := by decide +kernel
theorem dX12_digit_36 : decode cX12_digit 36 = .ok (.istore_n 3, 1) := by decide +kernel
theorem dX12_digit_37 : decode cX12_digit 37 = .ok (.iconst 0, 1) := by decide +kernel
theorem dX12_digit_38 : decode cX12_digit 38 = .ok (.istore 4, 2) := by decide +kernel
theorem dX12_digit_40 : decode cX12_digit 40 = .ok (.iload 4, 2) := by decide +kernel
theorem dX12_digit_42 : decode cX12_digit 42 = .ok (.iload_n 2, 1) := by decide +kernel
theorem dX12_digit_43 : decode cX12_digit 43 = .ok (.if_icmp .ge 14, 3) := by decide +kernel
theorem dX12_digit_46 : decode cX12_digit 46 = .ok (.iload_n 3, 1) := by decide +kernel
theorem dX12_digit_47 : decode cX12_digit 47 = .ok (.bipush 10, 2) := by decide +kernel
theorem dX12_digit_49 : decode cX12_digit 49 = .ok (.idiv, 1) := by decide +kernel
theorem dX12_digit_50 : decode cX12_digit 50 = .ok (.istore_n 3, 1) := by decide +kernel
theorem dX12_digit_51 : decode cX12_digit 51 = .ok (.iinc 4 1, 3) := by decide +kernel
theorem dX12_digit_54 : decode cX12_digit 54 = .ok (.goto (-14), 3) := by decide +kernel
theorem dX12_digit_57 : decode cX12_digit 57 = .ok (.iload_n 3, 1) := by decide +kernel
theorem dX12_digit_58 : decode cX12_digit 58 = .ok (.bipush 10, 2) := by decide +kernel
theorem dX12_digit_60 : decode cX12_digit 60 = .ok (.irem, 1) := by decide +kernel
theorem dX12_digit_61 : decode cX12_digit 61 = .ok (.ireturn, 1) := by decide +kernel
theorem dX12_topTold_0 : decode cX12_topTold 0 = .ok (.iload_n 2, 1) := by decide +kernel
theorem dX12_topTold_1 : decode cX12_topTold 1 = .ok (.tableswitch 60 0 2 #[27, 40, 50], 27) := by decide +kernel
theorem dX12_topTold_28 : decode cX12_topTold 28 = .ok (.aload_n 0, 1) := by decide +kernel
theorem dX12_topTold_29 : decode cX12_topTold 29 = .ok (.getfield 87, 3) := by decide +kernel
theorem dX12_topTold_32 : decode cX12_topTold 32 = .ok (.getfield 260, 3) := by decide +kernel
theorem dX12_topTold_35 : decode cX12_topTold 35 = .ok (.bipush 9, 2) := by decide +kernel
theorem dX12_topTold_37 : decode cX12_topTold 37 = .ok (.iload_n 1, 1) := by decide +kernel
theorem dX12_topTold_38 : decode cX12_topTold 38 = .ok (.imul, 1) := by decide +kernel
theorem dX12_topTold_39 : decode cX12_topTold 39 = .ok (.iaload, 1) := by decide +kernel
theorem dX12_topTold_40 : decode cX12_topTold 40 = .ok (.ireturn, 1) := by decide +kernel
theorem dX12_topTold_41 : decode cX12_topTold 41 = .ok (.aload_n 0, 1) := by decide +kernel
theorem dX12_topTold_42 : decode cX12_topTold 42 = .ok (.getfield 109, 3) := by decide +kernel
theorem dX12_topTold_45 : decode cX12_topTold 45 = .ok (.bipush 19, 2) := by decide +kernel
theorem dX12_topTold_47 : decode cX12_topTold 47 = .ok (.iload_n 1, 1) := by decide +kernel
theorem dX12_topTold_48 : decode cX12_topTold 48 = .ok (.iadd, 1) := by decide +kernel
theorem dX12_topTold_49 : decode cX12_topTold 49 = .ok (.iaload, 1) := by decide +kernel
theorem dX12_topTold_50 : decode cX12_topTold 50 = .ok (.ireturn, 1) := by decide +kernel
theorem dX12_topTold_51 : decode cX12_topTold 51 = .ok (.aload_n 0, 1) := by decide +kernel
theorem dX12_topTold_52 : decode cX12_topTold 52 = .ok (.aload_n 0, 1) := by decide +kernel
theorem dX12_topTold_53 : decode cX12_topTold 53 = .ok (.getfield 109, 3) := by decide +kernel
theorem dX12_topTold_56 : decode cX12_topTold 56 = .ok (.iload_n 1, 1) := by decide +kernel
theorem dX12_topTold_57 : decode cX12_topTold 57 = .ok (.invokevirtual 290, 3) := by decide +kernel
theorem dX12_topTold_60 : decode cX12_topTold 60 = .ok (.ireturn, 1) := by decide +kernel
theorem dX12_topTold_61 : decode cX12_topTold 61 = .ok (.aload_n 0, 1) := by decide +kernel
theorem dX12_topTold_62 : decode cX12_topTold 62 = .ok (.aload_n 0, 1) := by decide +kernel
theorem dX12_topTold_63 : decode cX12_topTold 63 = .ok (.getfield 109, 3) := by decide +kernel
theorem dX12_topTold_66 : decode cX12_topTold 66 = .ok (.iload_n 1, 1) := by decide +kernel
theorem dX12_topTold_67 : decode cX12_topTold 67 = .ok (.invokevirtual 319, 3) := by decide +kernel
theorem dX12_topTold_70 : decode cX12_topTold 70 = .ok (.ifCond .eq 7, 3) := by decide +kernel
theorem dX12_topTold_73 : decode cX12_topTold 73 = .ok (.iconst 1, 1) := by decide +kernel
theorem dX12_topTold_74 : decode cX12_topTold 74 = .ok (.goto 4, 3) := by decide +kernel
theorem dX12_topTold_77 : decode cX12_topTold 77 = .ok (.iconst 0, 1) := by decide +kernel
theorem dX12_topTold_78 : decode cX12_topTold 78 = .ok (.ireturn, 1) := by decide +kernel
theorem dX12_top_0 : decode cX12_top 0 = .ok (.aload_n 0, 1) := by decide +kernel
theorem dX12_top_1 : decode cX12_top 1 = .ok (.iconst 0, 1) := by decide +kernel
theorem dX12_top_2 : decode cX12_top 2 = .ok (.putfield 1, 3) := by decide +kernel
theorem dX12_top_5 : decode cX12_top 5 = .ok (.aload_n 0, 1) := by decide +kernel
theorem dX12_top_6 : decode cX12_top 6 = .ok (.iload_n 1, 1) := by decide +kernel
theorem dX12_top_7 : decode cX12_top 7 = .ok (.invokevirtual 378, 3) := by decide +kernel
theorem dX12_top_10 : decode cX12_top 10 = .ok (.ifCond .eq 21, 3) := by decide +kernel
theorem dX12_top_13 : decode cX12_top 13 = .ok (.iload_n 2, 1) := by decide +kernel
theorem dX12_top_14 : decode cX12_top 14 = .ok (.iconst 0, 1) := by decide +kernel
theorem dX12_top_15 : decode cX12_top 15 = .ok (.iconst 3, 1) := by decide +kernel
theorem dX12_top_16 : decode cX12_top 16 = .ok (.invokestatic 22, 3) := by decide +kernel
theorem dX12_top_19 : decode cX12_top 19 = .ok (.ifCond .eq 12, 3) := by decide +kernel
theorem dX12_top_22 : decode cX12_top 22 = .ok (.aload_n 0, 1) := by decide +kernel
theorem dX12_top_23 : decode cX12_top 23 = .ok (.iload_n 1, 1) := by decide +kernel
theorem dX12_top_24 : decode cX12_top 24 = .ok (.iload_n 2, 1) := by decide +kernel
theorem dX12_top_25 : decode cX12_top 25 = .ok (.invokevirtual 381, 3) := by decide +kernel
theorem dX12_top_28 : decode cX12_top 28 = .ok (.goto 8, 3) := by decide +kernel
theorem dX12_top_31 : decode cX12_top 31 = .ok (.aload_n 0, 1) := by decide +kernel
theorem dX12_top_32 : decode cX12_top 32 = .ok (.iconst 1, 1) := by decide +kernel
theorem dX12_top_33 : decode cX12_top 33 = .ok (.invokevirtual 10, 3) := by decide +kernel
theorem dX12_top_36 : decode cX12_top 36 = .ok (.ireturn, 1) := by decide +kernel
theorem dX12_keeperTold_0 : decode cX12_keeperTold 0 = .ok (.iload_n 2, 1) := by decide +kernel
theorem dX12_keeperTold_1 : decode cX12_keeperTold 1 = .ok (.tableswitch 57 0 2 #[27, 37, 47], 27) := by decide +kernel
theorem dX12_keeperTold_28 : decode cX12_keeperTold 28 = .ok (.aload_n 0, 1) := by decide +kernel
theorem dX12_keeperTold_29 : decode cX12_keeperTold 29 = .ok (.getfield 87, 3) := by decide +kernel
theorem dX12_keeperTold_32 : decode cX12_keeperTold 32 = .ok (.getfield 263, 3) := by decide +kernel
theorem dX12_keeperTold_35 : decode cX12_keeperTold 35 = .ok (.iload_n 1, 1) := by decide +kernel
theorem dX12_keeperTold_36 : decode cX12_keeperTold 36 = .ok (.iaload, 1) := by decide +kernel
theorem dX12_keeperTold_37 : decode cX12_keeperTold 37 = .ok (.ireturn, 1) := by decide +kernel
theorem dX12_keeperTold_38 : decode cX12_keeperTold 38 = .ok (.aload_n 0, 1) := by decide +kernel
theorem dX12_keeperTold_39 : decode cX12_keeperTold 39 = .ok (.getfield 109, 3) := by decide +kernel
theorem dX12_keeperTold_42 : decode cX12_keeperTold 42 = .ok (.bipush 25, 2) := by decide +kernel
theorem dX12_keeperTold_44 : decode cX12_keeperTold 44 = .ok (.iload_n 1, 1) := by decide +kernel
theorem dX12_keeperTold_45 : decode cX12_keeperTold 45 = .ok (.iadd, 1) := by decide +kernel
theorem dX12_keeperTold_46 : decode cX12_keeperTold 46 = .ok (.iaload, 1) := by decide +kernel
theorem dX12_keeperTold_47 : decode cX12_keeperTold 47 = .ok (.ireturn, 1) := by decide +kernel
theorem dX12_keeperTold_48 : decode cX12_keeperTold 48 = .ok (.aload_n 0, 1) := by decide +kernel
theorem dX12_keeperTold_49 : decode cX12_keeperTold 49 = .ok (.getfield 109, 3) := by decide +kernel
theorem dX12_keeperTold_52 : decode cX12_keeperTold 52 = .ok (.bipush 30, 2) := by decide +kernel
theorem dX12_keeperTold_54 : decode cX12_keeperTold 54 = .ok (.iload_n 1, 1) := by decide +kernel
theorem dX12_keeperTold_55 : decode cX12_keeperTold 55 = .ok (.iadd, 1) := by decide +kernel
theorem dX12_keeperTold_56 : decode cX12_keeperTold 56 = .ok (.iaload, 1) := by decide +kernel
theorem dX12_keeperTold_57 : decode cX12_keeperTold 57 = .ok (.ireturn, 1) := by decide +kernel
theorem dX12_keeperTold_58 : decode cX12_keeperTold 58 = .ok (.aload_n 0, 1) := by decide +kernel
theorem dX12_keeperTold_59 : decode cX12_keeperTold 59 = .ok (.aload_n 0, 1) := by decide +kernel
theorem dX12_keeperTold_60 : decode cX12_keeperTold 60 = .ok (.getfield 109, 3) := by decide +kernel
theorem dX12_keeperTold_63 : decode cX12_keeperTold 63 = .ok (.iload_n 1, 1) := by decide +kernel
theorem dX12_keeperTold_64 : decode cX12_keeperTold 64 = .ok (.invokevirtual 327, 3) := by decide +kernel
theorem dX12_keeperTold_67 : decode cX12_keeperTold 67 = .ok (.ifCond .eq 7, 3) := by decide +kernel
theorem dX12_keeperTold_70 : decode cX12_keeperTold 70 = .ok (.iconst 1, 1) := by decide +kernel
theorem dX12_keeperTold_71 : decode cX12_keeperTold 71 = .ok (.goto 4, 3) := by decide +kernel
theorem dX12_keeperTold_74 : decode cX12_keeperTold 74 = .ok (.iconst 0, 1) := by decide +kernel
theorem dX12_keeperTold_75 : decode cX12_keeperTold 75 = .ok (.ireturn, 1) := by decide +kernel
theorem dX12_keeper_0 : decode cX12_keeper 0 = .ok (.aload_n 0, 1) := by decide +kernel
theorem dX12_keeper_1 : decode cX12_keeper 1 = .ok (.iconst 0, 1) := by decide +kernel
theorem dX12_keeper_2 : decode cX12_keeper 2 = .ok (.putfield 1, 3) := by decide +kernel
theorem dX12_keeper_5 : decode cX12_keeper 5 = .ok (.aload_n 0, 1) := by decide +kernel
theorem dX12_keeper_6 : decode cX12_keeper 6 = .ok (.iload_n 1, 1) := by decide +kernel
theorem dX12_keeper_7 : decode cX12_keeper 7 = .ok (.invokevirtual 384, 3) := by decide +kernel
theorem dX12_keeper_10 : decode cX12_keeper 10 = .ok (.ifCond .eq 21, 3) := by decide +kernel
theorem dX12_keeper_13 : decode cX12_keeper 13 = .ok (.iload_n 2, 1) := by decide +kernel
theorem dX12_keeper_14 : decode cX12_keeper 14 = .ok (.iconst 0, 1) := by decide +kernel
theorem dX12_keeper_15 : decode cX12_keeper 15 = .ok (.iconst 3, 1) := by decide +kernel
theorem dX12_keeper_16 : decode cX12_keeper 16 = .ok (.invokestatic 22, 3) := by decide +kernel
theorem dX12_keeper_19 : decode cX12_keeper 19 = .ok (.ifCond .eq 12, 3) := by decide +kernel
theorem dX12_keeper_22 : decode cX12_keeper 22 = .ok (.aload_n 0, 1) := by decide +kernel
theorem dX12_keeper_23 : decode cX12_keeper 23 = .ok (.iload_n 1, 1) := by decide +kernel
theorem dX12_keeper_24 : decode cX12_keeper 24 = .ok (.iload_n 2, 1) := by decide +kernel
theorem dX12_keeper_25 : decode cX12_keeper 25 = .ok (.invokevirtual 387, 3) := by decide +kernel
theorem dX12_keeper_28 : decode cX12_keeper 28 = .ok (.goto 8, 3) := by decide +kernel
theorem dX12_keeper_31 : decode cX12_keeper 31 = .ok (.aload_n 0, 1) := by decide +kernel
theorem dX12_keeper_32 : decode cX12_keeper 32 = .ok (.iconst 1, 1) := by decide +kernel
theorem dX12_keeper_33 : decode cX12_keeper 33 = .ok (.invokevirtual 10, 3) := by decide +kernel
theorem dX12_keeper_36 : decode cX12_keeper 36 = .ok (.ireturn, 1) := by decide +kernel
theorem dX12_apart_0 : decode cX12_apart 0 = .ok (.aload_n 0, 1) := by decide +kernel
theorem dX12_apart_1 : decode cX12_apart 1 = .ok (.iconst 0, 1) := by decide +kernel
theorem dX12_apart_2 : decode cX12_apart 2 = .ok (.putfield 1, 3) := by decide +kernel
theorem dX12_apart_5 : decode cX12_apart 5 = .ok (.aload_n 0, 1) := by decide +kernel
theorem dX12_apart_6 : decode cX12_apart 6 = .ok (.iload_n 1, 1) := by decide +kernel
theorem dX12_apart_7 : decode cX12_apart 7 = .ok (.invokevirtual 372, 3) := by decide +kernel
theorem dX12_apart_10 : decode cX12_apart 10 = .ok (.ifCond .eq 11, 3) := by decide +kernel
theorem dX12_apart_13 : decode cX12_apart 13 = .ok (.aload_n 0, 1) := by decide +kernel
theorem dX12_apart_14 : decode cX12_apart 14 = .ok (.iload_n 2, 1) := by decide +kernel
theorem dX12_apart_15 : decode cX12_apart 15 = .ok (.invokevirtual 372, 3) := by decide +kernel
theorem dX12_apart_18 : decode cX12_apart 18 = .ok (.ifCond .ne 9, 3) := by decide +kernel
theorem dX12_apart_21 : decode cX12_apart 21 = .ok (.aload_n 0, 1) := by decide +kernel
theorem dX12_apart_22 : decode cX12_apart 22 = .ok (.iconst 1, 1) := by decide +kernel
theorem dX12_apart_23 : decode cX12_apart 23 = .ok (.invokevirtual 10, 3) := by decide +kernel
theorem dX12_apart_26 : decode cX12_apart 26 = .ok (.ireturn, 1) := by decide +kernel
theorem dX12_apart_27 : decode cX12_apart 27 = .ok (.iload_n 1, 1) := by decide +kernel
theorem dX12_apart_28 : decode cX12_apart 28 = .ok (.istore_n 3, 1) := by decide +kernel
theorem dX12_apart_29 : decode cX12_apart 29 = .ok (.iload_n 2, 1) := by decide +kernel
theorem dX12_apart_30 : decode cX12_apart 30 = .ok (.istore 4, 2) := by decide +kernel
theorem dX12_apart_32 : decode cX12_apart 32 = .ok (.iconst 0, 1) := by decide +kernel
theorem dX12_apart_33 : decode cX12_apart 33 = .ok (.istore 5, 2) := by decide +kernel
theorem dX12_apart_35 : decode cX12_apart 35 = .ok (.iload_n 3, 1) := by decide +kernel
theorem dX12_apart_36 : decode cX12_apart 36 = .ok (.iload 4, 2) := by decide +kernel
theorem dX12_apart_38 : decode cX12_apart 38 = .ok (.if_icmp .eq 66, 3) := by decide +kernel
theorem dX12_apart_41 : decode cX12_apart 41 = .ok (.aload_n 0, 1) := by decide +kernel
theorem dX12_apart_42 : decode cX12_apart 42 = .ok (.getfield 87, 3) := by decide +kernel
theorem dX12_apart_45 : decode cX12_apart 45 = .ok (.iload_n 3, 1) := by decide +kernel
theorem dX12_apart_46 : decode cX12_apart 46 = .ok (.invokevirtual 254, 3) := by decide +kernel
theorem dX12_apart_49 : decode cX12_apart 49 = .ok (.aload_n 0, 1) := by decide +kernel
theorem dX12_apart_50 : decode cX12_apart 50 = .ok (.getfield 87, 3) := by decide +kernel
theorem dX12_apart_53 : decode cX12_apart 53 = .ok (.iload 4, 2) := by decide +kernel
theorem dX12_apart_55 : decode cX12_apart 55 = .ok (.invokevirtual 254, 3) := by decide +kernel
theorem dX12_apart_58 : decode cX12_apart 58 = .ok (.if_icmp .lt 7, 3) := by decide +kernel
theorem dX12_apart_61 : decode cX12_apart 61 = .ok (.iconst 1, 1) := by decide +kernel
theorem dX12_apart_62 : decode cX12_apart 62 = .ok (.goto 4, 3) := by decide +kernel
theorem dX12_apart_65 : decode cX12_apart 65 = .ok (.iconst 0, 1) := by decide +kernel
theorem dX12_apart_66 : decode cX12_apart 66 = .ok (.istore 6, 2) := by decide +kernel
theorem dX12_apart_68 : decode cX12_apart 68 = .ok (.iload 6, 2) := by decide +kernel
theorem dX12_apart_70 : decode cX12_apart 70 = .ok (.ifCond .eq 16, 3) := by decide +kernel
theorem dX12_apart_73 : decode cX12_apart 73 = .ok (.aload_n 0, 1) := by decide +kernel
theorem dX12_apart_74 : decode cX12_apart 74 = .ok (.getfield 87, 3) := by decide +kernel
theorem dX12_apart_77 : decode cX12_apart 77 = .ok (.getfield 248, 3) := by decide +kernel
theorem dX12_apart_80 : decode cX12_apart 80 = .ok (.iload_n 3, 1) := by decide +kernel
theorem dX12_apart_81 : decode cX12_apart 81 = .ok (.iaload, 1) := by decide +kernel
theorem dX12_apart_82 : decode cX12_apart 82 = .ok (.istore_n 3, 1) := by decide +kernel
theorem dX12_apart_83 : decode cX12_apart 83 = .ok (.goto 15, 3) := by decide +kernel
theorem dX12_apart_86 : decode cX12_apart 86 = .ok (.aload_n 0, 1) := by decide +kernel
theorem dX12_apart_87 : decode cX12_apart 87 = .ok (.getfield 87, 3) := by decide +kernel
theorem dX12_apart_90 : decode cX12_apart 90 = .ok (.getfield 248, 3) := by decide +kernel
theorem dX12_apart_93 : decode cX12_apart 93 = .ok (.iload 4, 2) := by decide +kernel
theorem dX12_apart_95 : decode cX12_apart 95 = .ok (.iaload, 1) := by decide +kernel
theorem dX12_apart_96 : decode cX12_apart 96 = .ok (.istore 4, 2) := by decide +kernel
theorem dX12_apart_98 : decode cX12_apart 98 = .ok (.iinc 5 1, 3) := by decide +kernel
theorem dX12_apart_101 : decode cX12_apart 101 = .ok (.goto (-66), 3) := by decide +kernel
theorem dX12_apart_104 : decode cX12_apart 104 = .ok (.iload 5, 2) := by decide +kernel
theorem dX12_apart_106 : decode cX12_apart 106 = .ok (.ireturn, 1) := by decide +kernel
theorem dX12_rankOf_0 : decode cX12_rankOf 0 = .ok (.aload_n 0, 1) := by decide +kernel
theorem dX12_rankOf_1 : decode cX12_rankOf 1 = .ok (.getfield 87, 3) := by decide +kernel
theorem dX12_rankOf_4 : decode cX12_rankOf 4 = .ok (.getfield 236, 3) := by decide +kernel
theorem dX12_rankOf_7 : decode cX12_rankOf 7 = .ok (.aload_n 0, 1) := by decide +kernel
theorem dX12_rankOf_8 : decode cX12_rankOf 8 = .ok (.getfield 87, 3) := by decide +kernel
theorem dX12_rankOf_11 : decode cX12_rankOf 11 = .ok (.getfield 245, 3) := by decide +kernel
theorem dX12_rankOf_14 : decode cX12_rankOf 14 = .ok (.iload_n 1, 1) := by decide +kernel
theorem dX12_rankOf_15 : decode cX12_rankOf 15 = .ok (.iaload, 1) := by decide +kernel
theorem dX12_rankOf_16 : decode cX12_rankOf 16 = .ok (.iaload, 1) := by decide +kernel
theorem dX12_rankOf_17 : decode cX12_rankOf 17 = .ok (.ireturn, 1) := by decide +kernel
theorem dX12_isAhead_0 : decode cX12_isAhead 0 = .ok (.aload_n 0, 1) := by decide +kernel
theorem dX12_isAhead_1 : decode cX12_isAhead 1 = .ok (.iload_n 1, 1) := by decide +kernel
theorem dX12_isAhead_2 : decode cX12_isAhead 2 = .ok (.invokevirtual 390, 3) := by decide +kernel
theorem dX12_isAhead_5 : decode cX12_isAhead 5 = .ok (.aload_n 0, 1) := by decide +kernel
theorem dX12_isAhead_6 : decode cX12_isAhead 6 = .ok (.iload_n 2, 1) := by decide +kernel
theorem dX12_isAhead_7 : decode cX12_isAhead 7 = .ok (.invokevirtual 390, 3) := by decide +kernel
theorem dX12_isAhead_10 : decode cX12_isAhead 10 = .ok (.if_icmp .eq 22, 3) := by decide +kernel
theorem dX12_isAhead_13 : decode cX12_isAhead 13 = .ok (.aload_n 0, 1) := by decide +kernel
theorem dX12_isAhead_14 : decode cX12_isAhead 14 = .ok (.iload_n 1, 1) := by decide +kernel
theorem dX12_isAhead_15 : decode cX12_isAhead 15 = .ok (.invokevirtual 390, 3) := by decide +kernel
theorem dX12_isAhead_18 : decode cX12_isAhead 18 = .ok (.aload_n 0, 1) := by decide +kernel
theorem dX12_isAhead_19 : decode cX12_isAhead 19 = .ok (.iload_n 2, 1) := by decide +kernel
theorem dX12_isAhead_20 : decode cX12_isAhead 20 = .ok (.invokevirtual 390, 3) := by decide +kernel
theorem dX12_isAhead_23 : decode cX12_isAhead 23 = .ok (.if_icmp .ge 7, 3) := by decide +kernel
theorem dX12_isAhead_26 : decode cX12_isAhead 26 = .ok (.iconst 1, 1) := by decide +kernel
theorem dX12_isAhead_27 : decode cX12_isAhead 27 = .ok (.goto 4, 3) := by decide +kernel
theorem dX12_isAhead_30 : decode cX12_isAhead 30 = .ok (.iconst 0, 1) := by decide +kernel
theorem dX12_isAhead_31 : decode cX12_isAhead 31 = .ok (.ireturn, 1) := by decide +kernel
theorem dX12_isAhead_32 : decode cX12_isAhead 32 = .ok (.aload_n 0, 1) := by decide +kernel
theorem dX12_isAhead_33 : decode cX12_isAhead 33 = .ok (.aload_n 0, 1) := by decide +kernel
theorem dX12_isAhead_34 : decode cX12_isAhead 34 = .ok (.getfield 109, 3) := by decide +kernel
theorem dX12_isAhead_37 : decode cX12_isAhead 37 = .ok (.iload_n 1, 1) := by decide +kernel
theorem dX12_isAhead_38 : decode cX12_isAhead 38 = .ok (.invokevirtual 287, 3) := by decide +kernel
theorem dX12_isAhead_41 : decode cX12_isAhead 41 = .ok (.istore_n 3, 1) := by decide +kernel
theorem dX12_isAhead_42 : decode cX12_isAhead 42 = .ok (.aload_n 0, 1) := by decide +kernel
theorem dX12_isAhead_43 : decode cX12_isAhead 43 = .ok (.aload_n 0, 1) := by decide +kernel
theorem dX12_isAhead_44 : decode cX12_isAhead 44 = .ok (.getfield 109, 3) := by decide +kernel
theorem dX12_isAhead_47 : decode cX12_isAhead 47 = .ok (.iload_n 2, 1) := by decide +kernel
theorem dX12_isAhead_48 : decode cX12_isAhead 48 = .ok (.invokevirtual 287, 3) := by decide +kernel
theorem dX12_isAhead_51 : decode cX12_isAhead 51 = .ok (.istore 4, 2) := by decide +kernel
theorem dX12_isAhead_53 : decode cX12_isAhead 53 = .ok (.iload_n 3, 1) := by decide +kernel
theorem dX12_isAhead_54 : decode cX12_isAhead 54 = .ok (.iload 4, 2) := by decide +kernel
theorem dX12_isAhead_56 : decode cX12_isAhead 56 = .ok (.if_icmp .eq 17, 3) := by decide +kernel
theorem dX12_isAhead_59 : decode cX12_isAhead 59 = .ok (.iload_n 3, 1) := by decide +kernel
theorem dX12_isAhead_60 : decode cX12_isAhead 60 = .ok (.iload 4, 2) := by decide +kernel
theorem dX12_isAhead_62 : decode cX12_isAhead 62 = .ok (.if_icmp .le 7, 3) := by decide +kernel
theorem dX12_isAhead_65 : decode cX12_isAhead 65 = .ok (.iconst 1, 1) := by decide +kernel
theorem dX12_isAhead_66 : decode cX12_isAhead 66 = .ok (.goto 17, 3) := by decide +kernel
theorem dX12_isAhead_69 : decode cX12_isAhead 69 = .ok (.iconst 0, 1) := by decide +kernel
theorem dX12_isAhead_70 : decode cX12_isAhead 70 = .ok (.goto 13, 3) := by decide +kernel
theorem dX12_isAhead_73 : decode cX12_isAhead 73 = .ok (.iload_n 1, 1) := by decide +kernel
theorem dX12_isAhead_74 : decode cX12_isAhead 74 = .ok (.iload_n 2, 1) := by decide +kernel
theorem dX12_isAhead_75 : decode cX12_isAhead 75 = .ok (.if_icmp .ge 7, 3) := by decide +kernel
theorem dX12_isAhead_78 : decode cX12_isAhead 78 = .ok (.iconst 1, 1) := by decide +kernel
theorem dX12_isAhead_79 : decode cX12_isAhead 79 = .ok (.goto 4, 3) := by decide +kernel
theorem dX12_isAhead_82 : decode cX12_isAhead 82 = .ok (.iconst 0, 1) := by decide +kernel
theorem dX12_isAhead_83 : decode cX12_isAhead 83 = .ok (.ireturn, 1) := by decide +kernel
theorem dX12_order_0 : decode cX12_order 0 = .ok (.aload_n 0, 1) := by decide +kernel
theorem dX12_order_1 : decode cX12_order 1 = .ok (.iconst 0, 1) := by decide +kernel
theorem dX12_order_2 : decode cX12_order 2 = .ok (.putfield 1, 3) := by decide +kernel
theorem dX12_order_5 : decode cX12_order 5 = .ok (.iload_n 1, 1) := by decide +kernel
theorem dX12_order_6 : decode cX12_order 6 = .ok (.iconst 0, 1) := by decide +kernel
theorem dX12_order_7 : decode cX12_order 7 = .ok (.aload_n 0, 1) := by decide +kernel
theorem dX12_order_8 : decode cX12_order 8 = .ok (.getfield 87, 3) := by decide +kernel
theorem dX12_order_11 : decode cX12_order 11 = .ok (.getfield 161, 3) := by decide +kernel
theorem dX12_order_14 : decode cX12_order 14 = .ok (.iconst 1, 1) := by decide +kernel
theorem dX12_order_15 : decode cX12_order 15 = .ok (.isub, 1) := by decide +kernel
theorem dX12_order_16 : decode cX12_order 16 = .ok (.invokestatic 22, 3) := by decide +kernel
theorem dX12_order_19 : decode cX12_order 19 = .ok (.ifCond .ne 9, 3) := by decide +kernel
theorem dX12_order_22 : decode cX12_order 22 = .ok (.aload_n 0, 1) := by decide +kernel
theorem dX12_order_23 : decode cX12_order 23 = .ok (.iconst 1, 1) := by decide +kernel
theorem dX12_order_24 : decode cX12_order 24 = .ok (.invokevirtual 10, 3) := by decide +kernel
theorem dX12_order_27 : decode cX12_order 27 = .ok (.ireturn, 1) := by decide +kernel
theorem dX12_order_28 : decode cX12_order 28 = .ok (.iconst (-1), 1) := by decide +kernel
theorem dX12_order_29 : decode cX12_order 29 = .ok (.istore_n 2, 1) := by decide +kernel
theorem dX12_order_30 : decode cX12_order 30 = .ok (.iconst 0, 1) := by decide +kernel
theorem dX12_order_31 : decode cX12_order 31 = .ok (.istore_n 3, 1) := by decide +kernel
theorem dX12_order_32 : decode cX12_order 32 = .ok (.iload_n 3, 1) := by decide +kernel
theorem dX12_order_33 : decode cX12_order 33 = .ok (.aload_n 0, 1) := by decide +kernel
theorem dX12_order_34 : decode cX12_order 34 = .ok (.getfield 87, 3) := by decide +kernel
theorem dX12_order_37 : decode cX12_order 37 = .ok (.getfield 161, 3) := by decide +kernel
theorem dX12_order_40 : decode cX12_order 40 = .ok (.if_icmp .ge 67, 3) := by decide +kernel
theorem dX12_order_43 : decode cX12_order 43 = .ok (.iconst 0, 1) := by decide +kernel
theorem dX12_order_44 : decode cX12_order 44 = .ok (.istore 4, 2) := by decide +kernel
theorem dX12_order_46 : decode cX12_order 46 = .ok (.iconst 0, 1) := by decide +kernel
theorem dX12_order_47 : decode cX12_order 47 = .ok (.istore 5, 2) := by decide +kernel
theorem dX12_order_49 : decode cX12_order 49 = .ok (.iload 5, 2) := by decide +kernel
theorem dX12_order_51 : decode cX12_order 51 = .ok (.aload_n 0, 1) := by decide +kernel
theorem dX12_order_52 : decode cX12_order 52 = .ok (.getfield 87, 3) := by decide +kernel
theorem dX12_order_55 : decode cX12_order 55 = .ok (.getfield 161, 3) := by decide +kernel
theorem dX12_order_58 : decode cX12_order 58 = .ok (.if_icmp .ge 35, 3) := by decide +kernel
theorem dX12_order_61 : decode cX12_order 61 = .ok (.iload 4, 2) := by decide +kernel
theorem dX12_order_63 : decode cX12_order 63 = .ok (.iload 5, 2) := by decide +kernel
theorem dX12_order_65 : decode cX12_order 65 = .ok (.iload_n 3, 1) := by decide +kernel
theorem dX12_order_66 : decode cX12_order 66 = .ok (.if_icmp .eq 17, 3) := by decide +kernel
theorem dX12_order_69 : decode cX12_order 69 = .ok (.aload_n 0, 1) := by decide +kernel
theorem dX12_order_70 : decode cX12_order 70 = .ok (.iload 5, 2) := by decide +kernel
theorem dX12_order_72 : decode cX12_order 72 = .ok (.iload_n 3, 1) := by decide +kernel
theorem dX12_order_73 : decode cX12_order 73 = .ok (.invokevirtual 393, 3) := by decide +kernel
theorem dX12_order_76 : decode cX12_order 76 = .ok (.ifCond .eq 7, 3) := by decide +kernel
theorem dX12_order_79 : decode cX12_order 79 = .ok (.iconst 1, 1) := by decide +kernel
theorem dX12_order_80 : decode cX12_order 80 = .ok (.goto 4, 3) := by decide +kernel
theorem dX12_order_83 : decode cX12_order 83 = .ok (.iconst 0, 1) := by decide +kernel
theorem dX12_order_84 : decode cX12_order 84 = .ok (.iadd, 1) := by decide +kernel
theorem dX12_order_85 : decode cX12_order 85 = .ok (.istore 4, 2) := by decide +kernel
theorem dX12_order_87 : decode cX12_order 87 = .ok (.iinc 5 1, 3) := by decide +kernel
theorem dX12_order_90 : decode cX12_order 90 = .ok (.goto (-41), 3) := by decide +kernel
theorem dX12_order_93 : decode cX12_order 93 = .ok (.iload 4, 2) := by decide +kernel
theorem dX12_order_95 : decode cX12_order 95 = .ok (.iload_n 1, 1) := by decide +kernel
theorem dX12_order_96 : decode cX12_order 96 = .ok (.if_icmp .ne 5, 3) := by decide +kernel
theorem dX12_order_99 : decode cX12_order 99 = .ok (.iload_n 3, 1) := by decide +kernel
theorem dX12_order_100 : decode cX12_order 100 = .ok (.istore_n 2, 1) := by decide +kernel
theorem dX12_order_101 : decode cX12_order 101 = .ok (.iinc 3 1, 3) := by decide +kernel
theorem dX12_order_104 : decode cX12_order 104 = .ok (.goto (-72), 3) := by decide +kernel
theorem dX12_order_107 : decode cX12_order 107 = .ok (.iload_n 2, 1) := by decide +kernel
theorem dX12_order_108 : decode cX12_order 108 = .ok (.ireturn, 1) := by decide +kernel
theorem dX12_find__0 : decode cX12_find_ 0 = .ok (.aload_n 0, 1) := by decide +kernel
theorem dX12_find__1 : decode cX12_find_ 1 = .ok (.iconst 0, 1) := by decide +kernel
theorem dX12_find__2 : decode cX12_find_ 2 = .ok (.putfield 1, 3) := by decide +kernel
theorem dX12_find__5 : decode cX12_find_ 5 = .ok (.iconst 0, 1) := by decide +kernel
theorem dX12_find__6 : decode cX12_find_ 6 = .ok (.istore_n 2, 1) := by decide +kernel
theorem dX12_find__7 : decode cX12_find_ 7 = .ok (.iload_n 2, 1) := by decide +kernel
theorem dX12_find__8 : decode cX12_find_ 8 = .ok (.aload_n 0, 1) := by decide +kernel
theorem dX12_find__9 : decode cX12_find_ 9 = .ok (.getfield 87, 3) := by decide +kernel
theorem dX12_find__12 : decode cX12_find_ 12 = .ok (.getfield 161, 3) := by decide +kernel
theorem dX12_find__15 : decode cX12_find_ 15 = .ok (.if_icmp .ge 24, 3) := by decide +kernel
theorem dX12_find__18 : decode cX12_find_ 18 = .ok (.aload_n 0, 1) := by decide +kernel
theorem dX12_find__19 : decode cX12_find_ 19 = .ok (.aload_n 0, 1) := by decide +kernel
theorem dX12_find__20 : decode cX12_find_ 20 = .ok (.getfield 109, 3) := by decide +kernel
theorem dX12_find__23 : decode cX12_find_ 23 = .ok (.iload_n 2, 1) := by decide +kernel
theorem dX12_find__24 : decode cX12_find_ 24 = .ok (.invokevirtual 287, 3) := by decide +kernel
theorem dX12_find__27 : decode cX12_find_ 27 = .ok (.iload_n 1, 1) := by decide +kernel
theorem dX12_find__28 : decode cX12_find_ 28 = .ok (.if_icmp .ne 5, 3) := by decide +kernel
theorem dX12_find__31 : decode cX12_find_ 31 = .ok (.iload_n 2, 1) := by decide +kernel
theorem dX12_find__32 : decode cX12_find_ 32 = .ok (.ireturn, 1) := by decide +kernel
theorem dX12_find__33 : decode cX12_find_ 33 = .ok (.iinc 2 1, 3) := by decide +kernel
theorem dX12_find__36 : decode cX12_find_ 36 = .ok (.goto (-29), 3) := by decide +kernel
theorem dX12_find__39 : decode cX12_find_ 39 = .ok (.iconst (-1), 1) := by decide +kernel
theorem dX12_find__40 : decode cX12_find_ 40 = .ok (.ireturn, 1) := by decide +kernel
theorem dX12_jumble_0 : decode cX12_jumble 0 = .ok (.iconst 0, 1) := by decide +kernel
theorem dX12_jumble_1 : decode cX12_jumble 1 = .ok (.istore_n 1, 1) := by decide +kernel
theorem dX12_jumble_2 : decode cX12_jumble 2 = .ok (.iconst 0, 1) := by decide +kernel
theorem dX12_jumble_3 : decode cX12_jumble 3 = .ok (.istore_n 2, 1) := by decide +kernel
theorem dX12_jumble_4 : decode cX12_jumble 4 = .ok (.iload_n 2, 1) := by decide +kernel
theorem dX12_jumble_5 : decode cX12_jumble 5 = .ok (.aload_n 0, 1) := by decide +kernel
theorem dX12_jumble_6 : decode cX12_jumble 6 = .ok (.getfield 87, 3) := by decide +kernel
theorem dX12_jumble_9 : decode cX12_jumble 9 = .ok (.getfield 161, 3) := by decide +kernel
theorem dX12_jumble_12 : decode cX12_jumble 12 = .ok (.if_icmp .ge 69, 3) := by decide +kernel
theorem dX12_jumble_15 : decode cX12_jumble 15 = .ok (.iload_n 2, 1) := by decide +kernel
theorem dX12_jumble_16 : decode cX12_jumble 16 = .ok (.iconst 1, 1) := by decide +kernel
theorem dX12_jumble_17 : decode cX12_jumble 17 = .ok (.isub, 1) := by decide +kernel
theorem dX12_jumble_18 : decode cX12_jumble 18 = .ok (.istore_n 3, 1) := by decide +kernel
theorem dX12_jumble_19 : decode cX12_jumble 19 = .ok (.iload_n 3, 1) := by decide +kernel
theorem dX12_jumble_20 : decode cX12_jumble 20 = .ok (.ifCond .lt 30, 3) := by decide +kernel
theorem dX12_jumble_23 : decode cX12_jumble 23 = .ok (.aload_n 0, 1) := by decide +kernel
theorem dX12_jumble_24 : decode cX12_jumble 24 = .ok (.getfield 87, 3) := by decide +kernel
theorem dX12_jumble_27 : decode cX12_jumble 27 = .ok (.getfield 248, 3) := by decide +kernel
theorem dX12_jumble_30 : decode cX12_jumble 30 = .ok (.iload_n 3, 1) := by decide +kernel
theorem dX12_jumble_31 : decode cX12_jumble 31 = .ok (.iaload, 1) := by decide +kernel
theorem dX12_jumble_32 : decode cX12_jumble 32 = .ok (.aload_n 0, 1) := by decide +kernel
theorem dX12_jumble_33 : decode cX12_jumble 33 = .ok (.getfield 87, 3) := by decide +kernel
theorem dX12_jumble_36 : decode cX12_jumble 36 = .ok (.getfield 248, 3) := by decide +kernel
theorem dX12_jumble_39 : decode cX12_jumble 39 = .ok (.iload_n 2, 1) := by decide +kernel
theorem dX12_jumble_40 : decode cX12_jumble 40 = .ok (.iaload, 1) := by decide +kernel
theorem dX12_jumble_41 : decode cX12_jumble 41 = .ok (.if_icmp .eq 9, 3) := by decide +kernel
theorem dX12_jumble_44 : decode cX12_jumble 44 = .ok (.iinc 3 (-1), 3) := by decide +kernel
theorem dX12_jumble_47 : decode cX12_jumble 47 = .ok (.goto (-28), 3) := by decide +kernel
theorem dX12_jumble_50 : decode cX12_jumble 50 = .ok (.iload_n 1, 1) := by decide +kernel
theorem dX12_jumble_51 : decode cX12_jumble 51 = .ok (.iload_n 3, 1) := by decide +kernel
theorem dX12_jumble_52 : decode cX12_jumble 52 = .ok (.ifCond .lt 20, 3) := by decide +kernel
theorem dX12_jumble_55 : decode cX12_jumble 55 = .ok (.aload_n 0, 1) := by decide +kernel
theorem dX12_jumble_56 : decode cX12_jumble 56 = .ok (.iload_n 2, 1) := by decide +kernel
theorem dX12_jumble_57 : decode cX12_jumble 57 = .ok (.invokevirtual 390, 3) := by decide +kernel
theorem dX12_jumble_60 : decode cX12_jumble 60 = .ok (.aload_n 0, 1) := by decide +kernel
theorem dX12_jumble_61 : decode cX12_jumble 61 = .ok (.iload_n 3, 1) := by decide +kernel
theorem dX12_jumble_62 : decode cX12_jumble 62 = .ok (.invokevirtual 390, 3) := by decide +kernel
theorem dX12_jumble_65 : decode cX12_jumble 65 = .ok (.if_icmp .ge 7, 3) := by decide +kernel
theorem dX12_jumble_68 : decode cX12_jumble 68 = .ok (.iconst 1, 1) := by decide +kernel
theorem dX12_jumble_69 : decode cX12_jumble 69 = .ok (.goto 4, 3) := by decide +kernel
theorem dX12_jumble_72 : decode cX12_jumble 72 = .ok (.iconst 0, 1) := by decide +kernel
theorem dX12_jumble_73 : decode cX12_jumble 73 = .ok (.iadd, 1) := by decide +kernel
theorem dX12_jumble_74 : decode cX12_jumble 74 = .ok (.istore_n 1, 1) := by decide +kernel
theorem dX12_jumble_75 : decode cX12_jumble 75 = .ok (.iinc 2 1, 3) := by decide +kernel
theorem dX12_jumble_78 : decode cX12_jumble 78 = .ok (.goto (-74), 3) := by decide +kernel
theorem dX12_jumble_81 : decode cX12_jumble 81 = .ok (.iload_n 1, 1) := by decide +kernel
theorem dX12_jumble_82 : decode cX12_jumble 82 = .ok (.ireturn, 1) := by decide +kernel
theorem dX12_disorder_0 : decode cX12_disorder 0 = .ok (.aload_n 0, 1) := by decide +kernel
theorem dX12_disorder_1 : decode cX12_disorder 1 = .ok (.iconst 0, 1) := by decide +kernel
theorem dX12_disorder_2 : decode cX12_disorder 2 = .ok (.putfield 1, 3) := by decide +kernel
theorem dX12_disorder_5 : decode cX12_disorder 5 = .ok (.aload_n 0, 1) := by decide +kernel
theorem dX12_disorder_6 : decode cX12_disorder 6 = .ok (.invokevirtual 396, 3) := by decide +kernel
theorem dX12_disorder_9 : decode cX12_disorder 9 = .ok (.ireturn, 1) := by decide +kernel
theorem dX12_put_0 : decode cX12_put 0 = .ok (.aload_n 0, 1) := by decide +kernel
theorem dX12_put_1 : decode cX12_put 1 = .ok (.getfield 109, 3) := by decide +kernel
theorem dX12_put_4 : decode cX12_put 4 = .ok (.iload_n 1, 1) := by decide +kernel
theorem dX12_put_5 : decode cX12_put 5 = .ok (.iaload, 1) := by decide +kernel
theorem dX12_put_6 : decode cX12_put 6 = .ok (.istore_n 3, 1) := by decide +kernel
theorem dX12_put_7 : decode cX12_put 7 = .ok (.aload_n 0, 1) := by decide +kernel
theorem dX12_put_8 : decode cX12_put 8 = .ok (.getfield 109, 3) := by decide +kernel
theorem dX12_put_11 : decode cX12_put 11 = .ok (.iload_n 1, 1) := by decide +kernel
theorem dX12_put_12 : decode cX12_put 12 = .ok (.iload_n 2, 1) := by decide +kernel
theorem dX12_put_13 : decode cX12_put 13 = .ok (.iastore, 1) := by decide +kernel
theorem dX12_put_14 : decode cX12_put 14 = .ok (.iload_n 3, 1) := by decide +kernel
theorem dX12_put_15 : decode cX12_put 15 = .ok (.ireturn, 1) := by decide +kernel
theorem dX12_set_0 : decode cX12_set 0 = .ok (.aload_n 0, 1) := by decide +kernel
theorem dX12_set_1 : decode cX12_set 1 = .ok (.iconst 0, 1) := by decide +kernel
theorem dX12_set_2 : decode cX12_set 2 = .ok (.putfield 1, 3) := by decide +kernel
theorem dX12_set_5 : decode cX12_set 5 = .ok (.aload_n 0, 1) := by decide +kernel
theorem dX12_set_6 : decode cX12_set 6 = .ok (.iload_n 1, 1) := by decide +kernel
theorem dX12_set_7 : decode cX12_set 7 = .ok (.invokevirtual 372, 3) := by decide +kernel
theorem dX12_set_10 : decode cX12_set 10 = .ok (.ifCond .ne 9, 3) := by decide +kernel
theorem dX12_set_13 : decode cX12_set 13 = .ok (.aload_n 0, 1) := by decide +kernel
theorem dX12_set_14 : decode cX12_set 14 = .ok (.iconst 1, 1) := by decide +kernel
theorem dX12_set_15 : decode cX12_set 15 = .ok (.invokevirtual 10, 3) := by decide +kernel
theorem dX12_set_18 : decode cX12_set 18 = .ok (.ireturn, 1) := by decide +kernel
theorem dX12_set_19 : decode cX12_set 19 = .ok (.iload_n 2, 1) := by decide +kernel
theorem dX12_set_20 : decode cX12_set 20 = .ok (.iconst 0, 1) := by decide +kernel
theorem dX12_set_21 : decode cX12_set 21 = .ok (.sipush 9999, 3) := by decide +kernel
theorem dX12_set_24 : decode cX12_set 24 = .ok (.invokestatic 22, 3) := by decide +kernel
theorem dX12_set_27 : decode cX12_set 27 = .ok (.ifCond .eq 14, 3) := by decide +kernel
theorem dX12_set_30 : decode cX12_set 30 = .ok (.aload_n 0, 1) := by decide +kernel
theorem dX12_set_31 : decode cX12_set 31 = .ok (.iconst 3, 1) := by decide +kernel
theorem dX12_set_32 : decode cX12_set 32 = .ok (.iload_n 1, 1) := by decide +kernel
theorem dX12_set_33 : decode cX12_set 33 = .ok (.iadd, 1) := by decide +kernel
theorem dX12_set_34 : decode cX12_set 34 = .ok (.iload_n 2, 1) := by decide +kernel
theorem dX12_set_35 : decode cX12_set 35 = .ok (.invokevirtual 399, 3) := by decide +kernel
theorem dX12_set_38 : decode cX12_set 38 = .ok (.goto 8, 3) := by decide +kernel
theorem dX12_set_41 : decode cX12_set 41 = .ok (.aload_n 0, 1) := by decide +kernel
theorem dX12_set_42 : decode cX12_set 42 = .ok (.iconst 2, 1) := by decide +kernel
theorem dX12_set_43 : decode cX12_set 43 = .ok (.invokevirtual 10, 3) := by decide +kernel
theorem dX12_set_46 : decode cX12_set 46 = .ok (.ireturn, 1) := by decide +kernel
theorem dX12_rest_0 : decode cX12_rest 0 = .ok (.aload_n 0, 1) := by decide +kernel
theorem dX12_rest_1 : decode cX12_rest 1 = .ok (.iconst 0, 1) := by decide +kernel
theorem dX12_rest_2 : decode cX12_rest 2 = .ok (.putfield 1, 3) := by decide +kernel
theorem dX12_rest_5 : decode cX12_rest 5 = .ok (.aload_n 0, 1) := by decide +kernel
theorem dX12_rest_6 : decode cX12_rest 6 = .ok (.iload_n 1, 1) := by decide +kernel
theorem dX12_rest_7 : decode cX12_rest 7 = .ok (.invokevirtual 384, 3) := by decide +kernel
theorem dX12_rest_10 : decode cX12_rest 10 = .ok (.ifCond .eq 15, 3) := by decide +kernel
theorem dX12_rest_13 : decode cX12_rest 13 = .ok (.aload_n 0, 1) := by decide +kernel
theorem dX12_rest_14 : decode cX12_rest 14 = .ok (.bipush 25, 2) := by decide +kernel
theorem dX12_rest_16 : decode cX12_rest 16 = .ok (.iload_n 1, 1) := by decide +kernel
theorem dX12_rest_17 : decode cX12_rest 17 = .ok (.iadd, 1) := by decide +kernel
theorem dX12_rest_18 : decode cX12_rest 18 = .ok (.iconst 0, 1) := by decide +kernel
theorem dX12_rest_19 : decode cX12_rest 19 = .ok (.invokevirtual 399, 3) := by decide +kernel
theorem dX12_rest_22 : decode cX12_rest 22 = .ok (.goto 8, 3) := by decide +kernel
theorem dX12_rest_25 : decode cX12_rest 25 = .ok (.aload_n 0, 1) := by decide +kernel
theorem dX12_rest_26 : decode cX12_rest 26 = .ok (.iconst 1, 1) := by decide +kernel
theorem dX12_rest_27 : decode cX12_rest 27 = .ok (.invokevirtual 10, 3) := by decide +kernel
theorem dX12_rest_30 : decode cX12_rest 30 = .ok (.ireturn, 1) := by decide +kernel
theorem dX12_dye_0 : decode cX12_dye 0 = .ok (.aload_n 0, 1) := by decide +kernel
theorem dX12_dye_1 : decode cX12_dye 1 = .ok (.iconst 0, 1) := by decide +kernel
theorem dX12_dye_2 : decode cX12_dye 2 = .ok (.putfield 1, 3) := by decide +kernel
theorem dX12_dye_5 : decode cX12_dye 5 = .ok (.aload_n 0, 1) := by decide +kernel
theorem dX12_dye_6 : decode cX12_dye 6 = .ok (.iload_n 1, 1) := by decide +kernel
theorem dX12_dye_7 : decode cX12_dye 7 = .ok (.invokevirtual 372, 3) := by decide +kernel
theorem dX12_dye_10 : decode cX12_dye 10 = .ok (.ifCond .eq 11, 3) := by decide +kernel
theorem dX12_dye_13 : decode cX12_dye 13 = .ok (.aload_n 0, 1) := by decide +kernel
theorem dX12_dye_14 : decode cX12_dye 14 = .ok (.iload_n 2, 1) := by decide +kernel
theorem dX12_dye_15 : decode cX12_dye 15 = .ok (.invokevirtual 360, 3) := by decide +kernel
theorem dX12_dye_18 : decode cX12_dye 18 = .ok (.ifCond .ne 9, 3) := by decide +kernel
theorem dX12_dye_21 : decode cX12_dye 21 = .ok (.aload_n 0, 1) := by decide +kernel
theorem dX12_dye_22 : decode cX12_dye 22 = .ok (.iconst 1, 1) := by decide +kernel
theorem dX12_dye_23 : decode cX12_dye 23 = .ok (.invokevirtual 10, 3) := by decide +kernel
theorem dX12_dye_26 : decode cX12_dye 26 = .ok (.ireturn, 1) := by decide +kernel
theorem dX12_dye_27 : decode cX12_dye 27 = .ok (.aload_n 0, 1) := by decide +kernel
theorem dX12_dye_28 : decode cX12_dye 28 = .ok (.getfield 87, 3) := by decide +kernel
theorem dX12_dye_31 : decode cX12_dye 31 = .ok (.getfield 245, 3) := by decide +kernel
theorem dX12_dye_34 : decode cX12_dye 34 = .ok (.iload_n 1, 1) := by decide +kernel
theorem dX12_dye_35 : decode cX12_dye 35 = .ok (.iaload, 1) := by decide +kernel
theorem dX12_dye_36 : decode cX12_dye 36 = .ok (.istore_n 3, 1) := by decide +kernel
theorem dX12_dye_37 : decode cX12_dye 37 = .ok (.aload_n 0, 1) := by decide +kernel
theorem dX12_dye_38 : decode cX12_dye 38 = .ok (.getfield 87, 3) := by decide +kernel
theorem dX12_dye_41 : decode cX12_dye 41 = .ok (.getfield 245, 3) := by decide +kernel
theorem dX12_dye_44 : decode cX12_dye 44 = .ok (.iload_n 1, 1) := by decide +kernel
theorem dX12_dye_45 : decode cX12_dye 45 = .ok (.iload_n 2, 1) := by decide +kernel
theorem dX12_dye_46 : decode cX12_dye 46 = .ok (.iastore, 1) := by decide +kernel
theorem dX12_dye_47 : decode cX12_dye 47 = .ok (.iload_n 3, 1) := by decide +kernel
theorem dX12_dye_48 : decode cX12_dye 48 = .ok (.ireturn, 1) := by decide +kernel
theorem dX12_reach_0 : decode cX12_reach 0 = .ok (.iconst 0, 1) := by decide +kernel
theorem dX12_reach_1 : decode cX12_reach 1 = .ok (.istore_n 2, 1) := by decide +kernel
theorem dX12_reach_2 : decode cX12_reach 2 = .ok (.iconst 0, 1) := by decide +kernel
theorem dX12_reach_3 : decode cX12_reach 3 = .ok (.istore_n 3, 1) := by decide +kernel
theorem dX12_reach_4 : decode cX12_reach 4 = .ok (.iload_n 3, 1) := by decide +kernel
theorem dX12_reach_5 : decode cX12_reach 5 = .ok (.aload_n 0, 1) := by decide +kernel
theorem dX12_reach_6 : decode cX12_reach 6 = .ok (.getfield 87, 3) := by decide +kernel
theorem dX12_reach_9 : decode cX12_reach 9 = .ok (.getfield 161, 3) := by decide +kernel
theorem dX12_reach_12 : decode cX12_reach 12 = .ok (.if_icmp .ge 32, 3) := by decide +kernel
theorem dX12_reach_15 : decode cX12_reach 15 = .ok (.aload_n 0, 1) := by decide +kernel
theorem dX12_reach_16 : decode cX12_reach 16 = .ok (.getfield 87, 3) := by decide +kernel
theorem dX12_reach_19 : decode cX12_reach 19 = .ok (.getfield 248, 3) := by decide +kernel
theorem dX12_reach_22 : decode cX12_reach 22 = .ok (.iload_n 3, 1) := by decide +kernel
theorem dX12_reach_23 : decode cX12_reach 23 = .ok (.iaload, 1) := by decide +kernel
theorem dX12_reach_24 : decode cX12_reach 24 = .ok (.iload_n 1, 1) := by decide +kernel
theorem dX12_reach_25 : decode cX12_reach 25 = .ok (.if_icmp .ne 13, 3) := by decide +kernel
theorem dX12_reach_28 : decode cX12_reach 28 = .ok (.iload_n 2, 1) := by decide +kernel
theorem dX12_reach_29 : decode cX12_reach 29 = .ok (.aload_n 0, 1) := by decide +kernel
theorem dX12_reach_30 : decode cX12_reach 30 = .ok (.iload_n 3, 1) := by decide +kernel
theorem dX12_reach_31 : decode cX12_reach 31 = .ok (.invokevirtual 402, 3) := by decide +kernel
theorem dX12_reach_34 : decode cX12_reach 34 = .ok (.invokestatic 313, 3) := by decide +kernel
theorem dX12_reach_37 : decode cX12_reach 37 = .ok (.istore_n 2, 1) := by decide +kernel
theorem dX12_reach_38 : decode cX12_reach 38 = .ok (.iinc 3 1, 3) := by decide +kernel
theorem dX12_reach_41 : decode cX12_reach 41 = .ok (.goto (-37), 3) := by decide +kernel
theorem dX12_reach_44 : decode cX12_reach 44 = .ok (.iload_n 2, 1) := by decide +kernel
theorem dX12_reach_45 : decode cX12_reach 45 = .ok (.iconst 1, 1) := by decide +kernel
theorem dX12_reach_46 : decode cX12_reach 46 = .ok (.iadd, 1) := by decide +kernel
theorem dX12_reach_47 : decode cX12_reach 47 = .ok (.ireturn, 1) := by decide +kernel
theorem dX12_isBelow_0 : decode cX12_isBelow 0 = .ok (.iconst 0, 1) := by decide +kernel
theorem dX12_isBelow_1 : decode cX12_isBelow 1 = .ok (.istore_n 3, 1) := by decide +kernel
theorem dX12_isBelow_2 : decode cX12_isBelow 2 = .ok (.iload_n 1, 1) := by decide +kernel
theorem dX12_isBelow_3 : decode cX12_isBelow 3 = .ok (.istore 4, 2) := by decide +kernel
theorem dX12_isBelow_5 : decode cX12_isBelow 5 = .ok (.iload 4, 2) := by decide +kernel
theorem dX12_isBelow_7 : decode cX12_isBelow 7 = .ok (.iconst (-1), 1) := by decide +kernel
theorem dX12_isBelow_8 : decode cX12_isBelow 8 = .ok (.if_icmp .eq 32, 3) := by decide +kernel
theorem dX12_isBelow_11 : decode cX12_isBelow 11 = .ok (.iload_n 3, 1) := by decide +kernel
theorem dX12_isBelow_12 : decode cX12_isBelow 12 = .ok (.iload 4, 2) := by decide +kernel
theorem dX12_isBelow_14 : decode cX12_isBelow 14 = .ok (.iload_n 2, 1) := by decide +kernel
theorem dX12_isBelow_15 : decode cX12_isBelow 15 = .ok (.if_icmp .ne 7, 3) := by decide +kernel
theorem dX12_isBelow_18 : decode cX12_isBelow 18 = .ok (.iconst 1, 1) := by decide +kernel
theorem dX12_isBelow_19 : decode cX12_isBelow 19 = .ok (.goto 4, 3) := by decide +kernel
theorem dX12_isBelow_22 : decode cX12_isBelow 22 = .ok (.iconst 0, 1) := by decide +kernel
theorem dX12_isBelow_23 : decode cX12_isBelow 23 = .ok (.ior, 1) := by decide +kernel
theorem dX12_isBelow_24 : decode cX12_isBelow 24 = .ok (.istore_n 3, 1) := by decide +kernel
theorem dX12_isBelow_25 : decode cX12_isBelow 25 = .ok (.aload_n 0, 1) := by decide +kernel
theorem dX12_isBelow_26 : decode cX12_isBelow 26 = .ok (.getfield 87, 3) := by decide +kernel
theorem dX12_isBelow_29 : decode cX12_isBelow 29 = .ok (.getfield 248, 3) := by decide +kernel
theorem dX12_isBelow_32 : decode cX12_isBelow 32 = .ok (.iload 4, 2) := by decide +kernel
theorem dX12_isBelow_34 : decode cX12_isBelow 34 = .ok (.iaload, 1) := by decide +kernel
theorem dX12_isBelow_35 : decode cX12_isBelow 35 = .ok (.istore 4, 2) := by decide +kernel
theorem dX12_isBelow_37 : decode cX12_isBelow 37 = .ok (.goto (-32), 3) := by decide +kernel
theorem dX12_isBelow_40 : decode cX12_isBelow 40 = .ok (.iload_n 3, 1) := by decide +kernel
theorem dX12_isBelow_41 : decode cX12_isBelow 41 = .ok (.ireturn, 1) := by decide +kernel
theorem dX12_hang_0 : decode cX12_hang 0 = .ok (.aload_n 0, 1) := by decide +kernel
theorem dX12_hang_1 : decode cX12_hang 1 = .ok (.iconst 0, 1) := by decide +kernel
theorem dX12_hang_2 : decode cX12_hang 2 = .ok (.putfield 1, 3) := by decide +kernel
theorem dX12_hang_5 : decode cX12_hang 5 = .ok (.aload_n 0, 1) := by decide +kernel
theorem dX12_hang_6 : decode cX12_hang 6 = .ok (.iload_n 1, 1) := by decide +kernel
theorem dX12_hang_7 : decode cX12_hang 7 = .ok (.invokevirtual 372, 3) := by decide +kernel
theorem dX12_hang_10 : decode cX12_hang 10 = .ok (.ifCond .eq 16, 3) := by decide +kernel
theorem dX12_hang_13 : decode cX12_hang 13 = .ok (.iload_n 2, 1) := by decide +kernel
theorem dX12_hang_14 : decode cX12_hang 14 = .ok (.iconst (-1), 1) := by decide +kernel
theorem dX12_hang_15 : decode cX12_hang 15 = .ok (.if_icmp .eq 17, 3) := by decide +kernel
theorem dX12_hang_18 : decode cX12_hang 18 = .ok (.aload_n 0, 1) := by decide +kernel
theorem dX12_hang_19 : decode cX12_hang 19 = .ok (.iload_n 2, 1) := by decide +kernel
theorem dX12_hang_20 : decode cX12_hang 20 = .ok (.invokevirtual 372, 3) := by decide +kernel
theorem dX12_hang_23 : decode cX12_hang 23 = .ok (.ifCond .ne 9, 3) := by decide +kernel
theorem dX12_hang_26 : decode cX12_hang 26 = .ok (.aload_n 0, 1) := by decide +kernel
theorem dX12_hang_27 : decode cX12_hang 27 = .ok (.iconst 1, 1) := by decide +kernel
theorem dX12_hang_28 : decode cX12_hang 28 = .ok (.invokevirtual 10, 3) := by decide +kernel
theorem dX12_hang_31 : decode cX12_hang 31 = .ok (.ireturn, 1) := by decide +kernel
theorem dX12_hang_32 : decode cX12_hang 32 = .ok (.iload_n 2, 1) := by decide +kernel
theorem dX12_hang_33 : decode cX12_hang 33 = .ok (.iconst (-1), 1) := by decide +kernel
theorem dX12_hang_34 : decode cX12_hang 34 = .ok (.if_icmp .eq 18, 3) := by decide +kernel
theorem dX12_hang_37 : decode cX12_hang 37 = .ok (.aload_n 0, 1) := by decide +kernel
theorem dX12_hang_38 : decode cX12_hang 38 = .ok (.iload_n 2, 1) := by decide +kernel
theorem dX12_hang_39 : decode cX12_hang 39 = .ok (.iload_n 1, 1) := by decide +kernel
theorem dX12_hang_40 : decode cX12_hang 40 = .ok (.invokevirtual 405, 3) := by decide +kernel
theorem dX12_hang_43 : decode cX12_hang 43 = .ok (.ifCond .eq 9, 3) := by decide +kernel
theorem dX12_hang_46 : decode cX12_hang 46 = .ok (.aload_n 0, 1) := by decide +kernel
theorem dX12_hang_47 : decode cX12_hang 47 = .ok (.iconst 2, 1) := by decide +kernel
theorem dX12_hang_48 : decode cX12_hang 48 = .ok (.invokevirtual 10, 3) := by decide +kernel
theorem dX12_hang_51 : decode cX12_hang 51 = .ok (.ireturn, 1) := by decide +kernel
theorem dX12_hang_52 : decode cX12_hang 52 = .ok (.aload_n 0, 1) := by decide +kernel
theorem dX12_hang_53 : decode cX12_hang 53 = .ok (.getfield 87, 3) := by decide +kernel
theorem dX12_hang_56 : decode cX12_hang 56 = .ok (.iload_n 2, 1) := by decide +kernel
theorem dX12_hang_57 : decode cX12_hang 57 = .ok (.invokevirtual 254, 3) := by decide +kernel
theorem dX12_hang_60 : decode cX12_hang 60 = .ok (.aload_n 0, 1) := by decide +kernel
theorem dX12_hang_61 : decode cX12_hang 61 = .ok (.iload_n 1, 1) := by decide +kernel
theorem dX12_hang_62 : decode cX12_hang 62 = .ok (.invokevirtual 402, 3) := by decide +kernel
theorem dX12_hang_65 : decode cX12_hang 65 = .ok (.iadd, 1) := by decide +kernel
theorem dX12_hang_66 : decode cX12_hang 66 = .ok (.iconst 4, 1) := by decide +kernel
theorem dX12_hang_67 : decode cX12_hang 67 = .ok (.if_icmp .le 9, 3) := by decide +kernel
theorem dX12_hang_70 : decode cX12_hang 70 = .ok (.aload_n 0, 1) := by decide +kernel
theorem dX12_hang_71 : decode cX12_hang 71 = .ok (.iconst 2, 1) := by decide +kernel
theorem dX12_hang_72 : decode cX12_hang 72 = .ok (.invokevirtual 10, 3) := by decide +kernel
theorem dX12_hang_75 : decode cX12_hang 75 = .ok (.ireturn, 1) := by decide +kernel
theorem dX12_hang_76 : decode cX12_hang 76 = .ok (.aload_n 0, 1) := by decide +kernel
theorem dX12_hang_77 : decode cX12_hang 77 = .ok (.getfield 87, 3) := by decide +kernel
theorem dX12_hang_80 : decode cX12_hang 80 = .ok (.getfield 248, 3) := by decide +kernel
theorem dX12_hang_83 : decode cX12_hang 83 = .ok (.iload_n 1, 1) := by decide +kernel
theorem dX12_hang_84 : decode cX12_hang 84 = .ok (.iload_n 2, 1) := by decide +kernel
theorem dX12_hang_85 : decode cX12_hang 85 = .ok (.iastore, 1) := by decide +kernel
theorem dX12_hang_86 : decode cX12_hang 86 = .ok (.aload_n 0, 1) := by decide +kernel
theorem dX12_hang_87 : decode cX12_hang 87 = .ok (.getfield 87, 3) := by decide +kernel
theorem dX12_hang_90 : decode cX12_hang 90 = .ok (.iload_n 1, 1) := by decide +kernel
theorem dX12_hang_91 : decode cX12_hang 91 = .ok (.invokevirtual 254, 3) := by decide +kernel
theorem dX12_hang_94 : decode cX12_hang 94 = .ok (.ireturn, 1) := by decide +kernel
theorem dX12_pass__0 : decode cX12_pass_ 0 = .ok (.aload_n 0, 1) := by decide +kernel
theorem dX12_pass__1 : decode cX12_pass_ 1 = .ok (.iconst 0, 1) := by decide +kernel
theorem dX12_pass__2 : decode cX12_pass_ 2 = .ok (.putfield 1, 3) := by decide +kernel
theorem dX12_pass__5 : decode cX12_pass_ 5 = .ok (.iload_n 1, 1) := by decide +kernel
theorem dX12_pass__6 : decode cX12_pass_ 6 = .ok (.iconst 1, 1) := by decide +kernel
theorem dX12_pass__7 : decode cX12_pass_ 7 = .ok (.bipush 120, 2) := by decide +kernel
theorem dX12_pass__9 : decode cX12_pass_ 9 = .ok (.invokestatic 22, 3) := by decide +kernel
theorem dX12_pass__12 : decode cX12_pass_ 12 = .ok (.ifCond .ne 9, 3) := by decide +kernel
theorem dX12_pass__15 : decode cX12_pass_ 15 = .ok (.aload_n 0, 1) := by decide +kernel
theorem dX12_pass__16 : decode cX12_pass_ 16 = .ok (.iconst 1, 1) := by decide +kernel
theorem dX12_pass__17 : decode cX12_pass_ 17 = .ok (.invokevirtual 10, 3) := by decide +kernel
theorem dX12_pass__20 : decode cX12_pass_ 20 = .ok (.ireturn, 1) := by decide +kernel
theorem dX12_pass__21 : decode cX12_pass_ 21 = .ok (.aload_n 0, 1) := by decide +kernel
theorem dX12_pass__22 : decode cX12_pass_ 22 = .ok (.getfield 109, 3) := by decide +kernel
theorem dX12_pass__25 : decode cX12_pass_ 25 = .ok (.iconst 1, 1) := by decide +kernel
theorem dX12_pass__26 : decode cX12_pass_ 26 = .ok (.iaload, 1) := by decide +kernel
theorem dX12_pass__27 : decode cX12_pass_ 27 = .ok (.istore_n 2, 1) := by decide +kernel
theorem dX12_pass__28 : decode cX12_pass_ 28 = .ok (.aload_n 0, 1) := by decide +kernel
theorem dX12_pass__29 : decode cX12_pass_ 29 = .ok (.aload_n 0, 1) := by decide +kernel
theorem dX12_pass__30 : decode cX12_pass_ 30 = .ok (.getfield 109, 3) := by decide +kernel
theorem dX12_pass__33 : decode cX12_pass_ 33 = .ok (.iload_n 1, 1) := by decide +kernel
theorem dX12_pass__34 : decode cX12_pass_ 34 = .ok (.invokevirtual 408, 3) := by decide +kernel
theorem dX12_pass__37 : decode cX12_pass_ 37 = .ok (.aload_n 0, 1) := by decide +kernel
theorem dX12_pass__38 : decode cX12_pass_ 38 = .ok (.getfield 109, 3) := by decide +kernel
theorem dX12_pass__41 : decode cX12_pass_ 41 = .ok (.iconst 1, 1) := by decide +kernel
theorem dX12_pass__42 : decode cX12_pass_ 42 = .ok (.iaload, 1) := by decide +kernel
theorem dX12_pass__43 : decode cX12_pass_ 43 = .ok (.iload_n 2, 1) := by decide +kernel
theorem dX12_pass__44 : decode cX12_pass_ 44 = .ok (.isub, 1) := by decide +kernel
theorem dX12_pass__45 : decode cX12_pass_ 45 = .ok (.ireturn, 1) := by decide +kernel
theorem dX12_until_0 : decode cX12_until 0 = .ok (.aload_n 0, 1) := by decide +kernel
theorem dX12_until_1 : decode cX12_until 1 = .ok (.iconst 0, 1) := by decide +kernel
theorem dX12_until_2 : decode cX12_until 2 = .ok (.putfield 1, 3) := by decide +kernel
theorem dX12_until_5 : decode cX12_until 5 = .ok (.aload_n 0, 1) := by decide +kernel
theorem dX12_until_6 : decode cX12_until 6 = .ok (.iload_n 1, 1) := by decide +kernel
theorem dX12_until_7 : decode cX12_until 7 = .ok (.invokevirtual 378, 3) := by decide +kernel
theorem dX12_until_10 : decode cX12_until 10 = .ok (.ifCond .ne 9, 3) := by decide +kernel
theorem dX12_until_13 : decode cX12_until 13 = .ok (.aload_n 0, 1) := by decide +kernel
theorem dX12_until_14 : decode cX12_until 14 = .ok (.iconst 1, 1) := by decide +kernel
theorem dX12_until_15 : decode cX12_until 15 = .ok (.invokevirtual 10, 3) := by decide +kernel
theorem dX12_until_18 : decode cX12_until 18 = .ok (.ireturn, 1) := by decide +kernel
theorem dX12_until_19 : decode cX12_until 19 = .ok (.aload_n 0, 1) := by decide +kernel
theorem dX12_until_20 : decode cX12_until 20 = .ok (.invokevirtual 411, 3) := by decide +kernel
theorem dX12_until_23 : decode cX12_until 23 = .ok (.iconst 0, 1) := by decide +kernel
theorem dX12_until_24 : decode cX12_until 24 = .ok (.istore_n 2, 1) := by decide +kernel
theorem dX12_until_25 : decode cX12_until 25 = .ok (.iload_n 2, 1) := by decide +kernel
theorem dX12_until_26 : decode cX12_until 26 = .ok (.sipush 150, 3) := by decide +kernel
theorem dX12_until_29 : decode cX12_until 29 = .ok (.if_icmp .gt 31, 3) := by decide +kernel
theorem dX12_until_32 : decode cX12_until 32 = .ok (.aload_n 0, 1) := by decide +kernel
theorem dX12_until_33 : decode cX12_until 33 = .ok (.aload_n 0, 1) := by decide +kernel
theorem dX12_until_34 : decode cX12_until 34 = .ok (.getfield 112, 3) := by decide +kernel
theorem dX12_until_37 : decode cX12_until 37 = .ok (.iload_n 1, 1) := by decide +kernel
theorem dX12_until_38 : decode cX12_until 38 = .ok (.invokevirtual 319, 3) := by decide +kernel
theorem dX12_until_41 : decode cX12_until 41 = .ok (.ifCond .eq 5, 3) := by decide +kernel
theorem dX12_until_44 : decode cX12_until 44 = .ok (.iload_n 2, 1) := by decide +kernel
theorem dX12_until_45 : decode cX12_until 45 = .ok (.ireturn, 1) := by decide +kernel
theorem dX12_until_46 : decode cX12_until 46 = .ok (.aload_n 0, 1) := by decide +kernel
theorem dX12_until_47 : decode cX12_until 47 = .ok (.aload_n 0, 1) := by decide +kernel
theorem dX12_until_48 : decode cX12_until 48 = .ok (.getfield 112, 3) := by decide +kernel
theorem dX12_until_51 : decode cX12_until 51 = .ok (.invokevirtual 341, 3) := by decide +kernel
theorem dX12_until_54 : decode cX12_until 54 = .ok (.iinc 2 1, 3) := by decide +kernel
theorem dX12_until_57 : decode cX12_until 57 = .ok (.goto (-32), 3) := by decide +kernel
theorem dX12_until_60 : decode cX12_until 60 = .ok (.iconst (-1), 1) := by decide +kernel
theorem dX12_until_61 : decode cX12_until 61 = .ok (.ireturn, 1) := by decide +kernel
theorem dX12_foresee_0 : decode cX12_foresee 0 = .ok (.aload_n 0, 1) := by decide +kernel
theorem dX12_foresee_1 : decode cX12_foresee 1 = .ok (.iconst 0, 1) := by decide +kernel
theorem dX12_foresee_2 : decode cX12_foresee 2 = .ok (.putfield 1, 3) := by decide +kernel
theorem dX12_foresee_5 : decode cX12_foresee 5 = .ok (.iload_n 1, 1) := by decide +kernel
theorem dX12_foresee_6 : decode cX12_foresee 6 = .ok (.iconst 1, 1) := by decide +kernel
theorem dX12_foresee_7 : decode cX12_foresee 7 = .ok (.bipush 120, 2) := by decide +kernel
theorem dX12_foresee_9 : decode cX12_foresee 9 = .ok (.invokestatic 22, 3) := by decide +kernel
theorem dX12_foresee_12 : decode cX12_foresee 12 = .ok (.ifCond .ne 9, 3) := by decide +kernel
theorem dX12_foresee_15 : decode cX12_foresee 15 = .ok (.aload_n 0, 1) := by decide +kernel
theorem dX12_foresee_16 : decode cX12_foresee 16 = .ok (.iconst 1, 1) := by decide +kernel
theorem dX12_foresee_17 : decode cX12_foresee 17 = .ok (.invokevirtual 10, 3) := by decide +kernel
theorem dX12_foresee_20 : decode cX12_foresee 20 = .ok (.ireturn, 1) := by decide +kernel
theorem dX12_foresee_21 : decode cX12_foresee 21 = .ok (.iload_n 2, 1) := by decide +kernel
theorem dX12_foresee_22 : decode cX12_foresee 22 = .ok (.bipush 6, 2) := by decide +kernel
theorem dX12_foresee_24 : decode cX12_foresee 24 = .ok (.bipush 11, 2) := by decide +kernel
theorem dX12_foresee_26 : decode cX12_foresee 26 = .ok (.invokestatic 22, 3) := by decide +kernel
theorem dX12_foresee_29 : decode cX12_foresee 29 = .ok (.ifCond .ne 9, 3) := by decide +kernel
theorem dX12_foresee_32 : decode cX12_foresee 32 = .ok (.aload_n 0, 1) := by decide +kernel
theorem dX12_foresee_33 : decode cX12_foresee 33 = .ok (.iconst 2, 1) := by decide +kernel
theorem dX12_foresee_34 : decode cX12_foresee 34 = .ok (.invokevirtual 10, 3) := by decide +kernel
theorem dX12_foresee_37 : decode cX12_foresee 37 = .ok (.ireturn, 1) := by decide +kernel
theorem dX12_foresee_38 : decode cX12_foresee 38 = .ok (.aload_n 0, 1) := by decide +kernel
theorem dX12_foresee_39 : decode cX12_foresee 39 = .ok (.invokevirtual 411, 3) := by decide +kernel
theorem dX12_foresee_42 : decode cX12_foresee 42 = .ok (.aload_n 0, 1) := by decide +kernel
theorem dX12_foresee_43 : decode cX12_foresee 43 = .ok (.aload_n 0, 1) := by decide +kernel
theorem dX12_foresee_44 : decode cX12_foresee 44 = .ok (.getfield 112, 3) := by decide +kernel
theorem dX12_foresee_47 : decode cX12_foresee 47 = .ok (.iload_n 1, 1) := by decide +kernel
theorem dX12_foresee_48 : decode cX12_foresee 48 = .ok (.invokevirtual 408, 3) := by decide +kernel
theorem dX12_foresee_51 : decode cX12_foresee 51 = .ok (.aload_n 0, 1) := by decide +kernel
theorem dX12_foresee_52 : decode cX12_foresee 52 = .ok (.aload_n 0, 1) := by decide +kernel
theorem dX12_foresee_53 : decode cX12_foresee 53 = .ok (.getfield 112, 3) := by decide +kernel
theorem dX12_foresee_56 : decode cX12_foresee 56 = .ok (.iload_n 2, 1) := by decide +kernel
theorem dX12_foresee_57 : decode cX12_foresee 57 = .ok (.invokevirtual 357, 3) := by decide +kernel
theorem dX12_foresee_60 : decode cX12_foresee 60 = .ok (.ireturn, 1) := by decide +kernel
theorem dX12_advise_0 : decode cX12_advise 0 = .ok (.aload_n 0, 1) := by decide +kernel
theorem dX12_advise_1 : decode cX12_advise 1 = .ok (.iconst 0, 1) := by decide +kernel
theorem dX12_advise_2 : decode cX12_advise 2 = .ok (.putfield 1, 3) := by decide +kernel
theorem dX12_advise_5 : decode cX12_advise 5 = .ok (.iload_n 1, 1) := by decide +kernel
theorem dX12_advise_6 : decode cX12_advise 6 = .ok (.iconst 1, 1) := by decide +kernel
theorem dX12_advise_7 : decode cX12_advise 7 = .ok (.bipush 90, 2) := by decide +kernel
theorem dX12_advise_9 : decode cX12_advise 9 = .ok (.invokestatic 22, 3) := by decide +kernel
theorem dX12_advise_12 : decode cX12_advise 12 = .ok (.ifCond .ne 9, 3) := by decide +kernel
theorem dX12_advise_15 : decode cX12_advise 15 = .ok (.aload_n 0, 1) := by decide +kernel
theorem dX12_advise_16 : decode cX12_advise 16 = .ok (.iconst 1, 1) := by decide +kernel
theorem dX12_advise_17 : decode cX12_advise 17 = .ok (.invokevirtual 10, 3) := by decide +kernel
theorem dX12_advise_20 : decode cX12_advise 20 = .ok (.ireturn, 1) := by decide +kernel
theorem dX12_advise_21 : decode cX12_advise 21 = .ok (.aload_n 0, 1) := by decide +kernel
theorem dX12_advise_22 : decode cX12_advise 22 = .ok (.invokevirtual 411, 3) := by decide +kernel
theorem dX12_advise_25 : decode cX12_advise 25 = .ok (.aload_n 0, 1) := by decide +kernel
theorem dX12_advise_26 : decode cX12_advise 26 = .ok (.aload_n 0, 1) := by decide +kernel
theorem dX12_advise_27 : decode cX12_advise 27 = .ok (.getfield 112, 3) := by decide +kernel
theorem dX12_advise_30 : decode cX12_advise 30 = .ok (.iload_n 1, 1) := by decide +kernel
theorem dX12_advise_31 : decode cX12_advise 31 = .ok (.invokevirtual 408, 3) := by decide +kernel
theorem dX12_advise_34 : decode cX12_advise 34 = .ok (.aload_n 0, 1) := by decide +kernel
theorem dX12_advise_35 : decode cX12_advise 35 = .ok (.aload_n 0, 1) := by decide +kernel
theorem dX12_advise_36 : decode cX12_advise 36 = .ok (.getfield 112, 3) := by decide +kernel
theorem dX12_advise_39 : decode cX12_advise 39 = .ok (.invokevirtual 353, 3) := by decide +kernel
theorem dX12_advise_42 : decode cX12_advise 42 = .ok (.istore_n 2, 1) := by decide +kernel
theorem dX12_advise_43 : decode cX12_advise 43 = .ok (.iconst (-1), 1) := by decide +kernel
theorem dX12_advise_44 : decode cX12_advise 44 = .ok (.istore_n 3, 1) := by decide +kernel
theorem dX12_advise_45 : decode cX12_advise 45 = .ok (.iconst 0, 1) := by decide +kernel
theorem dX12_advise_46 : decode cX12_advise 46 = .ok (.istore 4, 2) := by decide +kernel
theorem dX12_advise_48 : decode cX12_advise 48 = .ok (.iload 4, 2) := by decide +kernel
theorem dX12_advise_50 : decode cX12_advise 50 = .ok (.aload_n 0, 1) := by decide +kernel
theorem dX12_advise_51 : decode cX12_advise 51 = .ok (.getfield 87, 3) := by decide +kernel
theorem dX12_advise_54 : decode cX12_advise 54 = .ok (.getfield 167, 3) := by decide +kernel
theorem dX12_advise_57 : decode cX12_advise 57 = .ok (.if_icmp .ge 60, 3) := by decide +kernel
theorem dX12_advise_60 : decode cX12_advise 60 = .ok (.aload_n 0, 1) := by decide +kernel
theorem dX12_advise_61 : decode cX12_advise 61 = .ok (.invokevirtual 411, 3) := by decide +kernel
theorem dX12_advise_64 : decode cX12_advise 64 = .ok (.aload_n 0, 1) := by decide +kernel
theorem dX12_advise_65 : decode cX12_advise 65 = .ok (.getfield 112, 3) := by decide +kernel
theorem dX12_advise_68 : decode cX12_advise 68 = .ok (.bipush 25, 2) := by decide +kernel
theorem dX12_advise_70 : decode cX12_advise 70 = .ok (.iload 4, 2) := by decide +kernel
theorem dX12_advise_72 : decode cX12_advise 72 = .ok (.iadd, 1) := by decide +kernel
theorem dX12_advise_73 : decode cX12_advise 73 = .ok (.iconst 0, 1) := by decide +kernel
theorem dX12_advise_74 : decode cX12_advise 74 = .ok (.iastore, 1) := by decide +kernel
theorem dX12_advise_75 : decode cX12_advise 75 = .ok (.aload_n 0, 1) := by decide +kernel
theorem dX12_advise_76 : decode cX12_advise 76 = .ok (.aload_n 0, 1) := by decide +kernel
theorem dX12_advise_77 : decode cX12_advise 77 = .ok (.getfield 112, 3) := by decide +kernel
theorem dX12_advise_80 : decode cX12_advise 80 = .ok (.iload_n 1, 1) := by decide +kernel
theorem dX12_advise_81 : decode cX12_advise 81 = .ok (.invokevirtual 408, 3) := by decide +kernel
theorem dX12_advise_84 : decode cX12_advise 84 = .ok (.aload_n 0, 1) := by decide +kernel
theorem dX12_advise_85 : decode cX12_advise 85 = .ok (.aload_n 0, 1) := by decide +kernel
theorem dX12_advise_86 : decode cX12_advise 86 = .ok (.getfield 112, 3) := by decide +kernel
theorem dX12_advise_89 : decode cX12_advise 89 = .ok (.invokevirtual 353, 3) := by decide +kernel
theorem dX12_advise_92 : decode cX12_advise 92 = .ok (.iload_n 2, 1) := by decide +kernel
theorem dX12_advise_93 : decode cX12_advise 93 = .ok (.if_icmp .lt 6, 3) := by decide +kernel
theorem dX12_advise_96 : decode cX12_advise 96 = .ok (.goto 15, 3) := by decide +kernel
theorem dX12_advise_99 : decode cX12_advise 99 = .ok (.iload 4, 2) := by decide +kernel
theorem dX12_advise_101 : decode cX12_advise 101 = .ok (.istore_n 3, 1) := by decide +kernel
theorem dX12_advise_102 : decode cX12_advise 102 = .ok (.aload_n 0, 1) := by decide +kernel
theorem dX12_advise_103 : decode cX12_advise 103 = .ok (.aload_n 0, 1) := by decide +kernel
theorem dX12_advise_104 : decode cX12_advise 104 = .ok (.getfield 112, 3) := by decide +kernel
theorem dX12_advise_107 : decode cX12_advise 107 = .ok (.invokevirtual 353, 3) := by decide +kernel
theorem dX12_advise_110 : decode cX12_advise 110 = .ok (.istore_n 2, 1) := by decide +kernel
theorem dX12_advise_111 : decode cX12_advise 111 = .ok (.iinc 4 1, 3) := by decide +kernel
theorem dX12_advise_114 : decode cX12_advise 114 = .ok (.goto (-66), 3) := by decide +kernel
theorem dX12_advise_117 : decode cX12_advise 117 = .ok (.iload_n 3, 1) := by decide +kernel
theorem dX12_advise_118 : decode cX12_advise 118 = .ok (.ireturn, 1) := by decide +kernel
theorem dX12_mean_0 : decode cX12_mean 0 = .ok (.aload_n 0, 1) := by decide +kernel
theorem dX12_mean_1 : decode cX12_mean 1 = .ok (.iconst 0, 1) := by decide +kernel
theorem dX12_mean_2 : decode cX12_mean 2 = .ok (.putfield 1, 3) := by decide +kernel
theorem dX12_mean_5 : decode cX12_mean 5 = .ok (.iconst 0, 1) := by decide +kernel
theorem dX12_mean_6 : decode cX12_mean 6 = .ok (.istore_n 1, 1) := by decide +kernel
theorem dX12_mean_7 : decode cX12_mean 7 = .ok (.iconst 0, 1) := by decide +kernel
theorem dX12_mean_8 : decode cX12_mean 8 = .ok (.istore_n 2, 1) := by decide +kernel
theorem dX12_mean_9 : decode cX12_mean 9 = .ok (.iconst 0, 1) := by decide +kernel
theorem dX12_mean_10 : decode cX12_mean 10 = .ok (.istore_n 3, 1) := by decide +kernel
theorem dX12_mean_11 : decode cX12_mean 11 = .ok (.iload_n 3, 1) := by decide +kernel
theorem dX12_mean_12 : decode cX12_mean 12 = .ok (.aload_n 0, 1) := by decide +kernel
theorem dX12_mean_13 : decode cX12_mean 13 = .ok (.getfield 87, 3) := by decide +kernel
theorem dX12_mean_16 : decode cX12_mean 16 = .ok (.getfield 161, 3) := by decide +kernel
theorem dX12_mean_19 : decode cX12_mean 19 = .ok (.if_icmp .ge 40, 3) := by decide +kernel
theorem dX12_mean_22 : decode cX12_mean 22 = .ok (.aload_n 0, 1) := by decide +kernel
theorem dX12_mean_23 : decode cX12_mean 23 = .ok (.getfield 87, 3) := by decide +kernel
theorem dX12_mean_26 : decode cX12_mean 26 = .ok (.getfield 248, 3) := by decide +kernel
theorem dX12_mean_29 : decode cX12_mean 29 = .ok (.iload_n 3, 1) := by decide +kernel
theorem dX12_mean_30 : decode cX12_mean 30 = .ok (.iaload, 1) := by decide +kernel
theorem dX12_mean_31 : decode cX12_mean 31 = .ok (.iconst (-1), 1) := by decide +kernel
theorem dX12_mean_32 : decode cX12_mean 32 = .ok (.if_icmp .eq 6, 3) := by decide +kernel
theorem dX12_mean_35 : decode cX12_mean 35 = .ok (.goto 18, 3) := by decide +kernel
theorem dX12_mean_38 : decode cX12_mean 38 = .ok (.iinc 1 1, 3) := by decide +kernel
theorem dX12_mean_41 : decode cX12_mean 41 = .ok (.iload_n 2, 1) := by decide +kernel
theorem dX12_mean_42 : decode cX12_mean 42 = .ok (.aload_n 0, 1) := by decide +kernel
theorem dX12_mean_43 : decode cX12_mean 43 = .ok (.aload_n 0, 1) := by decide +kernel
theorem dX12_mean_44 : decode cX12_mean 44 = .ok (.getfield 109, 3) := by decide +kernel
theorem dX12_mean_47 : decode cX12_mean 47 = .ok (.iload_n 3, 1) := by decide +kernel
theorem dX12_mean_48 : decode cX12_mean 48 = .ok (.invokevirtual 287, 3) := by decide +kernel
theorem dX12_mean_51 : decode cX12_mean 51 = .ok (.iadd, 1) := by decide +kernel
theorem dX12_mean_52 : decode cX12_mean 52 = .ok (.istore_n 2, 1) := by decide +kernel
theorem dX12_mean_53 : decode cX12_mean 53 = .ok (.iinc 3 1, 3) := by decide +kernel
theorem dX12_mean_56 : decode cX12_mean 56 = .ok (.goto (-45), 3) := by decide +kernel
theorem dX12_mean_59 : decode cX12_mean 59 = .ok (.iload_n 1, 1) := by decide +kernel
theorem dX12_mean_60 : decode cX12_mean 60 = .ok (.ifCond .ne 7, 3) := by decide +kernel
theorem dX12_mean_63 : decode cX12_mean 63 = .ok (.dconst 0, 1) := by decide +kernel
theorem dX12_mean_64 : decode cX12_mean 64 = .ok (.goto 8, 3) := by decide +kernel
theorem dX12_mean_67 : decode cX12_mean 67 = .ok (.iload_n 2, 1) := by decide +kernel
theorem dX12_mean_68 : decode cX12_mean 68 = .ok (.i2d, 1) := by decide +kernel
theorem dX12_mean_69 : decode cX12_mean 69 = .ok (.iload_n 1, 1) := by decide +kernel
theorem dX12_mean_70 : decode cX12_mean 70 = .ok (.i2d, 1) := by decide +kernel
theorem dX12_mean_71 : decode cX12_mean 71 = .ok (.ddiv, 1) := by decide +kernel
theorem dX12_mean_72 : decode cX12_mean 72 = .ok (.dreturn, 1) := by decide +kernel
theorem dX12_digest_0 : decode cX12_digest 0 = .ok (.aload_n 0, 1) := by decide +kernel
theorem dX12_digest_1 : decode cX12_digest 1 = .ok (.iconst 0, 1) := by decide +kernel
theorem dX12_digest_2 : decode cX12_digest 2 = .ok (.putfield 1, 3) := by decide +kernel
theorem dX12_digest_5 : decode cX12_digest 5 = .ok (.ldc2_w 414, 3) := by decide +kernel
theorem dX12_digest_8 : decode cX12_digest 8 = .ok (.lstore_n 1, 1) := by decide +kernel
theorem dX12_digest_9 : decode cX12_digest 9 = .ok (.iconst 0, 1) := by decide +kernel
theorem dX12_digest_10 : decode cX12_digest 10 = .ok (.istore_n 3, 1) := by decide +kernel
theorem dX12_digest_11 : decode cX12_digest 11 = .ok (.iload_n 3, 1) := by decide +kernel
theorem dX12_digest_12 : decode cX12_digest 12 = .ok (.bipush 13, 2) := by decide +kernel
theorem dX12_digest_14 : decode cX12_digest 14 = .ok (.if_icmp .ge 26, 3) := by decide +kernel
theorem dX12_digest_17 : decode cX12_digest 17 = .ok (.lload_n 1, 1) := by decide +kernel
theorem dX12_digest_18 : decode cX12_digest 18 = .ok (.ldc2_w 416, 3) := by decide +kernel
theorem dX12_digest_21 : decode cX12_digest 21 = .ok (.lmul, 1) := by decide +kernel
theorem dX12_digest_22 : decode cX12_digest 22 = .ok (.aload_n 0, 1) := by decide +kernel
theorem dX12_digest_23 : decode cX12_digest 23 = .ok (.aload_n 0, 1) := by decide +kernel
theorem dX12_digest_24 : decode cX12_digest 24 = .ok (.getfield 109, 3) := by decide +kernel
theorem dX12_digest_27 : decode cX12_digest 27 = .ok (.iload_n 3, 1) := by decide +kernel
theorem dX12_digest_28 : decode cX12_digest 28 = .ok (.invokevirtual 357, 3) := by decide +kernel
theorem dX12_digest_31 : decode cX12_digest 31 = .ok (.i2l, 1) := by decide +kernel
theorem dX12_digest_32 : decode cX12_digest 32 = .ok (.ladd, 1) := by decide +kernel
theorem dX12_digest_33 : decode cX12_digest 33 = .ok (.lstore_n 1, 1) := by decide +kernel
theorem dX12_digest_34 : decode cX12_digest 34 = .ok (.iinc 3 1, 3) := by decide +kernel
theorem dX12_digest_37 : decode cX12_digest 37 = .ok (.goto (-26), 3) := by decide +kernel
theorem dX12_digest_40 : decode cX12_digest 40 = .ok (.iconst 0, 1) := by decide +kernel
theorem dX12_digest_41 : decode cX12_digest 41 = .ok (.istore_n 3, 1) := by decide +kernel
theorem dX12_digest_42 : decode cX12_digest 42 = .ok (.iload_n 3, 1) := by decide +kernel
theorem dX12_digest_43 : decode cX12_digest 43 = .ok (.iconst 3, 1) := by decide +kernel
theorem dX12_digest_44 : decode cX12_digest 44 = .ok (.aload_n 0, 1) := by decide +kernel
theorem dX12_digest_45 : decode cX12_digest 45 = .ok (.getfield 87, 3) := by decide +kernel
theorem dX12_digest_48 : decode cX12_digest 48 = .ok (.getfield 154, 3) := by decide +kernel
theorem dX12_digest_51 : decode cX12_digest 51 = .ok (.imul, 1) := by decide +kernel
theorem dX12_digest_52 : decode cX12_digest 52 = .ok (.if_icmp .ge 27, 3) := by decide +kernel
theorem dX12_digest_55 : decode cX12_digest 55 = .ok (.lload_n 1, 1) := by decide +kernel
theorem dX12_digest_56 : decode cX12_digest 56 = .ok (.ldc2_w 416, 3) := by decide +kernel
theorem dX12_digest_59 : decode cX12_digest 59 = .ok (.lmul, 1) := by decide +kernel
theorem dX12_digest_60 : decode cX12_digest 60 = .ok (.aload_n 0, 1) := by decide +kernel
theorem dX12_digest_61 : decode cX12_digest 61 = .ok (.iload_n 3, 1) := by decide +kernel
theorem dX12_digest_62 : decode cX12_digest 62 = .ok (.iconst 3, 1) := by decide +kernel
theorem dX12_digest_63 : decode cX12_digest 63 = .ok (.idiv, 1) := by decide +kernel
theorem dX12_digest_64 : decode cX12_digest 64 = .ok (.iload_n 3, 1) := by decide +kernel
theorem dX12_digest_65 : decode cX12_digest 65 = .ok (.iconst 3, 1) := by decide +kernel
theorem dX12_digest_66 : decode cX12_digest 66 = .ok (.irem, 1) := by decide +kernel
theorem dX12_digest_67 : decode cX12_digest 67 = .ok (.invokevirtual 363, 3) := by decide +kernel
theorem dX12_digest_70 : decode cX12_digest 70 = .ok (.i2l, 1) := by decide +kernel
theorem dX12_digest_71 : decode cX12_digest 71 = .ok (.ladd, 1) := by decide +kernel
theorem dX12_digest_72 : decode cX12_digest 72 = .ok (.lstore_n 1, 1) := by decide +kernel
theorem dX12_digest_73 : decode cX12_digest 73 = .ok (.iinc 3 1, 3) := by decide +kernel
theorem dX12_digest_76 : decode cX12_digest 76 = .ok (.goto (-34), 3) := by decide +kernel
theorem dX12_digest_79 : decode cX12_digest 79 = .ok (.iconst 0, 1) := by decide +kernel
theorem dX12_digest_80 : decode cX12_digest 80 = .ok (.istore_n 3, 1) := by decide +kernel
theorem dX12_digest_81 : decode cX12_digest 81 = .ok (.iload_n 3, 1) := by decide +kernel
theorem dX12_digest_82 : decode cX12_digest 82 = .ok (.bipush 9, 2) := by decide +kernel
theorem dX12_digest_84 : decode cX12_digest 84 = .ok (.aload_n 0, 1) := by decide +kernel
theorem dX12_digest_85 : decode cX12_digest 85 = .ok (.getfield 87, 3) := by decide +kernel
theorem dX12_digest_88 : decode cX12_digest 88 = .ok (.getfield 161, 3) := by decide +kernel
theorem dX12_digest_91 : decode cX12_digest 91 = .ok (.imul, 1) := by decide +kernel
theorem dX12_digest_92 : decode cX12_digest 92 = .ok (.if_icmp .ge 29, 3) := by decide +kernel
theorem dX12_digest_95 : decode cX12_digest 95 = .ok (.lload_n 1, 1) := by decide +kernel
theorem dX12_digest_96 : decode cX12_digest 96 = .ok (.ldc2_w 416, 3) := by decide +kernel
theorem dX12_digest_99 : decode cX12_digest 99 = .ok (.lmul, 1) := by decide +kernel
theorem dX12_digest_100 : decode cX12_digest 100 = .ok (.aload_n 0, 1) := by decide +kernel
theorem dX12_digest_101 : decode cX12_digest 101 = .ok (.iload_n 3, 1) := by decide +kernel
theorem dX12_digest_102 : decode cX12_digest 102 = .ok (.bipush 9, 2) := by decide +kernel
theorem dX12_digest_104 : decode cX12_digest 104 = .ok (.idiv, 1) := by decide +kernel
theorem dX12_digest_105 : decode cX12_digest 105 = .ok (.iload_n 3, 1) := by decide +kernel
theorem dX12_digest_106 : decode cX12_digest 106 = .ok (.bipush 9, 2) := by decide +kernel
theorem dX12_digest_108 : decode cX12_digest 108 = .ok (.irem, 1) := by decide +kernel
theorem dX12_digest_109 : decode cX12_digest 109 = .ok (.invokevirtual 375, 3) := by decide +kernel
theorem dX12_digest_112 : decode cX12_digest 112 = .ok (.i2l, 1) := by decide +kernel
theorem dX12_digest_113 : decode cX12_digest 113 = .ok (.ladd, 1) := by decide +kernel
theorem dX12_digest_114 : decode cX12_digest 114 = .ok (.lstore_n 1, 1) := by decide +kernel
theorem dX12_digest_115 : decode cX12_digest 115 = .ok (.iinc 3 1, 3) := by decide +kernel
theorem dX12_digest_118 : decode cX12_digest 118 = .ok (.goto (-37), 3) := by decide +kernel
theorem dX12_digest_121 : decode cX12_digest 121 = .ok (.iconst 0, 1) := by decide +kernel
theorem dX12_digest_122 : decode cX12_digest 122 = .ok (.istore_n 3, 1) := by decide +kernel
theorem dX12_digest_123 : decode cX12_digest 123 = .ok (.iload_n 3, 1) := by decide +kernel
theorem dX12_digest_124 : decode cX12_digest 124 = .ok (.iconst 4, 1) := by decide +kernel
theorem dX12_digest_125 : decode cX12_digest 125 = .ok (.aload_n 0, 1) := by decide +kernel
theorem dX12_digest_126 : decode cX12_digest 126 = .ok (.getfield 87, 3) := by decide +kernel
theorem dX12_digest_129 : decode cX12_digest 129 = .ok (.getfield 164, 3) := by decide +kernel
theorem dX12_digest_132 : decode cX12_digest 132 = .ok (.imul, 1) := by decide +kernel
theorem dX12_digest_133 : decode cX12_digest 133 = .ok (.if_icmp .ge 27, 3) := by decide +kernel
theorem dX12_digest_136 : decode cX12_digest 136 = .ok (.lload_n 1, 1) := by decide +kernel
theorem dX12_digest_137 : decode cX12_digest 137 = .ok (.ldc2_w 416, 3) := by decide +kernel
theorem dX12_digest_140 : decode cX12_digest 140 = .ok (.lmul, 1) := by decide +kernel
theorem dX12_digest_141 : decode cX12_digest 141 = .ok (.aload_n 0, 1) := by decide +kernel
theorem dX12_digest_142 : decode cX12_digest 142 = .ok (.iload_n 3, 1) := by decide +kernel
theorem dX12_digest_143 : decode cX12_digest 143 = .ok (.iconst 4, 1) := by decide +kernel
theorem dX12_digest_144 : decode cX12_digest 144 = .ok (.idiv, 1) := by decide +kernel
theorem dX12_digest_145 : decode cX12_digest 145 = .ok (.iload_n 3, 1) := by decide +kernel
theorem dX12_digest_146 : decode cX12_digest 146 = .ok (.iconst 4, 1) := by decide +kernel
theorem dX12_digest_147 : decode cX12_digest 147 = .ok (.irem, 1) := by decide +kernel
theorem dX12_digest_148 : decode cX12_digest 148 = .ok (.invokevirtual 381, 3) := by decide +kernel
theorem dX12_digest_151 : decode cX12_digest 151 = .ok (.i2l, 1) := by decide +kernel
theorem dX12_digest_152 : decode cX12_digest 152 = .ok (.ladd, 1) := by decide +kernel
theorem dX12_digest_153 : decode cX12_digest 153 = .ok (.lstore_n 1, 1) := by decide +kernel
theorem dX12_digest_154 : decode cX12_digest 154 = .ok (.iinc 3 1, 3) := by decide +kernel
theorem dX12_digest_157 : decode cX12_digest 157 = .ok (.goto (-34), 3) := by decide +kernel
theorem dX12_digest_160 : decode cX12_digest 160 = .ok (.iconst 0, 1) := by decide +kernel
theorem dX12_digest_161 : decode cX12_digest 161 = .ok (.istore_n 3, 1) := by decide +kernel
theorem dX12_digest_162 : decode cX12_digest 162 = .ok (.iload_n 3, 1) := by decide +kernel
theorem dX12_digest_163 : decode cX12_digest 163 = .ok (.iconst 4, 1) := by decide +kernel
theorem dX12_digest_164 : decode cX12_digest 164 = .ok (.aload_n 0, 1) := by decide +kernel
theorem dX12_digest_165 : decode cX12_digest 165 = .ok (.getfield 87, 3) := by decide +kernel
theorem dX12_digest_168 : decode cX12_digest 168 = .ok (.getfield 167, 3) := by decide +kernel
theorem dX12_digest_171 : decode cX12_digest 171 = .ok (.imul, 1) := by decide +kernel
theorem dX12_digest_172 : decode cX12_digest 172 = .ok (.if_icmp .ge 27, 3) := by decide +kernel
theorem dX12_digest_175 : decode cX12_digest 175 = .ok (.lload_n 1, 1) := by decide +kernel
theorem dX12_digest_176 : decode cX12_digest 176 = .ok (.ldc2_w 416, 3) := by decide +kernel
theorem dX12_digest_179 : decode cX12_digest 179 = .ok (.lmul, 1) := by decide +kernel
theorem dX12_digest_180 : decode cX12_digest 180 = .ok (.aload_n 0, 1) := by decide +kernel
theorem dX12_digest_181 : decode cX12_digest 181 = .ok (.iload_n 3, 1) := by decide +kernel
theorem dX12_digest_182 : decode cX12_digest 182 = .ok (.iconst 4, 1) := by decide +kernel
theorem dX12_digest_183 : decode cX12_digest 183 = .ok (.idiv, 1) := by decide +kernel
theorem dX12_digest_184 : decode cX12_digest 184 = .ok (.iload_n 3, 1) := by decide +kernel
theorem dX12_digest_185 : decode cX12_digest 185 = .ok (.iconst 4, 1) := by decide +kernel
theorem dX12_digest_186 : decode cX12_digest 186 = .ok (.irem, 1) := by decide +kernel
theorem dX12_digest_187 : decode cX12_digest 187 = .ok (.invokevirtual 387, 3) := by decide +kernel
theorem dX12_digest_190 : decode cX12_digest 190 = .ok (.i2l, 1) := by decide +kernel
theorem dX12_digest_191 : decode cX12_digest 191 = .ok (.ladd, 1) := by decide +kernel
theorem dX12_digest_192 : decode cX12_digest 192 = .ok (.lstore_n 1, 1) := by decide +kernel
theorem dX12_digest_193 : decode cX12_digest 193 = .ok (.iinc 3 1, 3) := by decide +kernel
theorem dX12_digest_196 : decode cX12_digest 196 = .ok (.goto (-34), 3) := by decide +kernel
theorem dX12_digest_199 : decode cX12_digest 199 = .ok (.lload_n 1, 1) := by decide +kernel
theorem dX12_digest_200 : decode cX12_digest 200 = .ok (.ldc2_w 416, 3) := by decide +kernel
theorem dX12_digest_203 : decode cX12_digest 203 = .ok (.lmul, 1) := by decide +kernel
theorem dX12_digest_204 : decode cX12_digest 204 = .ok (.aload_n 0, 1) := by decide +kernel
theorem dX12_digest_205 : decode cX12_digest 205 = .ok (.invokevirtual 396, 3) := by decide +kernel
theorem dX12_digest_208 : decode cX12_digest 208 = .ok (.i2l, 1) := by decide +kernel
theorem dX12_digest_209 : decode cX12_digest 209 = .ok (.ladd, 1) := by decide +kernel
theorem dX12_digest_210 : decode cX12_digest 210 = .ok (.lreturn, 1) := by decide +kernel
