theorem dX5_init_0 : decode cX5_init 0 = .ok (.aload_n 0, 1) := by decide +kernel
theorem dX5_init_1 : decode cX5_init 1 = .ok (.invokespecial 1, 3) := by decide +kernel
theorem dX5_init_4 : decode cX5_init 4 = .ok (.aload_n 0, 1) := by decide +kernel
theorem dX5_init_5 : decode cX5_init 5 = .ok (.iconst 0, 1) := by decide +kernel
theorem dX5_init_6 : decode cX5_init 6 = .ok (.putfield 7, 3) := by decide +kernel
theorem dX5_init_9 : decode cX5_init 9 = .ok (.aload_n 0, 1) := by decide +kernel
theorem dX5_init_10 : decode cX5_init 10 = .ok (.iconst 0, 1) := by decide +kernel
theorem dX5_init_11 : decode cX5_init 11 = .ok (.putfield 13, 3) := by decide +kernel
theorem dX5_init_14 : decode cX5_init 14 = .ok (.aload_n 0, 1) := by decide +kernel
theorem dX5_init_15 : decode cX5_init 15 = .ok (.iconst 0, 1) := by decide +kernel
theorem dX5_init_16 : decode cX5_init 16 = .ok (.putfield 16, 3) := by decide +kernel
theorem dX5_init_19 : decode cX5_init 19 = .ok (.aload_n 0, 1) := by decide +kernel
theorem dX5_init_20 : decode cX5_init 20 = .ok (.bipush 16, 2) := by decide +kernel
theorem dX5_init_22 : decode cX5_init 22 = .ok (.newarray .int, 2) := by decide +kernel
theorem dX5_init_24 : decode cX5_init 24 = .ok (.putfield 21, 3) := by decide +kernel
theorem dX5_init_27 : decode cX5_init 27 = .ok (.aload_n 0, 1) := by decide +kernel
theorem dX5_init_28 : decode cX5_init 28 = .ok (.bipush 16, 2) := by decide +kernel
theorem dX5_init_30 : decode cX5_init 30 = .ok (.newarray .int, 2) := by decide +kernel
theorem dX5_init_32 : decode cX5_init 32 = .ok (.putfield 25, 3) := by decide +kernel
theorem dX5_init_35 : decode cX5_init 35 = .ok (.aload_n 0, 1) := by decide +kernel
theorem dX5_init_36 : decode cX5_init 36 = .ok (.bipush 16, 2) := by decide +kernel
theorem dX5_init_38 : decode cX5_init 38 = .ok (.newarray .int, 2) := by decide +kernel
theorem dX5_init_40 : decode cX5_init 40 = .ok (.putfield 28, 3) := by decide +kernel
theorem dX5_init_43 : decode cX5_init 43 = .ok (.aload_n 0, 1) := by decide +kernel
theorem dX5_init_44 : decode cX5_init 44 = .ok (.bipush 16, 2) := by decide +kernel
theorem dX5_init_46 : decode cX5_init 46 = .ok (.newarray .int, 2) := by decide +kernel
theorem dX5_init_48 : decode cX5_init 48 = .ok (.putfield 31, 3) := by decide +kernel
theorem dX5_init_51 : decode cX5_init 51 = .ok (.aload_n 0, 1) := by decide +kernel
theorem dX5_init_52 : decode cX5_init 52 = .ok (.bipush 6, 2) := by decide +kernel
theorem dX5_init_54 : decode cX5_init 54 = .ok (.newarray .int, 2) := by decide +kernel
theorem dX5_init_56 : decode cX5_init 56 = .ok (.putfield 34, 3) := by decide +kernel
theorem dX5_init_59 : decode cX5_init 59 = .ok (.aload_n 0, 1) := by decide +kernel
theorem dX5_init_60 : decode cX5_init 60 = .ok (.iconst 5, 1) := by decide +kernel
theorem dX5_init_61 : decode cX5_init 61 = .ok (.newarray .int, 2) := by decide +kernel
theorem dX5_init_63 : decode cX5_init 63 = .ok (.putfield 37, 3) := by decide +kernel
theorem dX5_init_66 : decode cX5_init 66 = .ok (.aload_n 0, 1) := by decide +kernel
theorem dX5_init_67 : decode cX5_init 67 = .ok (.iconst 5, 1) := by decide +kernel
theorem dX5_init_68 : decode cX5_init 68 = .ok (.newarray .int, 2) := by decide +kernel
theorem dX5_init_70 : decode cX5_init 70 = .ok (.putfield 40, 3) := by decide +kernel
theorem dX5_init_73 : decode cX5_init 73 = .ok (.aload_n 0, 1) := by decide +kernel
theorem dX5_init_74 : decode cX5_init 74 = .ok (.aload_n 1, 1) := by decide +kernel
theorem dX5_init_75 : decode cX5_init 75 = .ok (.putfield 43, 3) := by decide +kernel
theorem dX5_init_78 : decode cX5_init 78 = .ok (.return_, 1) := by decide +kernel
theorem dX5_begin_0 : decode cX5_begin 0 = .ok (.aload_n 0, 1) := by decide +kernel
theorem dX5_begin_1 : decode cX5_begin 1 = .ok (.aload_n 1, 1) := by decide +kernel
theorem dX5_begin_2 : decode cX5_begin 2 = .ok (.putfield 43, 3) := by decide +kernel
theorem dX5_begin_5 : decode cX5_begin 5 = .ok (.aload_n 0, 1) := by decide +kernel
theorem dX5_begin_6 : decode cX5_begin 6 = .ok (.iconst 0, 1) := by decide +kernel
theorem dX5_begin_7 : decode cX5_begin 7 = .ok (.putfield 13, 3) := by decide +kernel
theorem dX5_begin_10 : decode cX5_begin 10 = .ok (.aload_n 0, 1) := by decide +kernel
theorem dX5_begin_11 : decode cX5_begin 11 = .ok (.iconst 0, 1) := by decide +kernel
theorem dX5_begin_12 : decode cX5_begin 12 = .ok (.putfield 16, 3) := by decide +kernel
theorem dX5_begin_15 : decode cX5_begin 15 = .ok (.aload_n 0, 1) := by decide +kernel
theorem dX5_begin_16 : decode cX5_begin 16 = .ok (.getfield 28, 3) := by decide +kernel
theorem dX5_begin_19 : decode cX5_begin 19 = .ok (.iconst 0, 1) := by decide +kernel
theorem dX5_begin_20 : decode cX5_begin 20 = .ok (.invokestatic 47, 3) := by decide +kernel
theorem dX5_begin_23 : decode cX5_begin 23 = .ok (.aload_n 0, 1) := by decide +kernel
theorem dX5_begin_24 : decode cX5_begin 24 = .ok (.getfield 31, 3) := by decide +kernel
theorem dX5_begin_27 : decode cX5_begin 27 = .ok (.iconst 0, 1) := by decide +kernel
theorem dX5_begin_28 : decode cX5_begin 28 = .ok (.invokestatic 47, 3) := by decide +kernel
theorem dX5_begin_31 : decode cX5_begin 31 = .ok (.aload_n 0, 1) := by decide +kernel
theorem dX5_begin_32 : decode cX5_begin 32 = .ok (.getfield 34, 3) := by decide +kernel
theorem dX5_begin_35 : decode cX5_begin 35 = .ok (.iconst 0, 1) := by decide +kernel
theorem dX5_begin_36 : decode cX5_begin 36 = .ok (.invokestatic 47, 3) := by decide +kernel
theorem dX5_begin_39 : decode cX5_begin 39 = .ok (.aload_n 0, 1) := by decide +kernel
theorem dX5_begin_40 : decode cX5_begin 40 = .ok (.getfield 37, 3) := by decide +kernel
theorem dX5_begin_43 : decode cX5_begin 43 = .ok (.iconst 0, 1) := by decide +kernel
theorem dX5_begin_44 : decode cX5_begin 44 = .ok (.invokestatic 47, 3) := by decide +kernel
theorem dX5_begin_47 : decode cX5_begin 47 = .ok (.aload_n 0, 1) := by decide +kernel
theorem dX5_begin_48 : decode cX5_begin 48 = .ok (.getfield 40, 3) := by decide +kernel
theorem dX5_begin_51 : decode cX5_begin 51 = .ok (.iconst 0, 1) := by decide +kernel
theorem dX5_begin_52 : decode cX5_begin 52 = .ok (.invokestatic 47, 3) := by decide +kernel
theorem dX5_begin_55 : decode cX5_begin 55 = .ok (.iconst 0, 1) := by decide +kernel
theorem dX5_begin_56 : decode cX5_begin 56 = .ok (.istore_n 2, 1) := by decide +kernel
theorem dX5_begin_57 : decode cX5_begin 57 = .ok (.iload_n 2, 1) := by decide +kernel
theorem dX5_begin_58 : decode cX5_begin 58 = .ok (.aload_n 1, 1) := by decide +kernel
theorem dX5_begin_59 : decode cX5_begin 59 = .ok (.getfield 53, 3) := by decide +kernel
theorem dX5_begin_62 : decode cX5_begin 62 = .ok (.if_icmp .ge 44, 3) := by decide +kernel
theorem dX5_begin_65 : decode cX5_begin 65 = .ok (.aload_n 0, 1) := by decide +kernel
theorem dX5_begin_66 : decode cX5_begin 66 = .ok (.getfield 21, 3) := by decide +kernel
theorem dX5_begin_69 : decode cX5_begin 69 = .ok (.iload_n 2, 1) := by decide +kernel
theorem dX5_begin_70 : decode cX5_begin 70 = .ok (.aload_n 1, 1) := by decide +kernel
theorem dX5_begin_71 : decode cX5_begin 71 = .ok (.getfield 56, 3) := by decide +kernel
theorem dX5_begin_74 : decode cX5_begin 74 = .ok (.iload_n 2, 1) := by decide +kernel
theorem dX5_begin_75 : decode cX5_begin 75 = .ok (.iaload, 1) := by decide +kernel
theorem dX5_begin_76 : decode cX5_begin 76 = .ok (.iastore, 1) := by decide +kernel
theorem dX5_begin_77 : decode cX5_begin 77 = .ok (.aload_n 0, 1) := by decide +kernel
theorem dX5_begin_78 : decode cX5_begin 78 = .ok (.getfield 25, 3) := by decide +kernel
theorem dX5_begin_81 : decode cX5_begin 81 = .ok (.iload_n 2, 1) := by decide +kernel
theorem dX5_begin_82 : decode cX5_begin 82 = .ok (.aload_n 1, 1) := by decide +kernel
theorem dX5_begin_83 : decode cX5_begin 83 = .ok (.getfield 57, 3) := by decide +kernel
theorem dX5_begin_86 : decode cX5_begin 86 = .ok (.iload_n 2, 1) := by decide +kernel
theorem dX5_begin_87 : decode cX5_begin 87 = .ok (.iaload, 1) := by decide +kernel
theorem dX5_begin_88 : decode cX5_begin 88 = .ok (.iastore, 1) := by decide +kernel
theorem dX5_begin_89 : decode cX5_begin 89 = .ok (.aload_n 0, 1) := by decide +kernel
theorem dX5_begin_90 : decode cX5_begin 90 = .ok (.iload_n 2, 1) := by decide +kernel
theorem dX5_begin_91 : decode cX5_begin 91 = .ok (.aload_n 1, 1) := by decide +kernel
theorem dX5_begin_92 : decode cX5_begin 92 = .ok (.getfield 58, 3) := by decide +kernel
theorem dX5_begin_95 : decode cX5_begin 95 = .ok (.iload_n 2, 1) := by decide +kernel
theorem dX5_begin_96 : decode cX5_begin 96 = .ok (.iaload, 1) := by decide +kernel
theorem dX5_begin_97 : decode cX5_begin 97 = .ok (.invokevirtual 59, 3) := by decide +kernel
theorem dX5_begin_100 : decode cX5_begin 100 = .ok (.iinc 2 1, 3) := by decide +kernel
theorem dX5_begin_103 : decode cX5_begin 103 = .ok (.goto (-46), 3) := by decide +kernel
theorem dX5_begin_106 : decode cX5_begin 106 = .ok (.return_, 1) := by decide +kernel
theorem dX5_copyFrom_0 : decode cX5_copyFrom 0 = .ok (.aload_n 0, 1) := by decide +kernel
theorem dX5_copyFrom_1 : decode cX5_copyFrom 1 = .ok (.aload_n 1, 1) := by decide +kernel
theorem dX5_copyFrom_2 : decode cX5_copyFrom 2 = .ok (.getfield 43, 3) := by decide +kernel
theorem dX5_copyFrom_5 : decode cX5_copyFrom 5 = .ok (.putfield 43, 3) := by decide +kernel
theorem dX5_copyFrom_8 : decode cX5_copyFrom 8 = .ok (.aload_n 0, 1) := by decide +kernel
theorem dX5_copyFrom_9 : decode cX5_copyFrom 9 = .ok (.aload_n 1, 1) := by decide +kernel
theorem dX5_copyFrom_10 : decode cX5_copyFrom 10 = .ok (.getfield 7, 3) := by decide +kernel
theorem dX5_copyFrom_13 : decode cX5_copyFrom 13 = .ok (.putfield 7, 3) := by decide +kernel
theorem dX5_copyFrom_16 : decode cX5_copyFrom 16 = .ok (.aload_n 0, 1) := by decide +kernel
theorem dX5_copyFrom_17 : decode cX5_copyFrom 17 = .ok (.aload_n 1, 1) := by decide +kernel
theorem dX5_copyFrom_18 : decode cX5_copyFrom 18 = .ok (.getfield 13, 3) := by decide +kernel
theorem dX5_copyFrom_21 : decode cX5_copyFrom 21 = .ok (.putfield 13, 3) := by decide +kernel
theorem dX5_copyFrom_24 : decode cX5_copyFrom 24 = .ok (.aload_n 0, 1) := by decide +kernel
theorem dX5_copyFrom_25 : decode cX5_copyFrom 25 = .ok (.aload_n 1, 1) := by decide +kernel
theorem dX5_copyFrom_26 : decode cX5_copyFrom 26 = .ok (.getfield 16, 3) := by decide +kernel
theorem dX5_copyFrom_29 : decode cX5_copyFrom 29 = .ok (.putfield 16, 3) := by decide +kernel
theorem dX5_copyFrom_32 : decode cX5_copyFrom 32 = .ok (.aload_n 1, 1) := by decide +kernel
theorem dX5_copyFrom_33 : decode cX5_copyFrom 33 = .ok (.getfield 21, 3) := by decide +kernel
theorem dX5_copyFrom_36 : decode cX5_copyFrom 36 = .ok (.iconst 0, 1) := by decide +kernel
theorem dX5_copyFrom_37 : decode cX5_copyFrom 37 = .ok (.aload_n 0, 1) := by decide +kernel
theorem dX5_copyFrom_38 : decode cX5_copyFrom 38 = .ok (.getfield 21, 3) := by decide +kernel
theorem dX5_copyFrom_41 : decode cX5_copyFrom 41 = .ok (.iconst 0, 1) := by decide +kernel
theorem dX5_copyFrom_42 : decode cX5_copyFrom 42 = .ok (.bipush 16, 2) := by decide +kernel
theorem dX5_copyFrom_44 : decode cX5_copyFrom 44 = .ok (.invokestatic 63, 3) := by decide +kernel
theorem dX5_copyFrom_47 : decode cX5_copyFrom 47 = .ok (.aload_n 1, 1) := by decide +kernel
theorem dX5_copyFrom_48 : decode cX5_copyFrom 48 = .ok (.getfield 25, 3) := by decide +kernel
theorem dX5_copyFrom_51 : decode cX5_copyFrom 51 = .ok (.iconst 0, 1) := by decide +kernel
theorem dX5_copyFrom_52 : decode cX5_copyFrom 52 = .ok (.aload_n 0, 1) := by decide +kernel
theorem dX5_copyFrom_53 : decode cX5_copyFrom 53 = .ok (.getfield 25, 3) := by decide +kernel
theorem dX5_copyFrom_56 : decode cX5_copyFrom 56 = .ok (.iconst 0, 1) := by decide +kernel
theorem dX5_copyFrom_57 : decode cX5_copyFrom 57 = .ok (.bipush 16, 2) := by decide +kernel
theorem dX5_copyFrom_59 : decode cX5_copyFrom 59 = .ok (.invokestatic 63, 3) := by decide +kernel
theorem dX5_copyFrom_62 : decode cX5_copyFrom 62 = .ok (.aload_n 1, 1) := by decide +kernel
theorem dX5_copyFrom_63 : decode cX5_copyFrom 63 = .ok (.getfield 28, 3) := by decide +kernel
theorem dX5_copyFrom_66 : decode cX5_copyFrom 66 = .ok (.iconst 0, 1) := by decide +kernel
theorem dX5_copyFrom_67 : decode cX5_copyFrom 67 = .ok (.aload_n 0, 1) := by decide +kernel
theorem dX5_copyFrom_68 : decode cX5_copyFrom 68 = .ok (.getfield 28, 3) := by decide +kernel
theorem dX5_copyFrom_71 : decode cX5_copyFrom 71 = .ok (.iconst 0, 1) := by decide +kernel
theorem dX5_copyFrom_72 : decode cX5_copyFrom 72 = .ok (.bipush 16, 2) := by decide +kernel
theorem dX5_copyFrom_74 : decode cX5_copyFrom 74 = .ok (.invokestatic 63, 3) := by decide +kernel
theorem dX5_copyFrom_77 : decode cX5_copyFrom 77 = .ok (.aload_n 1, 1) := by decide +kernel
theorem dX5_copyFrom_78 : decode cX5_copyFrom 78 = .ok (.getfield 31, 3) := by decide +kernel
theorem dX5_copyFrom_81 : decode cX5_copyFrom 81 = .ok (.iconst 0, 1) := by decide +kernel
theorem dX5_copyFrom_82 : decode cX5_copyFrom 82 = .ok (.aload_n 0, 1) := by decide +kernel
theorem dX5_copyFrom_83 : decode cX5_copyFrom 83 = .ok (.getfield 31, 3) := by decide +kernel
theorem dX5_copyFrom_86 : decode cX5_copyFrom 86 = .ok (.iconst 0, 1) := by decide +kernel
theorem dX5_copyFrom_87 : decode cX5_copyFrom 87 = .ok (.bipush 16, 2) := by decide +kernel
theorem dX5_copyFrom_89 : decode cX5_copyFrom 89 = .ok (.invokestatic 63, 3) := by decide +kernel
theorem dX5_copyFrom_92 : decode cX5_copyFrom 92 = .ok (.aload_n 1, 1) := by decide +kernel
theorem dX5_copyFrom_93 : decode cX5_copyFrom 93 = .ok (.getfield 34, 3) := by decide +kernel
theorem dX5_copyFrom_96 : decode cX5_copyFrom 96 = .ok (.iconst 0, 1) := by decide +kernel
theorem dX5_copyFrom_97 : decode cX5_copyFrom 97 = .ok (.aload_n 0, 1) := by decide +kernel
theorem dX5_copyFrom_98 : decode cX5_copyFrom 98 = .ok (.getfield 34, 3) := by decide +kernel
theorem dX5_copyFrom_101 : decode cX5_copyFrom 101 = .ok (.iconst 0, 1) := by decide +kernel
theorem dX5_copyFrom_102 : decode cX5_copyFrom 102 = .ok (.bipush 6, 2) := by decide +kernel
theorem dX5_copyFrom_104 : decode cX5_copyFrom 104 = .ok (.invokestatic 63, 3) := by decide +kernel
theorem dX5_copyFrom_107 : decode cX5_copyFrom 107 = .ok (.aload_n 1, 1) := by decide +kernel
theorem dX5_copyFrom_108 : decode cX5_copyFrom 108 = .ok (.getfield 37, 3) := by decide +kernel
theorem dX5_copyFrom_111 : decode cX5_copyFrom 111 = .ok (.iconst 0, 1) := by decide +kernel
theorem dX5_copyFrom_112 : decode cX5_copyFrom 112 = .ok (.aload_n 0, 1) := by decide +kernel
theorem dX5_copyFrom_113 : decode cX5_copyFrom 113 = .ok (.getfield 37, 3) := by decide +kernel
theorem dX5_copyFrom_116 : decode cX5_copyFrom 116 = .ok (.iconst 0, 1) := by decide +kernel
theorem dX5_copyFrom_117 : decode cX5_copyFrom 117 = .ok (.iconst 5, 1) := by decide +kernel
theorem dX5_copyFrom_118 : decode cX5_copyFrom 118 = .ok (.invokestatic 63, 3) := by decide +kernel
theorem dX5_copyFrom_121 : decode cX5_copyFrom 121 = .ok (.aload_n 1, 1) := by decide +kernel
theorem dX5_copyFrom_122 : decode cX5_copyFrom 122 = .ok (.getfield 40, 3) := by decide +kernel
theorem dX5_copyFrom_125 : decode cX5_copyFrom 125 = .ok (.iconst 0, 1) := by decide +kernel
theorem dX5_copyFrom_126 : decode cX5_copyFrom 126 = .ok (.aload_n 0, 1) := by decide +kernel
theorem dX5_copyFrom_127 : decode cX5_copyFrom 127 = .ok (.getfield 40, 3) := by decide +kernel
theorem dX5_copyFrom_130 : decode cX5_copyFrom 130 = .ok (.iconst 0, 1) := by decide +kernel
theorem dX5_copyFrom_131 : decode cX5_copyFrom 131 = .ok (.iconst 5, 1) := by decide +kernel
theorem dX5_copyFrom_132 : decode cX5_copyFrom 132 = .ok (.invokestatic 63, 3) := by decide +kernel
theorem dX5_copyFrom_135 : decode cX5_copyFrom 135 = .ok (.return_, 1) := by decide +kernel
theorem dX5_tieInto_0 : decode cX5_tieInto 0 = .ok (.iload_n 2, 1) := by decide +kernel
theorem dX5_tieInto_1 : decode cX5_tieInto 1 = .ok (.aload_n 0, 1) := by decide +kernel
theorem dX5_tieInto_2 : decode cX5_tieInto 2 = .ok (.getfield 28, 3) := by decide +kernel
theorem dX5_tieInto_5 : decode cX5_tieInto 5 = .ok (.iload_n 1, 1) := by decide +kernel
theorem dX5_tieInto_6 : decode cX5_tieInto 6 = .ok (.iaload, 1) := by decide +kernel
theorem dX5_tieInto_7 : decode cX5_tieInto 7 = .ok (.isub, 1) := by decide +kernel
theorem dX5_tieInto_8 : decode cX5_tieInto 8 = .ok (.istore_n 3, 1) := by decide +kernel
theorem dX5_tieInto_9 : decode cX5_tieInto 9 = .ok (.aload_n 0, 1) := by decide +kernel
theorem dX5_tieInto_10 : decode cX5_tieInto 10 = .ok (.getfield 28, 3) := by decide +kernel
theorem dX5_tieInto_13 : decode cX5_tieInto 13 = .ok (.iload_n 1, 1) := by decide +kernel
theorem dX5_tieInto_14 : decode cX5_tieInto 14 = .ok (.iload_n 2, 1) := by decide +kernel
theorem dX5_tieInto_15 : decode cX5_tieInto 15 = .ok (.iastore, 1) := by decide +kernel
theorem dX5_tieInto_16 : decode cX5_tieInto 16 = .ok (.aload_n 0, 1) := by decide +kernel
theorem dX5_tieInto_17 : decode cX5_tieInto 17 = .ok (.iload_n 1, 1) := by decide +kernel
theorem dX5_tieInto_18 : decode cX5_tieInto 18 = .ok (.iload_n 3, 1) := by decide +kernel
theorem dX5_tieInto_19 : decode cX5_tieInto 19 = .ok (.invokevirtual 69, 3) := by decide +kernel
theorem dX5_tieInto_22 : decode cX5_tieInto 22 = .ok (.return_, 1) := by decide +kernel
theorem dX5_addAbove_0 : decode cX5_addAbove 0 = .ok (.iload_n 1, 1) := by decide +kernel
theorem dX5_addAbove_1 : decode cX5_addAbove 1 = .ok (.istore_n 3, 1) := by decide +kernel
theorem dX5_addAbove_2 : decode cX5_addAbove 2 = .ok (.iconst 0, 1) := by decide +kernel
theorem dX5_addAbove_3 : decode cX5_addAbove 3 = .ok (.istore 4, 2) := by decide +kernel
theorem dX5_addAbove_5 : decode cX5_addAbove 5 = .ok (.iload 4, 2) := by decide +kernel
theorem dX5_addAbove_7 : decode cX5_addAbove 7 = .ok (.iconst 4, 1) := by decide +kernel
theorem dX5_addAbove_8 : decode cX5_addAbove 8 = .ok (.if_icmp .ge 37, 3) := by decide +kernel
theorem dX5_addAbove_11 : decode cX5_addAbove 11 = .ok (.aload_n 0, 1) := by decide +kernel
theorem dX5_addAbove_12 : decode cX5_addAbove 12 = .ok (.getfield 43, 3) := by decide +kernel
theorem dX5_addAbove_15 : decode cX5_addAbove 15 = .ok (.iload_n 3, 1) := by decide +kernel
theorem dX5_addAbove_16 : decode cX5_addAbove 16 = .ok (.invokevirtual 72, 3) := by decide +kernel
theorem dX5_addAbove_19 : decode cX5_addAbove 19 = .ok (.ifCond .eq 26, 3) := by decide +kernel
theorem dX5_addAbove_22 : decode cX5_addAbove 22 = .ok (.aload_n 0, 1) := by decide +kernel
theorem dX5_addAbove_23 : decode cX5_addAbove 23 = .ok (.getfield 31, 3) := by decide +kernel
theorem dX5_addAbove_26 : decode cX5_addAbove 26 = .ok (.iload_n 3, 1) := by decide +kernel
theorem dX5_addAbove_27 : decode cX5_addAbove 27 = .ok (.dup2, 1) := by decide +kernel
theorem dX5_addAbove_28 : decode cX5_addAbove 28 = .ok (.iaload, 1) := by decide +kernel
theorem dX5_addAbove_29 : decode cX5_addAbove 29 = .ok (.iload_n 2, 1) := by decide +kernel
theorem dX5_addAbove_30 : decode cX5_addAbove 30 = .ok (.iadd, 1) := by decide +kernel
theorem dX5_addAbove_31 : decode cX5_addAbove 31 = .ok (.iastore, 1) := by decide +kernel
theorem dX5_addAbove_32 : decode cX5_addAbove 32 = .ok (.aload_n 0, 1) := by decide +kernel
theorem dX5_addAbove_33 : decode cX5_addAbove 33 = .ok (.getfield 25, 3) := by decide +kernel
theorem dX5_addAbove_36 : decode cX5_addAbove 36 = .ok (.iload_n 3, 1) := by decide +kernel
theorem dX5_addAbove_37 : decode cX5_addAbove 37 = .ok (.iaload, 1) := by decide +kernel
theorem dX5_addAbove_38 : decode cX5_addAbove 38 = .ok (.istore_n 3, 1) := by decide +kernel
theorem dX5_addAbove_39 : decode cX5_addAbove 39 = .ok (.iinc 4 1, 3) := by decide +kernel
theorem dX5_addAbove_42 : decode cX5_addAbove 42 = .ok (.goto (-37), 3) := by decide +kernel
theorem dX5_addAbove_45 : decode cX5_addAbove 45 = .ok (.return_, 1) := by decide +kernel
theorem dX5_depthOf_0 : decode cX5_depthOf 0 = .ok (.iconst 0, 1) := by decide +kernel
theorem dX5_depthOf_1 : decode cX5_depthOf 1 = .ok (.istore_n 2, 1) := by decide +kernel
theorem dX5_depthOf_2 : decode cX5_depthOf 2 = .ok (.iload_n 1, 1) := by decide +kernel
theorem dX5_depthOf_3 : decode cX5_depthOf 3 = .ok (.istore_n 3, 1) := by decide +kernel
theorem dX5_depthOf_4 : decode cX5_depthOf 4 = .ok (.iconst 0, 1) := by decide +kernel
theorem dX5_depthOf_5 : decode cX5_depthOf 5 = .ok (.istore 4, 2) := by decide +kernel
theorem dX5_depthOf_7 : decode cX5_depthOf 7 = .ok (.iload 4, 2) := by decide +kernel
theorem dX5_depthOf_9 : decode cX5_depthOf 9 = .ok (.iconst 4, 1) := by decide +kernel
theorem dX5_depthOf_10 : decode cX5_depthOf 10 = .ok (.if_icmp .ge 30, 3) := by decide +kernel
theorem dX5_depthOf_13 : decode cX5_depthOf 13 = .ok (.aload_n 0, 1) := by decide +kernel
theorem dX5_depthOf_14 : decode cX5_depthOf 14 = .ok (.getfield 43, 3) := by decide +kernel
theorem dX5_depthOf_17 : decode cX5_depthOf 17 = .ok (.iload_n 3, 1) := by decide +kernel
theorem dX5_depthOf_18 : decode cX5_depthOf 18 = .ok (.invokevirtual 72, 3) := by decide +kernel
theorem dX5_depthOf_21 : decode cX5_depthOf 21 = .ok (.ifCond .eq 19, 3) := by decide +kernel
theorem dX5_depthOf_24 : decode cX5_depthOf 24 = .ok (.iinc 2 1, 3) := by decide +kernel
theorem dX5_depthOf_27 : decode cX5_depthOf 27 = .ok (.aload_n 0, 1) := by decide +kernel
theorem dX5_depthOf_28 : decode cX5_depthOf 28 = .ok (.getfield 25, 3) := by decide +kernel
theorem dX5_depthOf_31 : decode cX5_depthOf 31 = .ok (.iload_n 3, 1) := by decide +kernel
theorem dX5_depthOf_32 : decode cX5_depthOf 32 = .ok (.iaload, 1) := by decide +kernel
theorem dX5_depthOf_33 : decode cX5_depthOf 33 = .ok (.istore_n 3, 1) := by decide +kernel
theorem dX5_depthOf_34 : decode cX5_depthOf 34 = .ok (.iinc 4 1, 3) := by decide +kernel
theorem dX5_depthOf_37 : decode cX5_depthOf 37 = .ok (.goto (-30), 3) := by decide +kernel
theorem dX5_depthOf_40 : decode cX5_depthOf 40 = .ok (.iload_n 2, 1) := by decide +kernel
theorem dX5_depthOf_41 : decode cX5_depthOf 41 = .ok (.ireturn, 1) := by decide +kernel
theorem dX5_isWithin_0 : decode cX5_isWithin 0 = .ok (.iload_n 1, 1) := by decide +kernel
theorem dX5_isWithin_1 : decode cX5_isWithin 1 = .ok (.istore_n 3, 1) := by decide +kernel
theorem dX5_isWithin_2 : decode cX5_isWithin 2 = .ok (.iconst 0, 1) := by decide +kernel
theorem dX5_isWithin_3 : decode cX5_isWithin 3 = .ok (.istore 4, 2) := by decide +kernel
theorem dX5_isWithin_5 : decode cX5_isWithin 5 = .ok (.iload 4, 2) := by decide +kernel
theorem dX5_isWithin_7 : decode cX5_isWithin 7 = .ok (.iconst 4, 1) := by decide +kernel
theorem dX5_isWithin_8 : decode cX5_isWithin 8 = .ok (.if_icmp .ge 34, 3) := by decide +kernel
theorem dX5_isWithin_11 : decode cX5_isWithin 11 = .ok (.aload_n 0, 1) := by decide +kernel
theorem dX5_isWithin_12 : decode cX5_isWithin 12 = .ok (.getfield 43, 3) := by decide +kernel
theorem dX5_isWithin_15 : decode cX5_isWithin 15 = .ok (.iload_n 3, 1) := by decide +kernel
theorem dX5_isWithin_16 : decode cX5_isWithin 16 = .ok (.invokevirtual 72, 3) := by decide +kernel
theorem dX5_isWithin_19 : decode cX5_isWithin 19 = .ok (.ifCond .eq 23, 3) := by decide +kernel
theorem dX5_isWithin_22 : decode cX5_isWithin 22 = .ok (.iload_n 3, 1) := by decide +kernel
theorem dX5_isWithin_23 : decode cX5_isWithin 23 = .ok (.iload_n 2, 1) := by decide +kernel
theorem dX5_isWithin_24 : decode cX5_isWithin 24 = .ok (.if_icmp .ne 5, 3) := by decide +kernel
theorem dX5_isWithin_27 : decode cX5_isWithin 27 = .ok (.iconst 1, 1) := by decide +kernel
theorem dX5_isWithin_28 : decode cX5_isWithin 28 = .ok (.ireturn, 1) := by decide +kernel
theorem dX5_isWithin_29 : decode cX5_isWithin 29 = .ok (.aload_n 0, 1) := by decide +kernel
theorem dX5_isWithin_30 : decode cX5_isWithin 30 = .ok (.getfield 25, 3) := by decide +kernel
theorem dX5_isWithin_33 : decode cX5_isWithin 33 = .ok (.iload_n 3, 1) := by decide +kernel
theorem dX5_isWithin_34 : decode cX5_isWithin 34 = .ok (.iaload, 1) := by decide +kernel
theorem dX5_isWithin_35 : decode cX5_isWithin 35 = .ok (.istore_n 3, 1) := by decide +kernel
theorem dX5_isWithin_36 : decode cX5_isWithin 36 = .ok (.iinc 4 1, 3) := by decide +kernel
theorem dX5_isWithin_39 : decode cX5_isWithin 39 = .ok (.goto (-34), 3) := by decide +kernel
theorem dX5_isWithin_42 : decode cX5_isWithin 42 = .ok (.iconst 0, 1) := by decide +kernel
theorem dX5_isWithin_43 : decode cX5_isWithin 43 = .ok (.ireturn, 1) := by decide +kernel
theorem dX5_heightOf_0 : decode cX5_heightOf 0 = .ok (.iconst 0, 1) := by decide +kernel
theorem dX5_heightOf_1 : decode cX5_heightOf 1 = .ok (.istore_n 2, 1) := by decide +kernel
theorem dX5_heightOf_2 : decode cX5_heightOf 2 = .ok (.iconst 0, 1) := by decide +kernel
theorem dX5_heightOf_3 : decode cX5_heightOf 3 = .ok (.istore_n 3, 1) := by decide +kernel
theorem dX5_heightOf_4 : decode cX5_heightOf 4 = .ok (.iload_n 3, 1) := by decide +kernel
theorem dX5_heightOf_5 : decode cX5_heightOf 5 = .ok (.aload_n 0, 1) := by decide +kernel
theorem dX5_heightOf_6 : decode cX5_heightOf 6 = .ok (.getfield 43, 3) := by decide +kernel
theorem dX5_heightOf_9 : decode cX5_heightOf 9 = .ok (.getfield 53, 3) := by decide +kernel
theorem dX5_heightOf_12 : decode cX5_heightOf 12 = .ok (.if_icmp .ge 28, 3) := by decide +kernel
theorem dX5_heightOf_15 : decode cX5_heightOf 15 = .ok (.aload_n 0, 1) := by decide +kernel
theorem dX5_heightOf_16 : decode cX5_heightOf 16 = .ok (.iload_n 3, 1) := by decide +kernel
theorem dX5_heightOf_17 : decode cX5_heightOf 17 = .ok (.iload_n 1, 1) := by decide +kernel
theorem dX5_heightOf_18 : decode cX5_heightOf 18 = .ok (.invokevirtual 76, 3) := by decide +kernel
theorem dX5_heightOf_21 : decode cX5_heightOf 21 = .ok (.ifCond .eq 13, 3) := by decide +kernel
theorem dX5_heightOf_24 : decode cX5_heightOf 24 = .ok (.iload_n 2, 1) := by decide +kernel
theorem dX5_heightOf_25 : decode cX5_heightOf 25 = .ok (.aload_n 0, 1) := by decide +kernel
theorem dX5_heightOf_26 : decode cX5_heightOf 26 = .ok (.iload_n 3, 1) := by decide +kernel
theorem dX5_heightOf_27 : decode cX5_heightOf 27 = .ok (.invokevirtual 80, 3) := by decide +kernel
theorem dX5_heightOf_30 : decode cX5_heightOf 30 = .ok (.invokestatic 84, 3) := by decide +kernel
theorem dX5_heightOf_33 : decode cX5_heightOf 33 = .ok (.istore_n 2, 1) := by decide +kernel
theorem dX5_heightOf_34 : decode cX5_heightOf 34 = .ok (.iinc 3 1, 3) := by decide +kernel
theorem dX5_heightOf_37 : decode cX5_heightOf 37 = .ok (.goto (-33), 3) := by decide +kernel
theorem dX5_heightOf_40 : decode cX5_heightOf 40 = .ok (.iload_n 2, 1) := by decide +kernel
theorem dX5_heightOf_41 : decode cX5_heightOf 41 = .ok (.aload_n 0, 1) := by decide +kernel
theorem dX5_heightOf_42 : decode cX5_heightOf 42 = .ok (.iload_n 1, 1) := by decide +kernel
theorem dX5_heightOf_43 : decode cX5_heightOf 43 = .ok (.invokevirtual 80, 3) := by decide +kernel
theorem dX5_heightOf_46 : decode cX5_heightOf 46 = .ok (.isub, 1) := by decide +kernel
theorem dX5_heightOf_47 : decode cX5_heightOf 47 = .ok (.iconst 1, 1) := by decide +kernel
theorem dX5_heightOf_48 : decode cX5_heightOf 48 = .ok (.iadd, 1) := by decide +kernel
theorem dX5_heightOf_49 : decode cX5_heightOf 49 = .ok (.ireturn, 1) := by decide +kernel
theorem dX5_hangFrom_0 : decode cX5_hangFrom 0 = .ok (.aload_n 0, 1) := by decide +kernel
theorem dX5_hangFrom_1 : decode cX5_hangFrom 1 = .ok (.aload_n 0, 1) := by decide +kernel
theorem dX5_hangFrom_2 : decode cX5_hangFrom 2 = .ok (.getfield 25, 3) := by decide +kernel
theorem dX5_hangFrom_5 : decode cX5_hangFrom 5 = .ok (.iload_n 1, 1) := by decide +kernel
theorem dX5_hangFrom_6 : decode cX5_hangFrom 6 = .ok (.iaload, 1) := by decide +kernel
theorem dX5_hangFrom_7 : decode cX5_hangFrom 7 = .ok (.aload_n 0, 1) := by decide +kernel
theorem dX5_hangFrom_8 : decode cX5_hangFrom 8 = .ok (.getfield 31, 3) := by decide +kernel
theorem dX5_hangFrom_11 : decode cX5_hangFrom 11 = .ok (.iload_n 1, 1) := by decide +kernel
theorem dX5_hangFrom_12 : decode cX5_hangFrom 12 = .ok (.iaload, 1) := by decide +kernel
theorem dX5_hangFrom_13 : decode cX5_hangFrom 13 = .ok (.ineg, 1) := by decide +kernel
theorem dX5_hangFrom_14 : decode cX5_hangFrom 14 = .ok (.invokevirtual 69, 3) := by decide +kernel
theorem dX5_hangFrom_17 : decode cX5_hangFrom 17 = .ok (.aload_n 0, 1) := by decide +kernel
theorem dX5_hangFrom_18 : decode cX5_hangFrom 18 = .ok (.getfield 25, 3) := by decide +kernel
theorem dX5_hangFrom_21 : decode cX5_hangFrom 21 = .ok (.iload_n 1, 1) := by decide +kernel
theorem dX5_hangFrom_22 : decode cX5_hangFrom 22 = .ok (.iload_n 2, 1) := by decide +kernel
theorem dX5_hangFrom_23 : decode cX5_hangFrom 23 = .ok (.iastore, 1) := by decide +kernel
theorem dX5_hangFrom_24 : decode cX5_hangFrom 24 = .ok (.aload_n 0, 1) := by decide +kernel
theorem dX5_hangFrom_25 : decode cX5_hangFrom 25 = .ok (.iload_n 2, 1) := by decide +kernel
theorem dX5_hangFrom_26 : decode cX5_hangFrom 26 = .ok (.aload_n 0, 1) := by decide +kernel
theorem dX5_hangFrom_27 : decode cX5_hangFrom 27 = .ok (.getfield 31, 3) := by decide +kernel
theorem dX5_hangFrom_30 : decode cX5_hangFrom 30 = .ok (.iload_n 1, 1) := by decide +kernel
theorem dX5_hangFrom_31 : decode cX5_hangFrom 31 = .ok (.iaload, 1) := by decide +kernel
theorem dX5_hangFrom_32 : decode cX5_hangFrom 32 = .ok (.invokevirtual 69, 3) := by decide +kernel
theorem dX5_hangFrom_35 : decode cX5_hangFrom 35 = .ok (.return_, 1) := by decide +kernel
theorem dX5_stepsBetween_0 : decode cX5_stepsBetween 0 = .ok (.iload_n 1, 1) := by decide +kernel
theorem dX5_stepsBetween_1 : decode cX5_stepsBetween 1 = .ok (.istore_n 3, 1) := by decide +kernel
theorem dX5_stepsBetween_2 : decode cX5_stepsBetween 2 = .ok (.iload_n 2, 1) := by decide +kernel
theorem dX5_stepsBetween_3 : decode cX5_stepsBetween 3 = .ok (.istore 4, 2) := by decide +kernel
theorem dX5_stepsBetween_5 : decode cX5_stepsBetween 5 = .ok (.iconst 0, 1) := by decide +kernel
theorem dX5_stepsBetween_6 : decode cX5_stepsBetween 6 = .ok (.istore 5, 2) := by decide +kernel
theorem dX5_stepsBetween_8 : decode cX5_stepsBetween 8 = .ok (.iconst 0, 1) := by decide +kernel
theorem dX5_stepsBetween_9 : decode cX5_stepsBetween 9 = .ok (.istore 6, 2) := by decide +kernel
theorem dX5_stepsBetween_11 : decode cX5_stepsBetween 11 = .ok (.iload 6, 2) := by decide +kernel
theorem dX5_stepsBetween_13 : decode cX5_stepsBetween 13 = .ok (.bipush 8, 2) := by decide +kernel
theorem dX5_stepsBetween_15 : decode cX5_stepsBetween 15 = .ok (.if_icmp .ge 49, 3) := by decide +kernel
theorem dX5_stepsBetween_18 : decode cX5_stepsBetween 18 = .ok (.iload_n 3, 1) := by decide +kernel
theorem dX5_stepsBetween_19 : decode cX5_stepsBetween 19 = .ok (.iload 4, 2) := by decide +kernel
theorem dX5_stepsBetween_21 : decode cX5_stepsBetween 21 = .ok (.if_icmp .eq 43, 3) := by decide +kernel
theorem dX5_stepsBetween_24 : decode cX5_stepsBetween 24 = .ok (.aload_n 0, 1) := by decide +kernel
theorem dX5_stepsBetween_25 : decode cX5_stepsBetween 25 = .ok (.iload_n 3, 1) := by decide +kernel
theorem dX5_stepsBetween_26 : decode cX5_stepsBetween 26 = .ok (.invokevirtual 80, 3) := by decide +kernel
theorem dX5_stepsBetween_29 : decode cX5_stepsBetween 29 = .ok (.aload_n 0, 1) := by decide +kernel
theorem dX5_stepsBetween_30 : decode cX5_stepsBetween 30 = .ok (.iload 4, 2) := by decide +kernel
theorem dX5_stepsBetween_32 : decode cX5_stepsBetween 32 = .ok (.invokevirtual 80, 3) := by decide +kernel
theorem dX5_stepsBetween_35 : decode cX5_stepsBetween 35 = .ok (.if_icmp .ge 14, 3) := by decide +kernel
theorem dX5_stepsBetween_38 : decode cX5_stepsBetween 38 = .ok (.aload_n 0, 1) := by decide +kernel
theorem dX5_stepsBetween_39 : decode cX5_stepsBetween 39 = .ok (.iload 4, 2) := by decide +kernel
theorem dX5_stepsBetween_41 : decode cX5_stepsBetween 41 = .ok (.invokevirtual 90, 3) := by decide +kernel
theorem dX5_stepsBetween_44 : decode cX5_stepsBetween 44 = .ok (.istore 4, 2) := by decide +kernel
theorem dX5_stepsBetween_46 : decode cX5_stepsBetween 46 = .ok (.goto 9, 3) := by decide +kernel
theorem dX5_stepsBetween_49 : decode cX5_stepsBetween 49 = .ok (.aload_n 0, 1) := by decide +kernel
theorem dX5_stepsBetween_50 : decode cX5_stepsBetween 50 = .ok (.iload_n 3, 1) := by decide +kernel
theorem dX5_stepsBetween_51 : decode cX5_stepsBetween 51 = .ok (.invokevirtual 90, 3) := by decide +kernel
theorem dX5_stepsBetween_54 : decode cX5_stepsBetween 54 = .ok (.istore_n 3, 1) := by decide +kernel
theorem dX5_stepsBetween_55 : decode cX5_stepsBetween 55 = .ok (.iinc 5 1, 3) := by decide +kernel
theorem dX5_stepsBetween_58 : decode cX5_stepsBetween 58 = .ok (.iinc 6 1, 3) := by decide +kernel
theorem dX5_stepsBetween_61 : decode cX5_stepsBetween 61 = .ok (.goto (-50), 3) := by decide +kernel
theorem dX5_stepsBetween_64 : decode cX5_stepsBetween 64 = .ok (.iload 5, 2) := by decide +kernel
theorem dX5_stepsBetween_66 : decode cX5_stepsBetween 66 = .ok (.ireturn, 1) := by decide +kernel
theorem dX5_above_0 : decode cX5_above 0 = .ok (.aload_n 0, 1) := by decide +kernel
theorem dX5_above_1 : decode cX5_above 1 = .ok (.getfield 43, 3) := by decide +kernel
theorem dX5_above_4 : decode cX5_above 4 = .ok (.iload_n 1, 1) := by decide +kernel
theorem dX5_above_5 : decode cX5_above 5 = .ok (.invokevirtual 72, 3) := by decide +kernel
theorem dX5_above_8 : decode cX5_above 8 = .ok (.ifCond .eq 12, 3) := by decide +kernel
theorem dX5_above_11 : decode cX5_above 11 = .ok (.aload_n 0, 1) := by decide +kernel
theorem dX5_above_12 : decode cX5_above 12 = .ok (.getfield 25, 3) := by decide +kernel
theorem dX5_above_15 : decode cX5_above 15 = .ok (.iload_n 1, 1) := by decide +kernel
theorem dX5_above_16 : decode cX5_above 16 = .ok (.iaload, 1) := by decide +kernel
theorem dX5_above_17 : decode cX5_above 17 = .ok (.goto 4, 3) := by decide +kernel
theorem dX5_above_20 : decode cX5_above 20 = .ok (.iconst (-1), 1) := by decide +kernel
theorem dX5_above_21 : decode cX5_above 21 = .ok (.ireturn, 1) := by decide +kernel
theorem dX5_cordsUnder_0 : decode cX5_cordsUnder 0 = .ok (.iconst 0, 1) := by decide +kernel
theorem dX5_cordsUnder_1 : decode cX5_cordsUnder 1 = .ok (.istore_n 2, 1) := by decide +kernel
theorem dX5_cordsUnder_2 : decode cX5_cordsUnder 2 = .ok (.iconst 0, 1) := by decide +kernel
theorem dX5_cordsUnder_3 : decode cX5_cordsUnder 3 = .ok (.istore_n 3, 1) := by decide +kernel
theorem dX5_cordsUnder_4 : decode cX5_cordsUnder 4 = .ok (.iload_n 3, 1) := by decide +kernel
theorem dX5_cordsUnder_5 : decode cX5_cordsUnder 5 = .ok (.aload_n 0, 1) := by decide +kernel
theorem dX5_cordsUnder_6 : decode cX5_cordsUnder 6 = .ok (.getfield 43, 3) := by decide +kernel
theorem dX5_cordsUnder_9 : decode cX5_cordsUnder 9 = .ok (.getfield 53, 3) := by decide +kernel
theorem dX5_cordsUnder_12 : decode cX5_cordsUnder 12 = .ok (.if_icmp .ge 27, 3) := by decide +kernel
theorem dX5_cordsUnder_15 : decode cX5_cordsUnder 15 = .ok (.iload_n 2, 1) := by decide +kernel
theorem dX5_cordsUnder_16 : decode cX5_cordsUnder 16 = .ok (.aload_n 0, 1) := by decide +kernel
theorem dX5_cordsUnder_17 : decode cX5_cordsUnder 17 = .ok (.getfield 25, 3) := by decide +kernel
theorem dX5_cordsUnder_20 : decode cX5_cordsUnder 20 = .ok (.iload_n 3, 1) := by decide +kernel
theorem dX5_cordsUnder_21 : decode cX5_cordsUnder 21 = .ok (.iaload, 1) := by decide +kernel
theorem dX5_cordsUnder_22 : decode cX5_cordsUnder 22 = .ok (.iload_n 1, 1) := by decide +kernel
theorem dX5_cordsUnder_23 : decode cX5_cordsUnder 23 = .ok (.if_icmp .ne 7, 3) := by decide +kernel
theorem dX5_cordsUnder_26 : decode cX5_cordsUnder 26 = .ok (.iconst 1, 1) := by decide +kernel
theorem dX5_cordsUnder_27 : decode cX5_cordsUnder 27 = .ok (.goto 4, 3) := by decide +kernel
theorem dX5_cordsUnder_30 : decode cX5_cordsUnder 30 = .ok (.iconst 0, 1) := by decide +kernel
theorem dX5_cordsUnder_31 : decode cX5_cordsUnder 31 = .ok (.iadd, 1) := by decide +kernel
theorem dX5_cordsUnder_32 : decode cX5_cordsUnder 32 = .ok (.istore_n 2, 1) := by decide +kernel
theorem dX5_cordsUnder_33 : decode cX5_cordsUnder 33 = .ok (.iinc 3 1, 3) := by decide +kernel
theorem dX5_cordsUnder_36 : decode cX5_cordsUnder 36 = .ok (.goto (-32), 3) := by decide +kernel
theorem dX5_cordsUnder_39 : decode cX5_cordsUnder 39 = .ok (.iload_n 2, 1) := by decide +kernel
theorem dX5_cordsUnder_40 : decode cX5_cordsUnder 40 = .ok (.ireturn, 1) := by decide +kernel
theorem dX5_cordInPlace_0 : decode cX5_cordInPlace 0 = .ok (.iconst 0, 1) := by decide +kernel
theorem dX5_cordInPlace_1 : decode cX5_cordInPlace 1 = .ok (.istore_n 2, 1) := by decide +kernel
theorem dX5_cordInPlace_2 : decode cX5_cordInPlace 2 = .ok (.iload_n 2, 1) := by decide +kernel
theorem dX5_cordInPlace_3 : decode cX5_cordInPlace 3 = .ok (.aload_n 0, 1) := by decide +kernel
theorem dX5_cordInPlace_4 : decode cX5_cordInPlace 4 = .ok (.getfield 43, 3) := by decide +kernel
theorem dX5_cordInPlace_7 : decode cX5_cordInPlace 7 = .ok (.getfield 53, 3) := by decide +kernel
theorem dX5_cordInPlace_10 : decode cX5_cordInPlace 10 = .ok (.if_icmp .ge 57, 3) := by decide +kernel
theorem dX5_cordInPlace_13 : decode cX5_cordInPlace 13 = .ok (.iconst 0, 1) := by decide +kernel
theorem dX5_cordInPlace_14 : decode cX5_cordInPlace 14 = .ok (.istore_n 3, 1) := by decide +kernel
theorem dX5_cordInPlace_15 : decode cX5_cordInPlace 15 = .ok (.iconst 0, 1) := by decide +kernel
theorem dX5_cordInPlace_16 : decode cX5_cordInPlace 16 = .ok (.istore 4, 2) := by decide +kernel
theorem dX5_cordInPlace_18 : decode cX5_cordInPlace 18 = .ok (.iload 4, 2) := by decide +kernel
theorem dX5_cordInPlace_20 : decode cX5_cordInPlace 20 = .ok (.aload_n 0, 1) := by decide +kernel
theorem dX5_cordInPlace_21 : decode cX5_cordInPlace 21 = .ok (.getfield 43, 3) := by decide +kernel
theorem dX5_cordInPlace_24 : decode cX5_cordInPlace 24 = .ok (.getfield 53, 3) := by decide +kernel
theorem dX5_cordInPlace_27 : decode cX5_cordInPlace 27 = .ok (.if_icmp .ge 27, 3) := by decide +kernel
theorem dX5_cordInPlace_30 : decode cX5_cordInPlace 30 = .ok (.iload_n 3, 1) := by decide +kernel
theorem dX5_cordInPlace_31 : decode cX5_cordInPlace 31 = .ok (.aload_n 0, 1) := by decide +kernel
theorem dX5_cordInPlace_32 : decode cX5_cordInPlace 32 = .ok (.iload 4, 2) := by decide +kernel
theorem dX5_cordInPlace_34 : decode cX5_cordInPlace 34 = .ok (.iload_n 2, 1) := by decide +kernel
theorem dX5_cordInPlace_35 : decode cX5_cordInPlace 35 = .ok (.invokevirtual 93, 3) := by decide +kernel
theorem dX5_cordInPlace_38 : decode cX5_cordInPlace 38 = .ok (.ifCond .eq 7, 3) := by decide +kernel
theorem dX5_cordInPlace_41 : decode cX5_cordInPlace 41 = .ok (.iconst 1, 1) := by decide +kernel
theorem dX5_cordInPlace_42 : decode cX5_cordInPlace 42 = .ok (.goto 4, 3) := by decide +kernel
theorem dX5_cordInPlace_45 : decode cX5_cordInPlace 45 = .ok (.iconst 0, 1) := by decide +kernel
theorem dX5_cordInPlace_46 : decode cX5_cordInPlace 46 = .ok (.iadd, 1) := by decide +kernel
theorem dX5_cordInPlace_47 : decode cX5_cordInPlace 47 = .ok (.istore_n 3, 1) := by decide +kernel
theorem dX5_cordInPlace_48 : decode cX5_cordInPlace 48 = .ok (.iinc 4 1, 3) := by decide +kernel
theorem dX5_cordInPlace_51 : decode cX5_cordInPlace 51 = .ok (.goto (-33), 3) := by decide +kernel
theorem dX5_cordInPlace_54 : decode cX5_cordInPlace 54 = .ok (.iload_n 3, 1) := by decide +kernel
theorem dX5_cordInPlace_55 : decode cX5_cordInPlace 55 = .ok (.iload_n 1, 1) := by decide +kernel
theorem dX5_cordInPlace_56 : decode cX5_cordInPlace 56 = .ok (.if_icmp .ne 5, 3) := by decide +kernel
theorem dX5_cordInPlace_59 : decode cX5_cordInPlace 59 = .ok (.iload_n 2, 1) := by decide +kernel
theorem dX5_cordInPlace_60 : decode cX5_cordInPlace 60 = .ok (.ireturn, 1) := by decide +kernel
theorem dX5_cordInPlace_61 : decode cX5_cordInPlace 61 = .ok (.iinc 2 1, 3) := by decide +kernel
theorem dX5_cordInPlace_64 : decode cX5_cordInPlace 64 = .ok (.goto (-62), 3) := by decide +kernel
theorem dX5_cordInPlace_67 : decode cX5_cordInPlace 67 = .ok (.iconst (-1), 1) := by decide +kernel
theorem dX5_cordInPlace_68 : decode cX5_cordInPlace 68 = .ok (.ireturn, 1) := by decide +kernel
theorem dX5_standsAhead_0 : decode cX5_standsAhead 0 = .ok (.aload_n 0, 1) := by decide +kernel
theorem dX5_standsAhead_1 : decode cX5_standsAhead 1 = .ok (.iload_n 1, 1) := by decide +kernel
theorem dX5_standsAhead_2 : decode cX5_standsAhead 2 = .ok (.invokevirtual 96, 3) := by decide +kernel
theorem dX5_standsAhead_5 : decode cX5_standsAhead 5 = .ok (.istore_n 3, 1) := by decide +kernel
theorem dX5_standsAhead_6 : decode cX5_standsAhead 6 = .ok (.aload_n 0, 1) := by decide +kernel
theorem dX5_standsAhead_7 : decode cX5_standsAhead 7 = .ok (.iload_n 2, 1) := by decide +kernel
theorem dX5_standsAhead_8 : decode cX5_standsAhead 8 = .ok (.invokevirtual 96, 3) := by decide +kernel
theorem dX5_standsAhead_11 : decode cX5_standsAhead 11 = .ok (.istore 4, 2) := by decide +kernel
theorem dX5_standsAhead_13 : decode cX5_standsAhead 13 = .ok (.iload_n 3, 1) := by decide +kernel
theorem dX5_standsAhead_14 : decode cX5_standsAhead 14 = .ok (.iload 4, 2) := by decide +kernel
theorem dX5_standsAhead_16 : decode cX5_standsAhead 16 = .ok (.if_icmp .eq 15, 3) := by decide +kernel
theorem dX5_standsAhead_19 : decode cX5_standsAhead 19 = .ok (.iload_n 3, 1) := by decide +kernel
theorem dX5_standsAhead_20 : decode cX5_standsAhead 20 = .ok (.iload 4, 2) := by decide +kernel
theorem dX5_standsAhead_22 : decode cX5_standsAhead 22 = .ok (.if_icmp .ge 7, 3) := by decide +kernel
theorem dX5_standsAhead_25 : decode cX5_standsAhead 25 = .ok (.iconst 1, 1) := by decide +kernel
theorem dX5_standsAhead_26 : decode cX5_standsAhead 26 = .ok (.goto 4, 3) := by decide +kernel
theorem dX5_standsAhead_29 : decode cX5_standsAhead 29 = .ok (.iconst 0, 1) := by decide +kernel
theorem dX5_standsAhead_30 : decode cX5_standsAhead 30 = .ok (.ireturn, 1) := by decide +kernel
theorem dX5_standsAhead_31 : decode cX5_standsAhead 31 = .ok (.aload_n 0, 1) := by decide +kernel
theorem dX5_standsAhead_32 : decode cX5_standsAhead 32 = .ok (.getfield 31, 3) := by decide +kernel
theorem dX5_standsAhead_35 : decode cX5_standsAhead 35 = .ok (.iload_n 1, 1) := by decide +kernel
theorem dX5_standsAhead_36 : decode cX5_standsAhead 36 = .ok (.iaload, 1) := by decide +kernel
theorem dX5_standsAhead_37 : decode cX5_standsAhead 37 = .ok (.aload_n 0, 1) := by decide +kernel
theorem dX5_standsAhead_38 : decode cX5_standsAhead 38 = .ok (.getfield 31, 3) := by decide +kernel
theorem dX5_standsAhead_41 : decode cX5_standsAhead 41 = .ok (.iload_n 2, 1) := by decide +kernel
theorem dX5_standsAhead_42 : decode cX5_standsAhead 42 = .ok (.iaload, 1) := by decide +kernel
theorem dX5_standsAhead_43 : decode cX5_standsAhead 43 = .ok (.if_icmp .eq 26, 3) := by decide +kernel
theorem dX5_standsAhead_46 : decode cX5_standsAhead 46 = .ok (.aload_n 0, 1) := by decide +kernel
theorem dX5_standsAhead_47 : decode cX5_standsAhead 47 = .ok (.getfield 31, 3) := by decide +kernel
theorem dX5_standsAhead_50 : decode cX5_standsAhead 50 = .ok (.iload_n 1, 1) := by decide +kernel
theorem dX5_standsAhead_51 : decode cX5_standsAhead 51 = .ok (.iaload, 1) := by decide +kernel
theorem dX5_standsAhead_52 : decode cX5_standsAhead 52 = .ok (.aload_n 0, 1) := by decide +kernel
theorem dX5_standsAhead_53 : decode cX5_standsAhead 53 = .ok (.getfield 31, 3) := by decide +kernel
theorem dX5_standsAhead_56 : decode cX5_standsAhead 56 = .ok (.iload_n 2, 1) := by decide +kernel
theorem dX5_standsAhead_57 : decode cX5_standsAhead 57 = .ok (.iaload, 1) := by decide +kernel
theorem dX5_standsAhead_58 : decode cX5_standsAhead 58 = .ok (.if_icmp .le 7, 3) := by decide +kernel
theorem dX5_standsAhead_61 : decode cX5_standsAhead 61 = .ok (.iconst 1, 1) := by decide +kernel
theorem dX5_standsAhead_62 : decode cX5_standsAhead 62 = .ok (.goto 17, 3) := by decide +kernel
theorem dX5_standsAhead_65 : decode cX5_standsAhead 65 = .ok (.iconst 0, 1) := by decide +kernel
theorem dX5_standsAhead_66 : decode cX5_standsAhead 66 = .ok (.goto 13, 3) := by decide +kernel
theorem dX5_standsAhead_69 : decode cX5_standsAhead 69 = .ok (.iload_n 1, 1) := by decide +kernel
theorem dX5_standsAhead_70 : decode cX5_standsAhead 70 = .ok (.iload_n 2, 1) := by decide +kernel
theorem dX5_standsAhead_71 : decode cX5_standsAhead 71 = .ok (.if_icmp .ge 7, 3) := by decide +kernel
theorem dX5_standsAhead_74 : decode cX5_standsAhead 74 = .ok (.iconst 1, 1) := by decide +kernel
theorem dX5_standsAhead_75 : decode cX5_standsAhead 75 = .ok (.goto 4, 3) := by decide +kernel
theorem dX5_standsAhead_78 : decode cX5_standsAhead 78 = .ok (.iconst 0, 1) := by decide +kernel
theorem dX5_standsAhead_79 : decode cX5_standsAhead 79 = .ok (.ireturn, 1) := by decide +kernel
theorem dX5_rankOf_0 : decode cX5_rankOf 0 = .ok (.aload_n 0, 1) := by decide +kernel
theorem dX5_rankOf_1 : decode cX5_rankOf 1 = .ok (.getfield 21, 3) := by decide +kernel
theorem dX5_rankOf_4 : decode cX5_rankOf 4 = .ok (.iload_n 1, 1) := by decide +kernel
theorem dX5_rankOf_5 : decode cX5_rankOf 5 = .ok (.iaload, 1) := by decide +kernel
theorem dX5_rankOf_6 : decode cX5_rankOf 6 = .ok (.istore_n 2, 1) := by decide +kernel
theorem dX5_rankOf_7 : decode cX5_rankOf 7 = .ok (.aload_n 0, 1) := by decide +kernel
theorem dX5_rankOf_8 : decode cX5_rankOf 8 = .ok (.getfield 43, 3) := by decide +kernel
theorem dX5_rankOf_11 : decode cX5_rankOf 11 = .ok (.iload_n 2, 1) := by decide +kernel
theorem dX5_rankOf_12 : decode cX5_rankOf 12 = .ok (.invokevirtual 99, 3) := by decide +kernel
theorem dX5_rankOf_15 : decode cX5_rankOf 15 = .ok (.ifCond .eq 15, 3) := by decide +kernel
theorem dX5_rankOf_18 : decode cX5_rankOf 18 = .ok (.aload_n 0, 1) := by decide +kernel
theorem dX5_rankOf_19 : decode cX5_rankOf 19 = .ok (.getfield 43, 3) := by decide +kernel
theorem dX5_rankOf_22 : decode cX5_rankOf 22 = .ok (.getfield 102, 3) := by decide +kernel
theorem dX5_rankOf_25 : decode cX5_rankOf 25 = .ok (.iload_n 2, 1) := by decide +kernel
theorem dX5_rankOf_26 : decode cX5_rankOf 26 = .ok (.iaload, 1) := by decide +kernel
theorem dX5_rankOf_27 : decode cX5_rankOf 27 = .ok (.goto 4, 3) := by decide +kernel
theorem dX5_rankOf_30 : decode cX5_rankOf 30 = .ok (.iconst 0, 1) := by decide +kernel
theorem dX5_rankOf_31 : decode cX5_rankOf 31 = .ok (.ireturn, 1) := by decide +kernel
theorem dX5_cordWithSum_0 : decode cX5_cordWithSum 0 = .ok (.iconst 0, 1) := by decide +kernel
theorem dX5_cordWithSum_1 : decode cX5_cordWithSum 1 = .ok (.istore_n 2, 1) := by decide +kernel
theorem dX5_cordWithSum_2 : decode cX5_cordWithSum 2 = .ok (.iload_n 2, 1) := by decide +kernel
theorem dX5_cordWithSum_3 : decode cX5_cordWithSum 3 = .ok (.aload_n 0, 1) := by decide +kernel
theorem dX5_cordWithSum_4 : decode cX5_cordWithSum 4 = .ok (.getfield 43, 3) := by decide +kernel
theorem dX5_cordWithSum_7 : decode cX5_cordWithSum 7 = .ok (.getfield 53, 3) := by decide +kernel
theorem dX5_cordWithSum_10 : decode cX5_cordWithSum 10 = .ok (.if_icmp .ge 21, 3) := by decide +kernel
theorem dX5_cordWithSum_13 : decode cX5_cordWithSum 13 = .ok (.aload_n 0, 1) := by decide +kernel
theorem dX5_cordWithSum_14 : decode cX5_cordWithSum 14 = .ok (.getfield 31, 3) := by decide +kernel
theorem dX5_cordWithSum_17 : decode cX5_cordWithSum 17 = .ok (.iload_n 2, 1) := by decide +kernel
theorem dX5_cordWithSum_18 : decode cX5_cordWithSum 18 = .ok (.iaload, 1) := by decide +kernel
theorem dX5_cordWithSum_19 : decode cX5_cordWithSum 19 = .ok (.iload_n 1, 1) := by decide +kernel
theorem dX5_cordWithSum_20 : decode cX5_cordWithSum 20 = .ok (.if_icmp .ne 5, 3) := by decide +kernel
theorem dX5_cordWithSum_23 : decode cX5_cordWithSum 23 = .ok (.iload_n 2, 1) := by decide +kernel
theorem dX5_cordWithSum_24 : decode cX5_cordWithSum 24 = .ok (.ireturn, 1) := by decide +kernel
theorem dX5_cordWithSum_25 : decode cX5_cordWithSum 25 = .ok (.iinc 2 1, 3) := by decide +kernel
theorem dX5_cordWithSum_28 : decode cX5_cordWithSum 28 = .ok (.goto (-26), 3) := by decide +kernel
theorem dX5_cordWithSum_31 : decode cX5_cordWithSum 31 = .ok (.iconst (-1), 1) := by decide +kernel
theorem dX5_cordWithSum_32 : decode cX5_cordWithSum 32 = .ok (.ireturn, 1) := by decide +kernel
theorem dX5_cordsOutOfOrder_0 : decode cX5_cordsOutOfOrder 0 = .ok (.iconst 0, 1) := by decide +kernel
theorem dX5_cordsOutOfOrder_1 : decode cX5_cordsOutOfOrder 1 = .ok (.istore_n 1, 1) := by decide +kernel
theorem dX5_cordsOutOfOrder_2 : decode cX5_cordsOutOfOrder 2 = .ok (.iconst 0, 1) := by decide +kernel
theorem dX5_cordsOutOfOrder_3 : decode cX5_cordsOutOfOrder 3 = .ok (.istore_n 2, 1) := by decide +kernel
theorem dX5_cordsOutOfOrder_4 : decode cX5_cordsOutOfOrder 4 = .ok (.iload_n 2, 1) := by decide +kernel
theorem dX5_cordsOutOfOrder_5 : decode cX5_cordsOutOfOrder 5 = .ok (.aload_n 0, 1) := by decide +kernel
theorem dX5_cordsOutOfOrder_6 : decode cX5_cordsOutOfOrder 6 = .ok (.getfield 43, 3) := by decide +kernel
theorem dX5_cordsOutOfOrder_9 : decode cX5_cordsOutOfOrder 9 = .ok (.getfield 53, 3) := by decide +kernel
theorem dX5_cordsOutOfOrder_12 : decode cX5_cordsOutOfOrder 12 = .ok (.if_icmp .ge 52, 3) := by decide +kernel
theorem dX5_cordsOutOfOrder_15 : decode cX5_cordsOutOfOrder 15 = .ok (.aload_n 0, 1) := by decide +kernel
theorem dX5_cordsOutOfOrder_16 : decode cX5_cordsOutOfOrder 16 = .ok (.iload_n 2, 1) := by decide +kernel
theorem dX5_cordsOutOfOrder_17 : decode cX5_cordsOutOfOrder 17 = .ok (.invokevirtual 105, 3) := by decide +kernel
theorem dX5_cordsOutOfOrder_20 : decode cX5_cordsOutOfOrder 20 = .ok (.istore_n 3, 1) := by decide +kernel
theorem dX5_cordsOutOfOrder_21 : decode cX5_cordsOutOfOrder 21 = .ok (.iload_n 3, 1) := by decide +kernel
theorem dX5_cordsOutOfOrder_22 : decode cX5_cordsOutOfOrder 22 = .ok (.ifCond .lt 20, 3) := by decide +kernel
theorem dX5_cordsOutOfOrder_25 : decode cX5_cordsOutOfOrder 25 = .ok (.aload_n 0, 1) := by decide +kernel
theorem dX5_cordsOutOfOrder_26 : decode cX5_cordsOutOfOrder 26 = .ok (.iload_n 2, 1) := by decide +kernel
theorem dX5_cordsOutOfOrder_27 : decode cX5_cordsOutOfOrder 27 = .ok (.invokevirtual 96, 3) := by decide +kernel
theorem dX5_cordsOutOfOrder_30 : decode cX5_cordsOutOfOrder 30 = .ok (.aload_n 0, 1) := by decide +kernel
theorem dX5_cordsOutOfOrder_31 : decode cX5_cordsOutOfOrder 31 = .ok (.iload_n 3, 1) := by decide +kernel
theorem dX5_cordsOutOfOrder_32 : decode cX5_cordsOutOfOrder 32 = .ok (.invokevirtual 96, 3) := by decide +kernel
theorem dX5_cordsOutOfOrder_35 : decode cX5_cordsOutOfOrder 35 = .ok (.if_icmp .ge 7, 3) := by decide +kernel
theorem dX5_cordsOutOfOrder_38 : decode cX5_cordsOutOfOrder 38 = .ok (.iconst 1, 1) := by decide +kernel
theorem dX5_cordsOutOfOrder_39 : decode cX5_cordsOutOfOrder 39 = .ok (.goto 4, 3) := by decide +kernel
theorem dX5_cordsOutOfOrder_42 : decode cX5_cordsOutOfOrder 42 = .ok (.iconst 0, 1) := by decide +kernel
theorem dX5_cordsOutOfOrder_43 : decode cX5_cordsOutOfOrder 43 = .ok (.istore 4, 2) := by decide +kernel
theorem dX5_cordsOutOfOrder_45 : decode cX5_cordsOutOfOrder 45 = .ok (.iload_n 1, 1) := by decide +kernel
theorem dX5_cordsOutOfOrder_46 : decode cX5_cordsOutOfOrder 46 = .ok (.iload 4, 2) := by decide +kernel
theorem dX5_cordsOutOfOrder_48 : decode cX5_cordsOutOfOrder 48 = .ok (.ifCond .eq 7, 3) := by decide +kernel
theorem dX5_cordsOutOfOrder_51 : decode cX5_cordsOutOfOrder 51 = .ok (.iconst 1, 1) := by decide +kernel
theorem dX5_cordsOutOfOrder_52 : decode cX5_cordsOutOfOrder 52 = .ok (.goto 4, 3) := by decide +kernel
theorem dX5_cordsOutOfOrder_55 : decode cX5_cordsOutOfOrder 55 = .ok (.iconst 0, 1) := by decide +kernel
theorem dX5_cordsOutOfOrder_56 : decode cX5_cordsOutOfOrder 56 = .ok (.iadd, 1) := by decide +kernel
theorem dX5_cordsOutOfOrder_57 : decode cX5_cordsOutOfOrder 57 = .ok (.istore_n 1, 1) := by decide +kernel
theorem dX5_cordsOutOfOrder_58 : decode cX5_cordsOutOfOrder 58 = .ok (.iinc 2 1, 3) := by decide +kernel
theorem dX5_cordsOutOfOrder_61 : decode cX5_cordsOutOfOrder 61 = .ok (.goto (-57), 3) := by decide +kernel
theorem dX5_cordsOutOfOrder_64 : decode cX5_cordsOutOfOrder 64 = .ok (.iload_n 1, 1) := by decide +kernel
theorem dX5_cordsOutOfOrder_65 : decode cX5_cordsOutOfOrder 65 = .ok (.ireturn, 1) := by decide +kernel
theorem dX5_neighbourAhead_0 : decode cX5_neighbourAhead 0 = .ok (.iload_n 1, 1) := by decide +kernel
theorem dX5_neighbourAhead_1 : decode cX5_neighbourAhead 1 = .ok (.iconst 1, 1) := by decide +kernel
theorem dX5_neighbourAhead_2 : decode cX5_neighbourAhead 2 = .ok (.isub, 1) := by decide +kernel
theorem dX5_neighbourAhead_3 : decode cX5_neighbourAhead 3 = .ok (.istore_n 2, 1) := by decide +kernel
theorem dX5_neighbourAhead_4 : decode cX5_neighbourAhead 4 = .ok (.iload_n 2, 1) := by decide +kernel
theorem dX5_neighbourAhead_5 : decode cX5_neighbourAhead 5 = .ok (.ifCond .lt 26, 3) := by decide +kernel
theorem dX5_neighbourAhead_8 : decode cX5_neighbourAhead 8 = .ok (.aload_n 0, 1) := by decide +kernel
theorem dX5_neighbourAhead_9 : decode cX5_neighbourAhead 9 = .ok (.getfield 25, 3) := by decide +kernel
theorem dX5_neighbourAhead_12 : decode cX5_neighbourAhead 12 = .ok (.iload_n 2, 1) := by decide +kernel
theorem dX5_neighbourAhead_13 : decode cX5_neighbourAhead 13 = .ok (.iaload, 1) := by decide +kernel
theorem dX5_neighbourAhead_14 : decode cX5_neighbourAhead 14 = .ok (.aload_n 0, 1) := by decide +kernel
theorem dX5_neighbourAhead_15 : decode cX5_neighbourAhead 15 = .ok (.getfield 25, 3) := by decide +kernel
theorem dX5_neighbourAhead_18 : decode cX5_neighbourAhead 18 = .ok (.iload_n 1, 1) := by decide +kernel
theorem dX5_neighbourAhead_19 : decode cX5_neighbourAhead 19 = .ok (.iaload, 1) := by decide +kernel
theorem dX5_neighbourAhead_20 : decode cX5_neighbourAhead 20 = .ok (.if_icmp .ne 5, 3) := by decide +kernel
theorem dX5_neighbourAhead_23 : decode cX5_neighbourAhead 23 = .ok (.iload_n 2, 1) := by decide +kernel
theorem dX5_neighbourAhead_24 : decode cX5_neighbourAhead 24 = .ok (.ireturn, 1) := by decide +kernel
theorem dX5_neighbourAhead_25 : decode cX5_neighbourAhead 25 = .ok (.iinc 2 (-1), 3) := by decide +kernel
theorem dX5_neighbourAhead_28 : decode cX5_neighbourAhead 28 = .ok (.goto (-24), 3) := by decide +kernel
theorem dX5_neighbourAhead_31 : decode cX5_neighbourAhead 31 = .ok (.iconst (-1), 1) := by decide +kernel
theorem dX5_neighbourAhead_32 : decode cX5_neighbourAhead 32 = .ok (.ireturn, 1) := by decide +kernel
theorem dX5_countedBelow_0 : decode cX5_countedBelow 0 = .ok (.iconst 0, 1) := by decide +kernel
theorem dX5_countedBelow_1 : decode cX5_countedBelow 1 = .ok (.istore_n 2, 1) := by decide +kernel
theorem dX5_countedBelow_2 : decode cX5_countedBelow 2 = .ok (.iconst 0, 1) := by decide +kernel
theorem dX5_countedBelow_3 : decode cX5_countedBelow 3 = .ok (.istore_n 3, 1) := by decide +kernel
theorem dX5_countedBelow_4 : decode cX5_countedBelow 4 = .ok (.iload_n 3, 1) := by decide +kernel
theorem dX5_countedBelow_5 : decode cX5_countedBelow 5 = .ok (.aload_n 0, 1) := by decide +kernel
theorem dX5_countedBelow_6 : decode cX5_countedBelow 6 = .ok (.getfield 43, 3) := by decide +kernel
theorem dX5_countedBelow_9 : decode cX5_countedBelow 9 = .ok (.getfield 108, 3) := by decide +kernel
theorem dX5_countedBelow_12 : decode cX5_countedBelow 12 = .ok (.iload_n 1, 1) := by decide +kernel
theorem dX5_countedBelow_13 : decode cX5_countedBelow 13 = .ok (.iaload, 1) := by decide +kernel
theorem dX5_countedBelow_14 : decode cX5_countedBelow 14 = .ok (.if_icmp .ge 48, 3) := by decide +kernel
theorem dX5_countedBelow_17 : decode cX5_countedBelow 17 = .ok (.aload_n 0, 1) := by decide +kernel
theorem dX5_countedBelow_18 : decode cX5_countedBelow 18 = .ok (.getfield 43, 3) := by decide +kernel
theorem dX5_countedBelow_21 : decode cX5_countedBelow 21 = .ok (.getfield 111, 3) := by decide +kernel
theorem dX5_countedBelow_24 : decode cX5_countedBelow 24 = .ok (.iload_n 1, 1) := by decide +kernel
theorem dX5_countedBelow_25 : decode cX5_countedBelow 25 = .ok (.aaload, 1) := by decide +kernel
theorem dX5_countedBelow_26 : decode cX5_countedBelow 26 = .ok (.iload_n 3, 1) := by decide +kernel
theorem dX5_countedBelow_27 : decode cX5_countedBelow 27 = .ok (.iaload, 1) := by decide +kernel
theorem dX5_countedBelow_28 : decode cX5_countedBelow 28 = .ok (.istore 4, 2) := by decide +kernel
theorem dX5_countedBelow_30 : decode cX5_countedBelow 30 = .ok (.iload_n 2, 1) := by decide +kernel
theorem dX5_countedBelow_31 : decode cX5_countedBelow 31 = .ok (.aload_n 0, 1) := by decide +kernel
theorem dX5_countedBelow_32 : decode cX5_countedBelow 32 = .ok (.getfield 43, 3) := by decide +kernel
theorem dX5_countedBelow_35 : decode cX5_countedBelow 35 = .ok (.iload 4, 2) := by decide +kernel
theorem dX5_countedBelow_37 : decode cX5_countedBelow 37 = .ok (.invokevirtual 72, 3) := by decide +kernel
theorem dX5_countedBelow_40 : decode cX5_countedBelow 40 = .ok (.ifCond .eq 13, 3) := by decide +kernel
theorem dX5_countedBelow_43 : decode cX5_countedBelow 43 = .ok (.aload_n 0, 1) := by decide +kernel
theorem dX5_countedBelow_44 : decode cX5_countedBelow 44 = .ok (.getfield 31, 3) := by decide +kernel
theorem dX5_countedBelow_47 : decode cX5_countedBelow 47 = .ok (.iload 4, 2) := by decide +kernel
theorem dX5_countedBelow_49 : decode cX5_countedBelow 49 = .ok (.iaload, 1) := by decide +kernel
theorem dX5_countedBelow_50 : decode cX5_countedBelow 50 = .ok (.goto 4, 3) := by decide +kernel
theorem dX5_countedBelow_53 : decode cX5_countedBelow 53 = .ok (.iconst 0, 1) := by decide +kernel
theorem dX5_countedBelow_54 : decode cX5_countedBelow 54 = .ok (.iadd, 1) := by decide +kernel
theorem dX5_countedBelow_55 : decode cX5_countedBelow 55 = .ok (.istore_n 2, 1) := by decide +kernel
theorem dX5_countedBelow_56 : decode cX5_countedBelow 56 = .ok (.iinc 3 1, 3) := by decide +kernel
theorem dX5_countedBelow_59 : decode cX5_countedBelow 59 = .ok (.goto (-55), 3) := by decide +kernel
theorem dX5_countedBelow_62 : decode cX5_countedBelow 62 = .ok (.iload_n 2, 1) := by decide +kernel
theorem dX5_countedBelow_63 : decode cX5_countedBelow 63 = .ok (.ireturn, 1) := by decide +kernel
theorem dX5_isWrong_0 : decode cX5_isWrong 0 = .ok (.aload_n 0, 1) := by decide +kernel
theorem dX5_isWrong_1 : decode cX5_isWrong 1 = .ok (.getfield 34, 3) := by decide +kernel
theorem dX5_isWrong_4 : decode cX5_isWrong 4 = .ok (.iload_n 1, 1) := by decide +kernel
theorem dX5_isWrong_5 : decode cX5_isWrong 5 = .ok (.iaload, 1) := by decide +kernel
theorem dX5_isWrong_6 : decode cX5_isWrong 6 = .ok (.aload_n 0, 1) := by decide +kernel
theorem dX5_isWrong_7 : decode cX5_isWrong 7 = .ok (.iload_n 1, 1) := by decide +kernel
theorem dX5_isWrong_8 : decode cX5_isWrong 8 = .ok (.invokevirtual 115, 3) := by decide +kernel
theorem dX5_isWrong_11 : decode cX5_isWrong 11 = .ok (.if_icmp .eq 7, 3) := by decide +kernel
theorem dX5_isWrong_14 : decode cX5_isWrong 14 = .ok (.iconst 1, 1) := by decide +kernel
theorem dX5_isWrong_15 : decode cX5_isWrong 15 = .ok (.goto 4, 3) := by decide +kernel
theorem dX5_isWrong_18 : decode cX5_isWrong 18 = .ok (.iconst 0, 1) := by decide +kernel
theorem dX5_isWrong_19 : decode cX5_isWrong 19 = .ok (.ireturn, 1) := by decide +kernel
theorem dX5_wrongTops_0 : decode cX5_wrongTops 0 = .ok (.iconst 0, 1) := by decide +kernel
theorem dX5_wrongTops_1 : decode cX5_wrongTops 1 = .ok (.istore_n 1, 1) := by decide +kernel
theorem dX5_wrongTops_2 : decode cX5_wrongTops 2 = .ok (.iconst 0, 1) := by decide +kernel
theorem dX5_wrongTops_3 : decode cX5_wrongTops 3 = .ok (.istore_n 2, 1) := by decide +kernel
theorem dX5_wrongTops_4 : decode cX5_wrongTops 4 = .ok (.iload_n 2, 1) := by decide +kernel
theorem dX5_wrongTops_5 : decode cX5_wrongTops 5 = .ok (.aload_n 0, 1) := by decide +kernel
theorem dX5_wrongTops_6 : decode cX5_wrongTops 6 = .ok (.getfield 43, 3) := by decide +kernel
theorem dX5_wrongTops_9 : decode cX5_wrongTops 9 = .ok (.getfield 118, 3) := by decide +kernel
theorem dX5_wrongTops_12 : decode cX5_wrongTops 12 = .ok (.if_icmp .ge 25, 3) := by decide +kernel
theorem dX5_wrongTops_15 : decode cX5_wrongTops 15 = .ok (.iload_n 1, 1) := by decide +kernel
theorem dX5_wrongTops_16 : decode cX5_wrongTops 16 = .ok (.aload_n 0, 1) := by decide +kernel
theorem dX5_wrongTops_17 : decode cX5_wrongTops 17 = .ok (.iload_n 2, 1) := by decide +kernel
theorem dX5_wrongTops_18 : decode cX5_wrongTops 18 = .ok (.invokevirtual 121, 3) := by decide +kernel
theorem dX5_wrongTops_21 : decode cX5_wrongTops 21 = .ok (.ifCond .eq 7, 3) := by decide +kernel
theorem dX5_wrongTops_24 : decode cX5_wrongTops 24 = .ok (.iconst 1, 1) := by decide +kernel
theorem dX5_wrongTops_25 : decode cX5_wrongTops 25 = .ok (.goto 4, 3) := by decide +kernel
theorem dX5_wrongTops_28 : decode cX5_wrongTops 28 = .ok (.iconst 0, 1) := by decide +kernel
theorem dX5_wrongTops_29 : decode cX5_wrongTops 29 = .ok (.iadd, 1) := by decide +kernel
theorem dX5_wrongTops_30 : decode cX5_wrongTops 30 = .ok (.istore_n 1, 1) := by decide +kernel
theorem dX5_wrongTops_31 : decode cX5_wrongTops 31 = .ok (.iinc 2 1, 3) := by decide +kernel
theorem dX5_wrongTops_34 : decode cX5_wrongTops 34 = .ok (.goto (-30), 3) := by decide +kernel
theorem dX5_wrongTops_37 : decode cX5_wrongTops 37 = .ok (.iload_n 1, 1) := by decide +kernel
theorem dX5_wrongTops_38 : decode cX5_wrongTops 38 = .ok (.ireturn, 1) := by decide +kernel
theorem dX5_isTooTired_0 : decode cX5_isTooTired 0 = .ok (.aload_n 0, 1) := by decide +kernel
theorem dX5_isTooTired_1 : decode cX5_isTooTired 1 = .ok (.getfield 37, 3) := by decide +kernel
theorem dX5_isTooTired_4 : decode cX5_isTooTired 4 = .ok (.iload_n 1, 1) := by decide +kernel
theorem dX5_isTooTired_5 : decode cX5_isTooTired 5 = .ok (.iaload, 1) := by decide +kernel
theorem dX5_isTooTired_6 : decode cX5_isTooTired 6 = .ok (.iconst 5, 1) := by decide +kernel
theorem dX5_isTooTired_7 : decode cX5_isTooTired 7 = .ok (.aload_n 0, 1) := by decide +kernel
theorem dX5_isTooTired_8 : decode cX5_isTooTired 8 = .ok (.getfield 43, 3) := by decide +kernel
theorem dX5_isTooTired_11 : decode cX5_isTooTired 11 = .ok (.getfield 124, 3) := by decide +kernel
theorem dX5_isTooTired_14 : decode cX5_isTooTired 14 = .ok (.iload_n 1, 1) := by decide +kernel
theorem dX5_isTooTired_15 : decode cX5_isTooTired 15 = .ok (.iaload, 1) := by decide +kernel
theorem dX5_isTooTired_16 : decode cX5_isTooTired 16 = .ok (.imul, 1) := by decide +kernel
theorem dX5_isTooTired_17 : decode cX5_isTooTired 17 = .ok (.if_icmp .le 7, 3) := by decide +kernel
theorem dX5_isTooTired_20 : decode cX5_isTooTired 20 = .ok (.iconst 1, 1) := by decide +kernel
theorem dX5_isTooTired_21 : decode cX5_isTooTired 21 = .ok (.goto 4, 3) := by decide +kernel
theorem dX5_isTooTired_24 : decode cX5_isTooTired 24 = .ok (.iconst 0, 1) := by decide +kernel
theorem dX5_isTooTired_25 : decode cX5_isTooTired 25 = .ok (.ireturn, 1) := by decide +kernel
theorem dX5_carryOut_0 : decode cX5_carryOut 0 = .ok (.aload_n 0, 1) := by decide +kernel
theorem dX5_carryOut_1 : decode cX5_carryOut 1 = .ok (.getfield 43, 3) := by decide +kernel
theorem dX5_carryOut_4 : decode cX5_carryOut 4 = .ok (.getfield 127, 3) := by decide +kernel
theorem dX5_carryOut_7 : decode cX5_carryOut 7 = .ok (.iload_n 1, 1) := by decide +kernel
theorem dX5_carryOut_8 : decode cX5_carryOut 8 = .ok (.iaload, 1) := by decide +kernel
theorem dX5_carryOut_9 : decode cX5_carryOut 9 = .ok (.istore_n 3, 1) := by decide +kernel
theorem dX5_carryOut_10 : decode cX5_carryOut 10 = .ok (.aload_n 0, 1) := by decide +kernel
theorem dX5_carryOut_11 : decode cX5_carryOut 11 = .ok (.getfield 43, 3) := by decide +kernel
theorem dX5_carryOut_14 : decode cX5_carryOut 14 = .ok (.getfield 130, 3) := by decide +kernel
theorem dX5_carryOut_17 : decode cX5_carryOut 17 = .ok (.iload_n 1, 1) := by decide +kernel
theorem dX5_carryOut_18 : decode cX5_carryOut 18 = .ok (.iaload, 1) := by decide +kernel
theorem dX5_carryOut_19 : decode cX5_carryOut 19 = .ok (.istore 4, 2) := by decide +kernel
theorem dX5_carryOut_21 : decode cX5_carryOut 21 = .ok (.aload_n 0, 1) := by decide +kernel
theorem dX5_carryOut_22 : decode cX5_carryOut 22 = .ok (.getfield 43, 3) := by decide +kernel
theorem dX5_carryOut_25 : decode cX5_carryOut 25 = .ok (.getfield 133, 3) := by decide +kernel
theorem dX5_carryOut_28 : decode cX5_carryOut 28 = .ok (.iload_n 1, 1) := by decide +kernel
theorem dX5_carryOut_29 : decode cX5_carryOut 29 = .ok (.baload, 1) := by decide +kernel
theorem dX5_carryOut_30 : decode cX5_carryOut 30 = .ok (.istore 5, 2) := by decide +kernel
theorem dX5_carryOut_32 : decode cX5_carryOut 32 = .ok (.iload 5, 2) := by decide +kernel
theorem dX5_carryOut_34 : decode cX5_carryOut 34 = .ok (.ifCond .eq 15, 3) := by decide +kernel
theorem dX5_carryOut_37 : decode cX5_carryOut 37 = .ok (.aload_n 0, 1) := by decide +kernel
theorem dX5_carryOut_38 : decode cX5_carryOut 38 = .ok (.getfield 43, 3) := by decide +kernel
theorem dX5_carryOut_41 : decode cX5_carryOut 41 = .ok (.iload 4, 2) := by decide +kernel
theorem dX5_carryOut_43 : decode cX5_carryOut 43 = .ok (.invokevirtual 72, 3) := by decide +kernel
theorem dX5_carryOut_46 : decode cX5_carryOut 46 = .ok (.goto 12, 3) := by decide +kernel
theorem dX5_carryOut_49 : decode cX5_carryOut 49 = .ok (.aload_n 0, 1) := by decide +kernel
theorem dX5_carryOut_50 : decode cX5_carryOut 50 = .ok (.getfield 43, 3) := by decide +kernel
theorem dX5_carryOut_53 : decode cX5_carryOut 53 = .ok (.iload 4, 2) := by decide +kernel
theorem dX5_carryOut_55 : decode cX5_carryOut 55 = .ok (.invokevirtual 137, 3) := by decide +kernel
theorem dX5_carryOut_58 : decode cX5_carryOut 58 = .ok (.istore 6, 2) := by decide +kernel
theorem dX5_carryOut_60 : decode cX5_carryOut 60 = .ok (.iload 6, 2) := by decide +kernel
theorem dX5_carryOut_62 : decode cX5_carryOut 62 = .ok (.ifCond .eq 14, 3) := by decide +kernel
theorem dX5_carryOut_65 : decode cX5_carryOut 65 = .ok (.aload_n 0, 1) := by decide +kernel
theorem dX5_carryOut_66 : decode cX5_carryOut 66 = .ok (.getfield 43, 3) := by decide +kernel
theorem dX5_carryOut_69 : decode cX5_carryOut 69 = .ok (.iload_n 3, 1) := by decide +kernel
theorem dX5_carryOut_70 : decode cX5_carryOut 70 = .ok (.invokevirtual 140, 3) := by decide +kernel
theorem dX5_carryOut_73 : decode cX5_carryOut 73 = .ok (.ifCond .ne 4, 3) := by decide +kernel
theorem dX5_carryOut_76 : decode cX5_carryOut 76 = .ok (.return_, 1) := by decide +kernel
theorem dX5_carryOut_77 : decode cX5_carryOut 77 = .ok (.iload 5, 2) := by decide +kernel
theorem dX5_carryOut_79 : decode cX5_carryOut 79 = .ok (.ifCond .eq 17, 3) := by decide +kernel
theorem dX5_carryOut_82 : decode cX5_carryOut 82 = .ok (.iconst 0, 1) := by decide +kernel
theorem dX5_carryOut_83 : decode cX5_carryOut 83 = .ok (.sipush 9999, 3) := by decide +kernel
theorem dX5_carryOut_86 : decode cX5_carryOut 86 = .ok (.iload_n 2, 1) := by decide +kernel
theorem dX5_carryOut_87 : decode cX5_carryOut 87 = .ok (.invokestatic 143, 3) := by decide +kernel
theorem dX5_carryOut_90 : decode cX5_carryOut 90 = .ok (.invokestatic 84, 3) := by decide +kernel
theorem dX5_carryOut_93 : decode cX5_carryOut 93 = .ok (.goto 9, 3) := by decide +kernel
theorem dX5_carryOut_96 : decode cX5_carryOut 96 = .ok (.aload_n 0, 1) := by decide +kernel
theorem dX5_carryOut_97 : decode cX5_carryOut 97 = .ok (.iload 4, 2) := by decide +kernel
theorem dX5_carryOut_99 : decode cX5_carryOut 99 = .ok (.invokevirtual 115, 3) := by decide +kernel
theorem dX5_carryOut_102 : decode cX5_carryOut 102 = .ok (.istore 7, 2) := by decide +kernel
theorem dX5_carryOut_104 : decode cX5_carryOut 104 = .ok (.aload_n 0, 1) := by decide +kernel
theorem dX5_carryOut_105 : decode cX5_carryOut 105 = .ok (.iload_n 3, 1) := by decide +kernel
theorem dX5_carryOut_106 : decode cX5_carryOut 106 = .ok (.invokevirtual 146, 3) := by decide +kernel
theorem dX5_carryOut_109 : decode cX5_carryOut 109 = .ok (.ifCond .eq 13, 3) := by decide +kernel
theorem dX5_carryOut_112 : decode cX5_carryOut 112 = .ok (.iload 7, 2) := by decide +kernel
theorem dX5_carryOut_114 : decode cX5_carryOut 114 = .ok (.iload 7, 2) := by decide +kernel
theorem dX5_carryOut_116 : decode cX5_carryOut 116 = .ok (.bipush 10, 2) := by decide +kernel
theorem dX5_carryOut_118 : decode cX5_carryOut 118 = .ok (.irem, 1) := by decide +kernel
theorem dX5_carryOut_119 : decode cX5_carryOut 119 = .ok (.isub, 1) := by decide +kernel
theorem dX5_carryOut_120 : decode cX5_carryOut 120 = .ok (.istore 7, 2) := by decide +kernel
theorem dX5_carryOut_122 : decode cX5_carryOut 122 = .ok (.iload 5, 2) := by decide +kernel
theorem dX5_carryOut_124 : decode cX5_carryOut 124 = .ok (.ifCond .eq 14, 3) := by decide +kernel
theorem dX5_carryOut_127 : decode cX5_carryOut 127 = .ok (.aload_n 0, 1) := by decide +kernel
theorem dX5_carryOut_128 : decode cX5_carryOut 128 = .ok (.iload 4, 2) := by decide +kernel
theorem dX5_carryOut_130 : decode cX5_carryOut 130 = .ok (.iload 7, 2) := by decide +kernel
theorem dX5_carryOut_132 : decode cX5_carryOut 132 = .ok (.invokevirtual 59, 3) := by decide +kernel
theorem dX5_carryOut_135 : decode cX5_carryOut 135 = .ok (.goto 12, 3) := by decide +kernel
theorem dX5_carryOut_138 : decode cX5_carryOut 138 = .ok (.aload_n 0, 1) := by decide +kernel
theorem dX5_carryOut_139 : decode cX5_carryOut 139 = .ok (.getfield 34, 3) := by decide +kernel
theorem dX5_carryOut_142 : decode cX5_carryOut 142 = .ok (.iload 4, 2) := by decide +kernel
theorem dX5_carryOut_144 : decode cX5_carryOut 144 = .ok (.iload 7, 2) := by decide +kernel
theorem dX5_carryOut_146 : decode cX5_carryOut 146 = .ok (.iastore, 1) := by decide +kernel
theorem dX5_carryOut_147 : decode cX5_carryOut 147 = .ok (.aload_n 0, 1) := by decide +kernel
theorem dX5_carryOut_148 : decode cX5_carryOut 148 = .ok (.getfield 37, 3) := by decide +kernel
theorem dX5_carryOut_151 : decode cX5_carryOut 151 = .ok (.iload_n 3, 1) := by decide +kernel
theorem dX5_carryOut_152 : decode cX5_carryOut 152 = .ok (.dup2, 1) := by decide +kernel
theorem dX5_carryOut_153 : decode cX5_carryOut 153 = .ok (.iaload, 1) := by decide +kernel
theorem dX5_carryOut_154 : decode cX5_carryOut 154 = .ok (.iconst 1, 1) := by decide +kernel
theorem dX5_carryOut_155 : decode cX5_carryOut 155 = .ok (.iload 7, 2) := by decide +kernel
theorem dX5_carryOut_157 : decode cX5_carryOut 157 = .ok (.invokestatic 149, 3) := by decide +kernel
theorem dX5_carryOut_160 : decode cX5_carryOut 160 = .ok (.iconst 4, 1) := by decide +kernel
theorem dX5_carryOut_161 : decode cX5_carryOut 161 = .ok (.idiv, 1) := by decide +kernel
theorem dX5_carryOut_162 : decode cX5_carryOut 162 = .ok (.iadd, 1) := by decide +kernel
theorem dX5_carryOut_163 : decode cX5_carryOut 163 = .ok (.iadd, 1) := by decide +kernel
theorem dX5_carryOut_164 : decode cX5_carryOut 164 = .ok (.iastore, 1) := by decide +kernel
theorem dX5_carryOut_165 : decode cX5_carryOut 165 = .ok (.aload_n 0, 1) := by decide +kernel
theorem dX5_carryOut_166 : decode cX5_carryOut 166 = .ok (.getfield 40, 3) := by decide +kernel
theorem dX5_carryOut_169 : decode cX5_carryOut 169 = .ok (.iload_n 3, 1) := by decide +kernel
theorem dX5_carryOut_170 : decode cX5_carryOut 170 = .ok (.dup2, 1) := by decide +kernel
theorem dX5_carryOut_171 : decode cX5_carryOut 171 = .ok (.iaload, 1) := by decide +kernel
theorem dX5_carryOut_172 : decode cX5_carryOut 172 = .ok (.iconst 1, 1) := by decide +kernel
theorem dX5_carryOut_173 : decode cX5_carryOut 173 = .ok (.iadd, 1) := by decide +kernel
theorem dX5_carryOut_174 : decode cX5_carryOut 174 = .ok (.iastore, 1) := by decide +kernel
theorem dX5_carryOut_175 : decode cX5_carryOut 175 = .ok (.aload_n 0, 1) := by decide +kernel
theorem dX5_carryOut_176 : decode cX5_carryOut 176 = .ok (.dup, 1) := by decide +kernel
theorem dX5_carryOut_177 : decode cX5_carryOut 177 = .ok (.getfield 13, 3) := by decide +kernel
theorem dX5_carryOut_180 : decode cX5_carryOut 180 = .ok (.iconst 1, 1) := by decide +kernel
theorem dX5_carryOut_181 : decode cX5_carryOut 181 = .ok (.iadd, 1) := by decide +kernel
theorem dX5_carryOut_182 : decode cX5_carryOut 182 = .ok (.putfield 13, 3) := by decide +kernel
theorem dX5_carryOut_185 : decode cX5_carryOut 185 = .ok (.return_, 1) := by decide +kernel
theorem dX5_endMonth_0 : decode cX5_endMonth 0 = .ok (.iconst 0, 1) := by decide +kernel
theorem dX5_endMonth_1 : decode cX5_endMonth 1 = .ok (.istore_n 1, 1) := by decide +kernel
theorem dX5_endMonth_2 : decode cX5_endMonth 2 = .ok (.iload_n 1, 1) := by decide +kernel
theorem dX5_endMonth_3 : decode cX5_endMonth 3 = .ok (.aload_n 0, 1) := by decide +kernel
theorem dX5_endMonth_4 : decode cX5_endMonth 4 = .ok (.getfield 43, 3) := by decide +kernel
theorem dX5_endMonth_7 : decode cX5_endMonth 7 = .ok (.getfield 154, 3) := by decide +kernel
theorem dX5_endMonth_10 : decode cX5_endMonth 10 = .ok (.if_icmp .ge 35, 3) := by decide +kernel
theorem dX5_endMonth_13 : decode cX5_endMonth 13 = .ok (.aload_n 0, 1) := by decide +kernel
theorem dX5_endMonth_14 : decode cX5_endMonth 14 = .ok (.getfield 37, 3) := by decide +kernel
theorem dX5_endMonth_17 : decode cX5_endMonth 17 = .ok (.iload_n 1, 1) := by decide +kernel
theorem dX5_endMonth_18 : decode cX5_endMonth 18 = .ok (.iconst 0, 1) := by decide +kernel
theorem dX5_endMonth_19 : decode cX5_endMonth 19 = .ok (.aload_n 0, 1) := by decide +kernel
theorem dX5_endMonth_20 : decode cX5_endMonth 20 = .ok (.getfield 37, 3) := by decide +kernel
theorem dX5_endMonth_23 : decode cX5_endMonth 23 = .ok (.iload_n 1, 1) := by decide +kernel
theorem dX5_endMonth_24 : decode cX5_endMonth 24 = .ok (.iaload, 1) := by decide +kernel
theorem dX5_endMonth_25 : decode cX5_endMonth 25 = .ok (.aload_n 0, 1) := by decide +kernel
theorem dX5_endMonth_26 : decode cX5_endMonth 26 = .ok (.getfield 43, 3) := by decide +kernel
theorem dX5_endMonth_29 : decode cX5_endMonth 29 = .ok (.getfield 124, 3) := by decide +kernel
theorem dX5_endMonth_32 : decode cX5_endMonth 32 = .ok (.iload_n 1, 1) := by decide +kernel
theorem dX5_endMonth_33 : decode cX5_endMonth 33 = .ok (.iaload, 1) := by decide +kernel
theorem dX5_endMonth_34 : decode cX5_endMonth 34 = .ok (.isub, 1) := by decide +kernel
theorem dX5_endMonth_35 : decode cX5_endMonth 35 = .ok (.invokestatic 84, 3) := by decide +kernel
theorem dX5_endMonth_38 : decode cX5_endMonth 38 = .ok (.iastore, 1) := by decide +kernel
theorem dX5_endMonth_39 : decode cX5_endMonth 39 = .ok (.iinc 1 1, 3) := by decide +kernel
theorem dX5_endMonth_42 : decode cX5_endMonth 42 = .ok (.goto (-40), 3) := by decide +kernel
theorem dX5_endMonth_45 : decode cX5_endMonth 45 = .ok (.aload_n 0, 1) := by decide +kernel
theorem dX5_endMonth_46 : decode cX5_endMonth 46 = .ok (.getfield 7, 3) := by decide +kernel
theorem dX5_endMonth_49 : decode cX5_endMonth 49 = .ok (.bipush 6, 2) := by decide +kernel
theorem dX5_endMonth_51 : decode cX5_endMonth 51 = .ok (.irem, 1) := by decide +kernel
theorem dX5_endMonth_52 : decode cX5_endMonth 52 = .ok (.ifCond .ne 7, 3) := by decide +kernel
theorem dX5_endMonth_55 : decode cX5_endMonth 55 = .ok (.aload_n 0, 1) := by decide +kernel
theorem dX5_endMonth_56 : decode cX5_endMonth 56 = .ok (.invokevirtual 157, 3) := by decide +kernel
theorem dX5_endMonth_59 : decode cX5_endMonth 59 = .ok (.aload_n 0, 1) := by decide +kernel
theorem dX5_endMonth_60 : decode cX5_endMonth 60 = .ok (.dup, 1) := by decide +kernel
theorem dX5_endMonth_61 : decode cX5_endMonth 61 = .ok (.getfield 7, 3) := by decide +kernel
theorem dX5_endMonth_64 : decode cX5_endMonth 64 = .ok (.iconst 1, 1) := by decide +kernel
theorem dX5_endMonth_65 : decode cX5_endMonth 65 = .ok (.iadd, 1) := by decide +kernel
theorem dX5_endMonth_66 : decode cX5_endMonth 66 = .ok (.putfield 7, 3) := by decide +kernel
theorem dX5_endMonth_69 : decode cX5_endMonth 69 = .ok (.return_, 1) := by decide +kernel
theorem dX5_letMothsEat_0 : decode cX5_letMothsEat 0 = .ok (.iconst (-1), 1) := by decide +kernel
theorem dX5_letMothsEat_1 : decode cX5_letMothsEat 1 = .ok (.istore_n 1, 1) := by decide +kernel
theorem dX5_letMothsEat_2 : decode cX5_letMothsEat 2 = .ok (.iconst 0, 1) := by decide +kernel
theorem dX5_letMothsEat_3 : decode cX5_letMothsEat 3 = .ok (.istore_n 2, 1) := by decide +kernel
theorem dX5_letMothsEat_4 : decode cX5_letMothsEat 4 = .ok (.iconst 0, 1) := by decide +kernel
theorem dX5_letMothsEat_5 : decode cX5_letMothsEat 5 = .ok (.istore_n 3, 1) := by decide +kernel
theorem dX5_letMothsEat_6 : decode cX5_letMothsEat 6 = .ok (.iload_n 3, 1) := by decide +kernel
theorem dX5_letMothsEat_7 : decode cX5_letMothsEat 7 = .ok (.aload_n 0, 1) := by decide +kernel
theorem dX5_letMothsEat_8 : decode cX5_letMothsEat 8 = .ok (.getfield 43, 3) := by decide +kernel
theorem dX5_letMothsEat_11 : decode cX5_letMothsEat 11 = .ok (.getfield 53, 3) := by decide +kernel
theorem dX5_letMothsEat_14 : decode cX5_letMothsEat 14 = .ok (.if_icmp .ge 31, 3) := by decide +kernel
theorem dX5_letMothsEat_17 : decode cX5_letMothsEat 17 = .ok (.aload_n 0, 1) := by decide +kernel
theorem dX5_letMothsEat_18 : decode cX5_letMothsEat 18 = .ok (.getfield 28, 3) := by decide +kernel
theorem dX5_letMothsEat_21 : decode cX5_letMothsEat 21 = .ok (.iload_n 3, 1) := by decide +kernel
theorem dX5_letMothsEat_22 : decode cX5_letMothsEat 22 = .ok (.iaload, 1) := by decide +kernel
theorem dX5_letMothsEat_23 : decode cX5_letMothsEat 23 = .ok (.invokestatic 160, 3) := by decide +kernel
theorem dX5_letMothsEat_26 : decode cX5_letMothsEat 26 = .ok (.istore 4, 2) := by decide +kernel
theorem dX5_letMothsEat_28 : decode cX5_letMothsEat 28 = .ok (.iload 4, 2) := by decide +kernel
theorem dX5_letMothsEat_30 : decode cX5_letMothsEat 30 = .ok (.iload_n 2, 1) := by decide +kernel
theorem dX5_letMothsEat_31 : decode cX5_letMothsEat 31 = .ok (.if_icmp .le 8, 3) := by decide +kernel
theorem dX5_letMothsEat_34 : decode cX5_letMothsEat 34 = .ok (.iload 4, 2) := by decide +kernel
theorem dX5_letMothsEat_36 : decode cX5_letMothsEat 36 = .ok (.istore_n 2, 1) := by decide +kernel
theorem dX5_letMothsEat_37 : decode cX5_letMothsEat 37 = .ok (.iload_n 3, 1) := by decide +kernel
theorem dX5_letMothsEat_38 : decode cX5_letMothsEat 38 = .ok (.istore_n 1, 1) := by decide +kernel
theorem dX5_letMothsEat_39 : decode cX5_letMothsEat 39 = .ok (.iinc 3 1, 3) := by decide +kernel
theorem dX5_letMothsEat_42 : decode cX5_letMothsEat 42 = .ok (.goto (-36), 3) := by decide +kernel
theorem dX5_letMothsEat_45 : decode cX5_letMothsEat 45 = .ok (.iload_n 1, 1) := by decide +kernel
theorem dX5_letMothsEat_46 : decode cX5_letMothsEat 46 = .ok (.ifCond .lt 27, 3) := by decide +kernel
theorem dX5_letMothsEat_49 : decode cX5_letMothsEat 49 = .ok (.aload_n 0, 1) := by decide +kernel
theorem dX5_letMothsEat_50 : decode cX5_letMothsEat 50 = .ok (.iload_n 1, 1) := by decide +kernel
theorem dX5_letMothsEat_51 : decode cX5_letMothsEat 51 = .ok (.aload_n 0, 1) := by decide +kernel
theorem dX5_letMothsEat_52 : decode cX5_letMothsEat 52 = .ok (.getfield 28, 3) := by decide +kernel
theorem dX5_letMothsEat_55 : decode cX5_letMothsEat 55 = .ok (.iload_n 1, 1) := by decide +kernel
theorem dX5_letMothsEat_56 : decode cX5_letMothsEat 56 = .ok (.iaload, 1) := by decide +kernel
theorem dX5_letMothsEat_57 : decode cX5_letMothsEat 57 = .ok (.invokestatic 163, 3) := by decide +kernel
theorem dX5_letMothsEat_60 : decode cX5_letMothsEat 60 = .ok (.invokevirtual 59, 3) := by decide +kernel
theorem dX5_letMothsEat_63 : decode cX5_letMothsEat 63 = .ok (.aload_n 0, 1) := by decide +kernel
theorem dX5_letMothsEat_64 : decode cX5_letMothsEat 64 = .ok (.dup, 1) := by decide +kernel
theorem dX5_letMothsEat_65 : decode cX5_letMothsEat 65 = .ok (.getfield 16, 3) := by decide +kernel
theorem dX5_letMothsEat_68 : decode cX5_letMothsEat 68 = .ok (.iconst 1, 1) := by decide +kernel
theorem dX5_letMothsEat_69 : decode cX5_letMothsEat 69 = .ok (.iadd, 1) := by decide +kernel
theorem dX5_letMothsEat_70 : decode cX5_letMothsEat 70 = .ok (.putfield 16, 3) := by decide +kernel
theorem dX5_letMothsEat_73 : decode cX5_letMothsEat 73 = .ok (.return_, 1) := by decide +kernel
theorem dX5_countTells_0 : decode cX5_countTells 0 = .ok (.iload_n 1, 1) := by decide +kernel
theorem dX5_countTells_1 : decode cX5_countTells 1 = .ok (.tableswitch 129 0 10 #[59, 64, 72, 80, 88, 96, 104, 109, 114, 119, 124], 59) := by decide +kernel
theorem dX5_countTells_60 : decode cX5_countTells 60 = .ok (.aload_n 0, 1) := by decide +kernel
theorem dX5_countTells_61 : decode cX5_countTells 61 = .ok (.getfield 7, 3) := by decide +kernel
theorem dX5_countTells_64 : decode cX5_countTells 64 = .ok (.ireturn, 1) := by decide +kernel
theorem dX5_countTells_65 : decode cX5_countTells 65 = .ok (.aload_n 0, 1) := by decide +kernel
theorem dX5_countTells_66 : decode cX5_countTells 66 = .ok (.getfield 43, 3) := by decide +kernel
theorem dX5_countTells_69 : decode cX5_countTells 69 = .ok (.getfield 165, 3) := by decide +kernel
theorem dX5_countTells_72 : decode cX5_countTells 72 = .ok (.ireturn, 1) := by decide +kernel
theorem dX5_countTells_73 : decode cX5_countTells 73 = .ok (.aload_n 0, 1) := by decide +kernel
theorem dX5_countTells_74 : decode cX5_countTells 74 = .ok (.getfield 43, 3) := by decide +kernel
theorem dX5_countTells_77 : decode cX5_countTells 77 = .ok (.getfield 53, 3) := by decide +kernel
theorem dX5_countTells_80 : decode cX5_countTells 80 = .ok (.ireturn, 1) := by decide +kernel
theorem dX5_countTells_81 : decode cX5_countTells 81 = .ok (.aload_n 0, 1) := by decide +kernel
theorem dX5_countTells_82 : decode cX5_countTells 82 = .ok (.getfield 43, 3) := by decide +kernel
theorem dX5_countTells_85 : decode cX5_countTells 85 = .ok (.getfield 118, 3) := by decide +kernel
theorem dX5_countTells_88 : decode cX5_countTells 88 = .ok (.ireturn, 1) := by decide +kernel
theorem dX5_countTells_89 : decode cX5_countTells 89 = .ok (.aload_n 0, 1) := by decide +kernel
theorem dX5_countTells_90 : decode cX5_countTells 90 = .ok (.getfield 43, 3) := by decide +kernel
theorem dX5_countTells_93 : decode cX5_countTells 93 = .ok (.getfield 154, 3) := by decide +kernel
theorem dX5_countTells_96 : decode cX5_countTells 96 = .ok (.ireturn, 1) := by decide +kernel
theorem dX5_countTells_97 : decode cX5_countTells 97 = .ok (.aload_n 0, 1) := by decide +kernel
theorem dX5_countTells_98 : decode cX5_countTells 98 = .ok (.getfield 43, 3) := by decide +kernel
theorem dX5_countTells_101 : decode cX5_countTells 101 = .ok (.getfield 168, 3) := by decide +kernel
theorem dX5_countTells_104 : decode cX5_countTells 104 = .ok (.ireturn, 1) := by decide +kernel
theorem dX5_countTells_105 : decode cX5_countTells 105 = .ok (.aload_n 0, 1) := by decide +kernel
theorem dX5_countTells_106 : decode cX5_countTells 106 = .ok (.invokevirtual 171, 3) := by decide +kernel
theorem dX5_countTells_109 : decode cX5_countTells 109 = .ok (.ireturn, 1) := by decide +kernel
theorem dX5_countTells_110 : decode cX5_countTells 110 = .ok (.aload_n 0, 1) := by decide +kernel
theorem dX5_countTells_111 : decode cX5_countTells 111 = .ok (.invokevirtual 175, 3) := by decide +kernel
theorem dX5_countTells_114 : decode cX5_countTells 114 = .ok (.ireturn, 1) := by decide +kernel
theorem dX5_countTells_115 : decode cX5_countTells 115 = .ok (.aload_n 0, 1) := by decide +kernel
theorem dX5_countTells_116 : decode cX5_countTells 116 = .ok (.invokevirtual 178, 3) := by decide +kernel
theorem dX5_countTells_119 : decode cX5_countTells 119 = .ok (.ireturn, 1) := by decide +kernel
theorem dX5_countTells_120 : decode cX5_countTells 120 = .ok (.aload_n 0, 1) := by decide +kernel
theorem dX5_countTells_121 : decode cX5_countTells 121 = .ok (.invokevirtual 181, 3) := by decide +kernel
theorem dX5_countTells_124 : decode cX5_countTells 124 = .ok (.ireturn, 1) := by decide +kernel
theorem dX5_countTells_125 : decode cX5_countTells 125 = .ok (.aload_n 0, 1) := by decide +kernel
theorem dX5_countTells_126 : decode cX5_countTells 126 = .ok (.getfield 13, 3) := by decide +kernel
theorem dX5_countTells_129 : decode cX5_countTells 129 = .ok (.ireturn, 1) := by decide +kernel
theorem dX5_countTells_130 : decode cX5_countTells 130 = .ok (.aload_n 0, 1) := by decide +kernel
theorem dX5_countTells_131 : decode cX5_countTells 131 = .ok (.getfield 16, 3) := by decide +kernel
theorem dX5_countTells_134 : decode cX5_countTells 134 = .ok (.ireturn, 1) := by decide +kernel
theorem dX5_valuesOfAll_0 : decode cX5_valuesOfAll 0 = .ok (.iconst 0, 1) := by decide +kernel
theorem dX5_valuesOfAll_1 : decode cX5_valuesOfAll 1 = .ok (.istore_n 1, 1) := by decide +kernel
theorem dX5_valuesOfAll_2 : decode cX5_valuesOfAll 2 = .ok (.iconst 0, 1) := by decide +kernel
theorem dX5_valuesOfAll_3 : decode cX5_valuesOfAll 3 = .ok (.istore_n 2, 1) := by decide +kernel
theorem dX5_valuesOfAll_4 : decode cX5_valuesOfAll 4 = .ok (.iload_n 2, 1) := by decide +kernel
theorem dX5_valuesOfAll_5 : decode cX5_valuesOfAll 5 = .ok (.aload_n 0, 1) := by decide +kernel
theorem dX5_valuesOfAll_6 : decode cX5_valuesOfAll 6 = .ok (.getfield 43, 3) := by decide +kernel
theorem dX5_valuesOfAll_9 : decode cX5_valuesOfAll 9 = .ok (.getfield 53, 3) := by decide +kernel
theorem dX5_valuesOfAll_12 : decode cX5_valuesOfAll 12 = .ok (.if_icmp .ge 18, 3) := by decide +kernel
theorem dX5_valuesOfAll_15 : decode cX5_valuesOfAll 15 = .ok (.iload_n 1, 1) := by decide +kernel
theorem dX5_valuesOfAll_16 : decode cX5_valuesOfAll 16 = .ok (.aload_n 0, 1) := by decide +kernel
theorem dX5_valuesOfAll_17 : decode cX5_valuesOfAll 17 = .ok (.getfield 28, 3) := by decide +kernel
theorem dX5_valuesOfAll_20 : decode cX5_valuesOfAll 20 = .ok (.iload_n 2, 1) := by decide +kernel
theorem dX5_valuesOfAll_21 : decode cX5_valuesOfAll 21 = .ok (.iaload, 1) := by decide +kernel
theorem dX5_valuesOfAll_22 : decode cX5_valuesOfAll 22 = .ok (.iadd, 1) := by decide +kernel
theorem dX5_valuesOfAll_23 : decode cX5_valuesOfAll 23 = .ok (.istore_n 1, 1) := by decide +kernel
theorem dX5_valuesOfAll_24 : decode cX5_valuesOfAll 24 = .ok (.iinc 2 1, 3) := by decide +kernel
theorem dX5_valuesOfAll_27 : decode cX5_valuesOfAll 27 = .ok (.goto (-23), 3) := by decide +kernel
theorem dX5_valuesOfAll_30 : decode cX5_valuesOfAll 30 = .ok (.iload_n 1, 1) := by decide +kernel
theorem dX5_valuesOfAll_31 : decode cX5_valuesOfAll 31 = .ok (.ireturn, 1) := by decide +kernel
theorem dX5_knotsOfAll_0 : decode cX5_knotsOfAll 0 = .ok (.iconst 0, 1) := by decide +kernel
theorem dX5_knotsOfAll_1 : decode cX5_knotsOfAll 1 = .ok (.istore_n 1, 1) := by decide +kernel
theorem dX5_knotsOfAll_2 : decode cX5_knotsOfAll 2 = .ok (.iconst 0, 1) := by decide +kernel
theorem dX5_knotsOfAll_3 : decode cX5_knotsOfAll 3 = .ok (.istore_n 2, 1) := by decide +kernel
theorem dX5_knotsOfAll_4 : decode cX5_knotsOfAll 4 = .ok (.iload_n 2, 1) := by decide +kernel
theorem dX5_knotsOfAll_5 : decode cX5_knotsOfAll 5 = .ok (.aload_n 0, 1) := by decide +kernel
theorem dX5_knotsOfAll_6 : decode cX5_knotsOfAll 6 = .ok (.getfield 43, 3) := by decide +kernel
theorem dX5_knotsOfAll_9 : decode cX5_knotsOfAll 9 = .ok (.getfield 53, 3) := by decide +kernel
theorem dX5_knotsOfAll_12 : decode cX5_knotsOfAll 12 = .ok (.if_icmp .ge 21, 3) := by decide +kernel
theorem dX5_knotsOfAll_15 : decode cX5_knotsOfAll 15 = .ok (.iload_n 1, 1) := by decide +kernel
theorem dX5_knotsOfAll_16 : decode cX5_knotsOfAll 16 = .ok (.aload_n 0, 1) := by decide +kernel
theorem dX5_knotsOfAll_17 : decode cX5_knotsOfAll 17 = .ok (.getfield 28, 3) := by decide +kernel
theorem dX5_knotsOfAll_20 : decode cX5_knotsOfAll 20 = .ok (.iload_n 2, 1) := by decide +kernel
theorem dX5_knotsOfAll_21 : decode cX5_knotsOfAll 21 = .ok (.iaload, 1) := by decide +kernel
theorem dX5_knotsOfAll_22 : decode cX5_knotsOfAll 22 = .ok (.invokestatic 149, 3) := by decide +kernel
theorem dX5_knotsOfAll_25 : decode cX5_knotsOfAll 25 = .ok (.iadd, 1) := by decide +kernel
theorem dX5_knotsOfAll_26 : decode cX5_knotsOfAll 26 = .ok (.istore_n 1, 1) := by decide +kernel
theorem dX5_knotsOfAll_27 : decode cX5_knotsOfAll 27 = .ok (.iinc 2 1, 3) := by decide +kernel
theorem dX5_knotsOfAll_30 : decode cX5_knotsOfAll 30 = .ok (.goto (-26), 3) := by decide +kernel
theorem dX5_knotsOfAll_33 : decode cX5_knotsOfAll 33 = .ok (.iload_n 1, 1) := by decide +kernel
theorem dX5_knotsOfAll_34 : decode cX5_knotsOfAll 34 = .ok (.ireturn, 1) := by decide +kernel
theorem dX5_turnsOfAll_0 : decode cX5_turnsOfAll 0 = .ok (.iconst 0, 1) := by decide +kernel
theorem dX5_turnsOfAll_1 : decode cX5_turnsOfAll 1 = .ok (.istore_n 1, 1) := by decide +kernel
theorem dX5_turnsOfAll_2 : decode cX5_turnsOfAll 2 = .ok (.iconst 0, 1) := by decide +kernel
theorem dX5_turnsOfAll_3 : decode cX5_turnsOfAll 3 = .ok (.istore_n 2, 1) := by decide +kernel
theorem dX5_turnsOfAll_4 : decode cX5_turnsOfAll 4 = .ok (.iload_n 2, 1) := by decide +kernel
theorem dX5_turnsOfAll_5 : decode cX5_turnsOfAll 5 = .ok (.aload_n 0, 1) := by decide +kernel
theorem dX5_turnsOfAll_6 : decode cX5_turnsOfAll 6 = .ok (.getfield 43, 3) := by decide +kernel
theorem dX5_turnsOfAll_9 : decode cX5_turnsOfAll 9 = .ok (.getfield 53, 3) := by decide +kernel
theorem dX5_turnsOfAll_12 : decode cX5_turnsOfAll 12 = .ok (.if_icmp .ge 21, 3) := by decide +kernel
theorem dX5_turnsOfAll_15 : decode cX5_turnsOfAll 15 = .ok (.iload_n 1, 1) := by decide +kernel
theorem dX5_turnsOfAll_16 : decode cX5_turnsOfAll 16 = .ok (.aload_n 0, 1) := by decide +kernel
theorem dX5_turnsOfAll_17 : decode cX5_turnsOfAll 17 = .ok (.getfield 28, 3) := by decide +kernel
theorem dX5_turnsOfAll_20 : decode cX5_turnsOfAll 20 = .ok (.iload_n 2, 1) := by decide +kernel
theorem dX5_turnsOfAll_21 : decode cX5_turnsOfAll 21 = .ok (.iaload, 1) := by decide +kernel
theorem dX5_turnsOfAll_22 : decode cX5_turnsOfAll 22 = .ok (.invokestatic 160, 3) := by decide +kernel
theorem dX5_turnsOfAll_25 : decode cX5_turnsOfAll 25 = .ok (.iadd, 1) := by decide +kernel
theorem dX5_turnsOfAll_26 : decode cX5_turnsOfAll 26 = .ok (.istore_n 1, 1) := by decide +kernel
theorem dX5_turnsOfAll_27 : decode cX5_turnsOfAll 27 = .ok (.iinc 2 1, 3) := by decide +kernel
theorem dX5_turnsOfAll_30 : decode cX5_turnsOfAll 30 = .ok (.goto (-26), 3) := by decide +kernel
theorem dX5_turnsOfAll_33 : decode cX5_turnsOfAll 33 = .ok (.iload_n 1, 1) := by decide +kernel
theorem dX5_turnsOfAll_34 : decode cX5_turnsOfAll 34 = .ok (.ireturn, 1) := by decide +kernel
theorem dX5_colourTells_0 : decode cX5_colourTells 0 = .ok (.iload_n 2, 1) := by decide +kernel
theorem dX5_colourTells_1 : decode cX5_colourTells 1 = .ok (.ifCond .ne 13, 3) := by decide +kernel
theorem dX5_colourTells_4 : decode cX5_colourTells 4 = .ok (.aload_n 0, 1) := by decide +kernel
theorem dX5_colourTells_5 : decode cX5_colourTells 5 = .ok (.getfield 43, 3) := by decide +kernel
theorem dX5_colourTells_8 : decode cX5_colourTells 8 = .ok (.getfield 102, 3) := by decide +kernel
theorem dX5_colourTells_11 : decode cX5_colourTells 11 = .ok (.iload_n 1, 1) := by decide +kernel
theorem dX5_colourTells_12 : decode cX5_colourTells 12 = .ok (.iaload, 1) := by decide +kernel
theorem dX5_colourTells_13 : decode cX5_colourTells 13 = .ok (.ireturn, 1) := by decide +kernel
theorem dX5_colourTells_14 : decode cX5_colourTells 14 = .ok (.iconst 0, 1) := by decide +kernel
theorem dX5_colourTells_15 : decode cX5_colourTells 15 = .ok (.istore_n 3, 1) := by decide +kernel
theorem dX5_colourTells_16 : decode cX5_colourTells 16 = .ok (.iconst 0, 1) := by decide +kernel
theorem dX5_colourTells_17 : decode cX5_colourTells 17 = .ok (.istore 4, 2) := by decide +kernel
theorem dX5_colourTells_19 : decode cX5_colourTells 19 = .ok (.iconst 0, 1) := by decide +kernel
theorem dX5_colourTells_20 : decode cX5_colourTells 20 = .ok (.istore 5, 2) := by decide +kernel
theorem dX5_colourTells_22 : decode cX5_colourTells 22 = .ok (.iload 5, 2) := by decide +kernel
theorem dX5_colourTells_24 : decode cX5_colourTells 24 = .ok (.aload_n 0, 1) := by decide +kernel
theorem dX5_colourTells_25 : decode cX5_colourTells 25 = .ok (.getfield 43, 3) := by decide +kernel
theorem dX5_colourTells_28 : decode cX5_colourTells 28 = .ok (.getfield 53, 3) := by decide +kernel
theorem dX5_colourTells_31 : decode cX5_colourTells 31 = .ok (.if_icmp .ge 35, 3) := by decide +kernel
theorem dX5_colourTells_34 : decode cX5_colourTells 34 = .ok (.aload_n 0, 1) := by decide +kernel
theorem dX5_colourTells_35 : decode cX5_colourTells 35 = .ok (.getfield 21, 3) := by decide +kernel
theorem dX5_colourTells_38 : decode cX5_colourTells 38 = .ok (.iload 5, 2) := by decide +kernel
theorem dX5_colourTells_40 : decode cX5_colourTells 40 = .ok (.iaload, 1) := by decide +kernel
theorem dX5_colourTells_41 : decode cX5_colourTells 41 = .ok (.iload_n 1, 1) := by decide +kernel
theorem dX5_colourTells_42 : decode cX5_colourTells 42 = .ok (.if_icmp .ne 18, 3) := by decide +kernel
theorem dX5_colourTells_45 : decode cX5_colourTells 45 = .ok (.iinc 3 1, 3) := by decide +kernel
theorem dX5_colourTells_48 : decode cX5_colourTells 48 = .ok (.iload 4, 2) := by decide +kernel
theorem dX5_colourTells_50 : decode cX5_colourTells 50 = .ok (.aload_n 0, 1) := by decide +kernel
theorem dX5_colourTells_51 : decode cX5_colourTells 51 = .ok (.getfield 28, 3) := by decide +kernel
theorem dX5_colourTells_54 : decode cX5_colourTells 54 = .ok (.iload 5, 2) := by decide +kernel
theorem dX5_colourTells_56 : decode cX5_colourTells 56 = .ok (.iaload, 1) := by decide +kernel
theorem dX5_colourTells_57 : decode cX5_colourTells 57 = .ok (.iadd, 1) := by decide +kernel
theorem dX5_colourTells_58 : decode cX5_colourTells 58 = .ok (.istore 4, 2) := by decide +kernel
theorem dX5_colourTells_60 : decode cX5_colourTells 60 = .ok (.iinc 5 1, 3) := by decide +kernel
theorem dX5_colourTells_63 : decode cX5_colourTells 63 = .ok (.goto (-41), 3) := by decide +kernel
theorem dX5_colourTells_66 : decode cX5_colourTells 66 = .ok (.iload_n 2, 1) := by decide +kernel
theorem dX5_colourTells_67 : decode cX5_colourTells 67 = .ok (.iconst 1, 1) := by decide +kernel
theorem dX5_colourTells_68 : decode cX5_colourTells 68 = .ok (.if_icmp .ne 7, 3) := by decide +kernel
theorem dX5_colourTells_71 : decode cX5_colourTells 71 = .ok (.iload_n 3, 1) := by decide +kernel
theorem dX5_colourTells_72 : decode cX5_colourTells 72 = .ok (.goto 5, 3) := by decide +kernel
theorem dX5_colourTells_75 : decode cX5_colourTells 75 = .ok (.iload 4, 2) := by decide +kernel
theorem dX5_colourTells_77 : decode cX5_colourTells 77 = .ok (.ireturn, 1) := by decide +kernel
theorem dX5_cordTells_0 : decode cX5_cordTells 0 = .ok (.iload_n 2, 1) := by decide +kernel
theorem dX5_cordTells_1 : decode cX5_cordTells 1 = .ok (.tableswitch 107 0 7 #[47, 54, 61, 67, 74, 81, 91, 101], 47) := by decide +kernel
theorem dX5_cordTells_48 : decode cX5_cordTells 48 = .ok (.aload_n 0, 1) := by decide +kernel
theorem dX5_cordTells_49 : decode cX5_cordTells 49 = .ok (.getfield 21, 3) := by decide +kernel
theorem dX5_cordTells_52 : decode cX5_cordTells 52 = .ok (.iload_n 1, 1) := by decide +kernel
theorem dX5_cordTells_53 : decode cX5_cordTells 53 = .ok (.iaload, 1) := by decide +kernel
theorem dX5_cordTells_54 : decode cX5_cordTells 54 = .ok (.ireturn, 1) := by decide +kernel
theorem dX5_cordTells_55 : decode cX5_cordTells 55 = .ok (.aload_n 0, 1) := by decide +kernel
theorem dX5_cordTells_56 : decode cX5_cordTells 56 = .ok (.getfield 25, 3) := by decide +kernel
theorem dX5_cordTells_59 : decode cX5_cordTells 59 = .ok (.iload_n 1, 1) := by decide +kernel
theorem dX5_cordTells_60 : decode cX5_cordTells 60 = .ok (.iaload, 1) := by decide +kernel
theorem dX5_cordTells_61 : decode cX5_cordTells 61 = .ok (.ireturn, 1) := by decide +kernel
theorem dX5_cordTells_62 : decode cX5_cordTells 62 = .ok (.aload_n 0, 1) := by decide +kernel
theorem dX5_cordTells_63 : decode cX5_cordTells 63 = .ok (.iload_n 1, 1) := by decide +kernel
theorem dX5_cordTells_64 : decode cX5_cordTells 64 = .ok (.invokevirtual 80, 3) := by decide +kernel
theorem dX5_cordTells_67 : decode cX5_cordTells 67 = .ok (.ireturn, 1) := by decide +kernel
theorem dX5_cordTells_68 : decode cX5_cordTells 68 = .ok (.aload_n 0, 1) := by decide +kernel
theorem dX5_cordTells_69 : decode cX5_cordTells 69 = .ok (.getfield 28, 3) := by decide +kernel
theorem dX5_cordTells_72 : decode cX5_cordTells 72 = .ok (.iload_n 1, 1) := by decide +kernel
theorem dX5_cordTells_73 : decode cX5_cordTells 73 = .ok (.iaload, 1) := by decide +kernel
theorem dX5_cordTells_74 : decode cX5_cordTells 74 = .ok (.ireturn, 1) := by decide +kernel
theorem dX5_cordTells_75 : decode cX5_cordTells 75 = .ok (.aload_n 0, 1) := by decide +kernel
theorem dX5_cordTells_76 : decode cX5_cordTells 76 = .ok (.getfield 31, 3) := by decide +kernel
theorem dX5_cordTells_79 : decode cX5_cordTells 79 = .ok (.iload_n 1, 1) := by decide +kernel
theorem dX5_cordTells_80 : decode cX5_cordTells 80 = .ok (.iaload, 1) := by decide +kernel
theorem dX5_cordTells_81 : decode cX5_cordTells 81 = .ok (.ireturn, 1) := by decide +kernel
theorem dX5_cordTells_82 : decode cX5_cordTells 82 = .ok (.aload_n 0, 1) := by decide +kernel
theorem dX5_cordTells_83 : decode cX5_cordTells 83 = .ok (.getfield 28, 3) := by decide +kernel
theorem dX5_cordTells_86 : decode cX5_cordTells 86 = .ok (.iload_n 1, 1) := by decide +kernel
theorem dX5_cordTells_87 : decode cX5_cordTells 87 = .ok (.iaload, 1) := by decide +kernel
theorem dX5_cordTells_88 : decode cX5_cordTells 88 = .ok (.invokestatic 149, 3) := by decide +kernel
theorem dX5_cordTells_91 : decode cX5_cordTells 91 = .ok (.ireturn, 1) := by decide +kernel
theorem dX5_cordTells_92 : decode cX5_cordTells 92 = .ok (.aload_n 0, 1) := by decide +kernel
theorem dX5_cordTells_93 : decode cX5_cordTells 93 = .ok (.getfield 28, 3) := by decide +kernel
theorem dX5_cordTells_96 : decode cX5_cordTells 96 = .ok (.iload_n 1, 1) := by decide +kernel
theorem dX5_cordTells_97 : decode cX5_cordTells 97 = .ok (.iaload, 1) := by decide +kernel
theorem dX5_cordTells_98 : decode cX5_cordTells 98 = .ok (.invokestatic 160, 3) := by decide +kernel
theorem dX5_cordTells_101 : decode cX5_cordTells 101 = .ok (.ireturn, 1) := by decide +kernel
theorem dX5_cordTells_102 : decode cX5_cordTells 102 = .ok (.aload_n 0, 1) := by decide +kernel
theorem dX5_cordTells_103 : decode cX5_cordTells 103 = .ok (.iload_n 1, 1) := by decide +kernel
theorem dX5_cordTells_104 : decode cX5_cordTells 104 = .ok (.invokevirtual 184, 3) := by decide +kernel
theorem dX5_cordTells_107 : decode cX5_cordTells 107 = .ok (.ireturn, 1) := by decide +kernel
theorem dX5_cordTells_108 : decode cX5_cordTells 108 = .ok (.aload_n 0, 1) := by decide +kernel
theorem dX5_cordTells_109 : decode cX5_cordTells 109 = .ok (.iload_n 1, 1) := by decide +kernel
theorem dX5_cordTells_110 : decode cX5_cordTells 110 = .ok (.invokevirtual 187, 3) := by decide +kernel
theorem dX5_cordTells_113 : decode cX5_cordTells 113 = .ok (.ireturn, 1) := by decide +kernel
theorem dX5_topsOver_0 : decode cX5_topsOver 0 = .ok (.iconst 0, 1) := by decide +kernel
theorem dX5_topsOver_1 : decode cX5_topsOver 1 = .ok (.istore_n 2, 1) := by decide +kernel
theorem dX5_topsOver_2 : decode cX5_topsOver 2 = .ok (.iconst 0, 1) := by decide +kernel
theorem dX5_topsOver_3 : decode cX5_topsOver 3 = .ok (.istore_n 3, 1) := by decide +kernel
theorem dX5_topsOver_4 : decode cX5_topsOver 4 = .ok (.iload_n 3, 1) := by decide +kernel
theorem dX5_topsOver_5 : decode cX5_topsOver 5 = .ok (.aload_n 0, 1) := by decide +kernel
theorem dX5_topsOver_6 : decode cX5_topsOver 6 = .ok (.getfield 43, 3) := by decide +kernel
theorem dX5_topsOver_9 : decode cX5_topsOver 9 = .ok (.getfield 118, 3) := by decide +kernel
theorem dX5_topsOver_12 : decode cX5_topsOver 12 = .ok (.if_icmp .ge 29, 3) := by decide +kernel
theorem dX5_topsOver_15 : decode cX5_topsOver 15 = .ok (.iload_n 2, 1) := by decide +kernel
theorem dX5_topsOver_16 : decode cX5_topsOver 16 = .ok (.aload_n 0, 1) := by decide +kernel
theorem dX5_topsOver_17 : decode cX5_topsOver 17 = .ok (.getfield 43, 3) := by decide +kernel
theorem dX5_topsOver_20 : decode cX5_topsOver 20 = .ok (.iload_n 3, 1) := by decide +kernel
theorem dX5_topsOver_21 : decode cX5_topsOver 21 = .ok (.iload_n 1, 1) := by decide +kernel
theorem dX5_topsOver_22 : decode cX5_topsOver 22 = .ok (.invokevirtual 190, 3) := by decide +kernel
theorem dX5_topsOver_25 : decode cX5_topsOver 25 = .ok (.ifCond .eq 7, 3) := by decide +kernel
theorem dX5_topsOver_28 : decode cX5_topsOver 28 = .ok (.iconst 1, 1) := by decide +kernel
theorem dX5_topsOver_29 : decode cX5_topsOver 29 = .ok (.goto 4, 3) := by decide +kernel
theorem dX5_topsOver_32 : decode cX5_topsOver 32 = .ok (.iconst 0, 1) := by decide +kernel
theorem dX5_topsOver_33 : decode cX5_topsOver 33 = .ok (.iadd, 1) := by decide +kernel
theorem dX5_topsOver_34 : decode cX5_topsOver 34 = .ok (.istore_n 2, 1) := by decide +kernel
theorem dX5_topsOver_35 : decode cX5_topsOver 35 = .ok (.iinc 3 1, 3) := by decide +kernel
theorem dX5_topsOver_38 : decode cX5_topsOver 38 = .ok (.goto (-34), 3) := by decide +kernel
theorem dX5_topsOver_41 : decode cX5_topsOver 41 = .ok (.iload_n 2, 1) := by decide +kernel
theorem dX5_topsOver_42 : decode cX5_topsOver 42 = .ok (.ireturn, 1) := by decide +kernel
theorem dX5_topTells_0 : decode cX5_topTells 0 = .ok (.iload_n 2, 1) := by decide +kernel
theorem dX5_topTells_1 : decode cX5_topTells 1 = .ok (.tableswitch 50 0 2 #[27, 37, 44], 27) := by decide +kernel
theorem dX5_topTells_28 : decode cX5_topTells 28 = .ok (.aload_n 0, 1) := by decide +kernel
theorem dX5_topTells_29 : decode cX5_topTells 29 = .ok (.getfield 43, 3) := by decide +kernel
theorem dX5_topTells_32 : decode cX5_topTells 32 = .ok (.getfield 108, 3) := by decide +kernel
theorem dX5_topTells_35 : decode cX5_topTells 35 = .ok (.iload_n 1, 1) := by decide +kernel
theorem dX5_topTells_36 : decode cX5_topTells 36 = .ok (.iaload, 1) := by decide +kernel
theorem dX5_topTells_37 : decode cX5_topTells 37 = .ok (.ireturn, 1) := by decide +kernel
theorem dX5_topTells_38 : decode cX5_topTells 38 = .ok (.aload_n 0, 1) := by decide +kernel
theorem dX5_topTells_39 : decode cX5_topTells 39 = .ok (.getfield 34, 3) := by decide +kernel
theorem dX5_topTells_42 : decode cX5_topTells 42 = .ok (.iload_n 1, 1) := by decide +kernel
theorem dX5_topTells_43 : decode cX5_topTells 43 = .ok (.iaload, 1) := by decide +kernel
theorem dX5_topTells_44 : decode cX5_topTells 44 = .ok (.ireturn, 1) := by decide +kernel
theorem dX5_topTells_45 : decode cX5_topTells 45 = .ok (.aload_n 0, 1) := by decide +kernel
theorem dX5_topTells_46 : decode cX5_topTells 46 = .ok (.iload_n 1, 1) := by decide +kernel
theorem dX5_topTells_47 : decode cX5_topTells 47 = .ok (.invokevirtual 115, 3) := by decide +kernel
theorem dX5_topTells_50 : decode cX5_topTells 50 = .ok (.ireturn, 1) := by decide +kernel
theorem dX5_topTells_51 : decode cX5_topTells 51 = .ok (.aload_n 0, 1) := by decide +kernel
theorem dX5_topTells_52 : decode cX5_topTells 52 = .ok (.iload_n 1, 1) := by decide +kernel
theorem dX5_topTells_53 : decode cX5_topTells 53 = .ok (.invokevirtual 121, 3) := by decide +kernel
theorem dX5_topTells_56 : decode cX5_topTells 56 = .ok (.ifCond .eq 7, 3) := by decide +kernel
theorem dX5_topTells_59 : decode cX5_topTells 59 = .ok (.iconst 1, 1) := by decide +kernel
theorem dX5_topTells_60 : decode cX5_topTells 60 = .ok (.goto 4, 3) := by decide +kernel
theorem dX5_topTells_63 : decode cX5_topTells 63 = .ok (.iconst 0, 1) := by decide +kernel
theorem dX5_topTells_64 : decode cX5_topTells 64 = .ok (.ireturn, 1) := by decide +kernel
theorem dX5_keeperTells_0 : decode cX5_keeperTells 0 = .ok (.iload_n 2, 1) := by decide +kernel
theorem dX5_keeperTells_1 : decode cX5_keeperTells 1 = .ok (.tableswitch 51 0 2 #[27, 37, 44], 27) := by decide +kernel
theorem dX5_keeperTells_28 : decode cX5_keeperTells 28 = .ok (.aload_n 0, 1) := by decide +kernel
theorem dX5_keeperTells_29 : decode cX5_keeperTells 29 = .ok (.getfield 43, 3) := by decide +kernel
theorem dX5_keeperTells_32 : decode cX5_keeperTells 32 = .ok (.getfield 124, 3) := by decide +kernel
theorem dX5_keeperTells_35 : decode cX5_keeperTells 35 = .ok (.iload_n 1, 1) := by decide +kernel
theorem dX5_keeperTells_36 : decode cX5_keeperTells 36 = .ok (.iaload, 1) := by decide +kernel
theorem dX5_keeperTells_37 : decode cX5_keeperTells 37 = .ok (.ireturn, 1) := by decide +kernel
theorem dX5_keeperTells_38 : decode cX5_keeperTells 38 = .ok (.aload_n 0, 1) := by decide +kernel
theorem dX5_keeperTells_39 : decode cX5_keeperTells 39 = .ok (.getfield 37, 3) := by decide +kernel
theorem dX5_keeperTells_42 : decode cX5_keeperTells 42 = .ok (.iload_n 1, 1) := by decide +kernel
theorem dX5_keeperTells_43 : decode cX5_keeperTells 43 = .ok (.iaload, 1) := by decide +kernel
theorem dX5_keeperTells_44 : decode cX5_keeperTells 44 = .ok (.ireturn, 1) := by decide +kernel
theorem dX5_keeperTells_45 : decode cX5_keeperTells 45 = .ok (.aload_n 0, 1) := by decide +kernel
theorem dX5_keeperTells_46 : decode cX5_keeperTells 46 = .ok (.getfield 40, 3) := by decide +kernel
theorem dX5_keeperTells_49 : decode cX5_keeperTells 49 = .ok (.iload_n 1, 1) := by decide +kernel
theorem dX5_keeperTells_50 : decode cX5_keeperTells 50 = .ok (.iaload, 1) := by decide +kernel
theorem dX5_keeperTells_51 : decode cX5_keeperTells 51 = .ok (.ireturn, 1) := by decide +kernel
theorem dX5_keeperTells_52 : decode cX5_keeperTells 52 = .ok (.aload_n 0, 1) := by decide +kernel
theorem dX5_keeperTells_53 : decode cX5_keeperTells 53 = .ok (.iload_n 1, 1) := by decide +kernel
theorem dX5_keeperTells_54 : decode cX5_keeperTells 54 = .ok (.invokevirtual 146, 3) := by decide +kernel
theorem dX5_keeperTells_57 : decode cX5_keeperTells 57 = .ok (.ifCond .eq 7, 3) := by decide +kernel
theorem dX5_keeperTells_60 : decode cX5_keeperTells 60 = .ok (.iconst 1, 1) := by decide +kernel
theorem dX5_keeperTells_61 : decode cX5_keeperTells 61 = .ok (.goto 4, 3) := by decide +kernel
theorem dX5_keeperTells_64 : decode cX5_keeperTells 64 = .ok (.iconst 0, 1) := by decide +kernel
theorem dX5_keeperTells_65 : decode cX5_keeperTells 65 = .ok (.ireturn, 1) := by decide +kernel
theorem dX6_init_0 : decode cX6_init 0 = .ok (.aload_n 0, 1) := by decide +kernel
theorem dX6_init_1 : decode cX6_init 1 = .ok (.invokespecial 1, 3) := by decide +kernel
theorem dX6_init_4 : decode cX6_init 4 = .ok (.aload_n 0, 1) := by decide +kernel
theorem dX6_init_5 : decode cX6_init 5 = .ok (.sipush 2000, 3) := by decide +kernel
theorem dX6_init_8 : decode cX6_init 8 = .ok (.newarray .byte, 2) := by decide +kernel
theorem dX6_init_10 : decode cX6_init 10 = .ok (.putfield 9, 3) := by decide +kernel
theorem dX6_init_13 : decode cX6_init 13 = .ok (.aload_n 0, 1) := by decide +kernel
theorem dX6_init_14 : decode cX6_init 14 = .ok (.iconst 0, 1) := by decide +kernel
theorem dX6_init_15 : decode cX6_init 15 = .ok (.putfield 13, 3) := by decide +kernel
theorem dX6_init_18 : decode cX6_init 18 = .ok (.return_, 1) := by decide +kernel
theorem dX6_length_0 : decode cX6_length 0 = .ok (.aload_n 0, 1) := by decide +kernel
theorem dX6_length_1 : decode cX6_length 1 = .ok (.getfield 13, 3) := by decide +kernel
theorem dX6_length_4 : decode cX6_length 4 = .ok (.ireturn, 1) := by decide +kernel
theorem dX6_append_0 : decode cX6_append 0 = .ok (.bipush 24, 2) := by decide +kernel
theorem dX6_append_2 : decode cX6_append 2 = .ok (.istore_n 2, 1) := by decide +kernel
theorem dX6_append_3 : decode cX6_append 3 = .ok (.iload_n 2, 1) := by decide +kernel
theorem dX6_append_4 : decode cX6_append 4 = .ok (.ifCond .lt 42, 3) := by decide +kernel
theorem dX6_append_7 : decode cX6_append 7 = .ok (.aload_n 0, 1) := by decide +kernel
theorem dX6_append_8 : decode cX6_append 8 = .ok (.getfield 13, 3) := by decide +kernel
theorem dX6_append_11 : decode cX6_append 11 = .ok (.sipush 2000, 3) := by decide +kernel
theorem dX6_append_14 : decode cX6_append 14 = .ok (.if_icmp .ge 32, 3) := by decide +kernel
theorem dX6_append_17 : decode cX6_append 17 = .ok (.aload_n 0, 1) := by decide +kernel
theorem dX6_append_18 : decode cX6_append 18 = .ok (.getfield 9, 3) := by decide +kernel
theorem dX6_append_21 : decode cX6_append 21 = .ok (.aload_n 0, 1) := by decide +kernel
theorem dX6_append_22 : decode cX6_append 22 = .ok (.getfield 13, 3) := by decide +kernel
theorem dX6_append_25 : decode cX6_append 25 = .ok (.iload_n 1, 1) := by decide +kernel
theorem dX6_append_26 : decode cX6_append 26 = .ok (.iload_n 2, 1) := by decide +kernel
theorem dX6_append_27 : decode cX6_append 27 = .ok (.iushr, 1) := by decide +kernel
theorem dX6_append_28 : decode cX6_append 28 = .ok (.i2b, 1) := by decide +kernel
theorem dX6_append_29 : decode cX6_append 29 = .ok (.bastore, 1) := by decide +kernel
theorem dX6_append_30 : decode cX6_append 30 = .ok (.aload_n 0, 1) := by decide +kernel
theorem dX6_append_31 : decode cX6_append 31 = .ok (.dup, 1) := by decide +kernel
theorem dX6_append_32 : decode cX6_append 32 = .ok (.getfield 13, 3) := by decide +kernel
theorem dX6_append_35 : decode cX6_append 35 = .ok (.iconst 1, 1) := by decide +kernel
theorem dX6_append_36 : decode cX6_append 36 = .ok (.iadd, 1) := by decide +kernel
theorem dX6_append_37 : decode cX6_append 37 = .ok (.putfield 13, 3) := by decide +kernel
theorem dX6_append_40 : decode cX6_append 40 = .ok (.iinc 2 (-8), 3) := by decide +kernel
theorem dX6_append_43 : decode cX6_append 43 = .ok (.goto (-40), 3) := by decide +kernel
theorem dX6_append_46 : decode cX6_append 46 = .ok (.return_, 1) := by decide +kernel
theorem dX6_cut_0 : decode cX6_cut 0 = .ok (.aload_n 0, 1) := by decide +kernel
theorem dX6_cut_1 : decode cX6_cut 1 = .ok (.iload_n 1, 1) := by decide +kernel
theorem dX6_cut_2 : decode cX6_cut 2 = .ok (.putfield 13, 3) := by decide +kernel
theorem dX6_cut_5 : decode cX6_cut 5 = .ok (.return_, 1) := by decide +kernel
theorem dX6_signAt_0 : decode cX6_signAt 0 = .ok (.iload_n 1, 1) := by decide +kernel
theorem dX6_signAt_1 : decode cX6_signAt 1 = .ok (.ifCond .lt 11, 3) := by decide +kernel
theorem dX6_signAt_4 : decode cX6_signAt 4 = .ok (.iload_n 1, 1) := by decide +kernel
theorem dX6_signAt_5 : decode cX6_signAt 5 = .ok (.aload_n 0, 1) := by decide +kernel
theorem dX6_signAt_6 : decode cX6_signAt 6 = .ok (.getfield 13, 3) := by decide +kernel
theorem dX6_signAt_9 : decode cX6_signAt 9 = .ok (.if_icmp .lt 7, 3) := by decide +kernel
theorem dX6_signAt_12 : decode cX6_signAt 12 = .ok (.iconst (-1), 1) := by decide +kernel
theorem dX6_signAt_13 : decode cX6_signAt 13 = .ok (.goto 13, 3) := by decide +kernel
theorem dX6_signAt_16 : decode cX6_signAt 16 = .ok (.aload_n 0, 1) := by decide +kernel
theorem dX6_signAt_17 : decode cX6_signAt 17 = .ok (.getfield 9, 3) := by decide +kernel
theorem dX6_signAt_20 : decode cX6_signAt 20 = .ok (.iload_n 1, 1) := by decide +kernel
theorem dX6_signAt_21 : decode cX6_signAt 21 = .ok (.baload, 1) := by decide +kernel
theorem dX6_signAt_22 : decode cX6_signAt 22 = .ok (.sipush 255, 3) := by decide +kernel
theorem dX6_signAt_25 : decode cX6_signAt 25 = .ok (.iand, 1) := by decide +kernel
theorem dX6_signAt_26 : decode cX6_signAt 26 = .ok (.ireturn, 1) := by decide +kernel
theorem dX6_behindBlanks_0 : decode cX6_behindBlanks 0 = .ok (.iload_n 1, 1) := by decide +kernel
theorem dX6_behindBlanks_1 : decode cX6_behindBlanks 1 = .ok (.istore_n 2, 1) := by decide +kernel
theorem dX6_behindBlanks_2 : decode cX6_behindBlanks 2 = .ok (.iload_n 2, 1) := by decide +kernel
theorem dX6_behindBlanks_3 : decode cX6_behindBlanks 3 = .ok (.aload_n 0, 1) := by decide +kernel
theorem dX6_behindBlanks_4 : decode cX6_behindBlanks 4 = .ok (.getfield 13, 3) := by decide +kernel
theorem dX6_behindBlanks_7 : decode cX6_behindBlanks 7 = .ok (.if_icmp .ge 29, 3) := by decide +kernel
theorem dX6_behindBlanks_10 : decode cX6_behindBlanks 10 = .ok (.aload_n 0, 1) := by decide +kernel
theorem dX6_behindBlanks_11 : decode cX6_behindBlanks 11 = .ok (.iload_n 2, 1) := by decide +kernel
theorem dX6_behindBlanks_12 : decode cX6_behindBlanks 12 = .ok (.invokevirtual 17, 3) := by decide +kernel
theorem dX6_behindBlanks_15 : decode cX6_behindBlanks 15 = .ok (.bipush 32, 2) := by decide +kernel
theorem dX6_behindBlanks_17 : decode cX6_behindBlanks 17 = .ok (.if_icmp .eq 13, 3) := by decide +kernel
theorem dX6_behindBlanks_20 : decode cX6_behindBlanks 20 = .ok (.aload_n 0, 1) := by decide +kernel
theorem dX6_behindBlanks_21 : decode cX6_behindBlanks 21 = .ok (.iload_n 2, 1) := by decide +kernel
theorem dX6_behindBlanks_22 : decode cX6_behindBlanks 22 = .ok (.invokevirtual 17, 3) := by decide +kernel
theorem dX6_behindBlanks_25 : decode cX6_behindBlanks 25 = .ok (.bipush 10, 2) := by decide +kernel
theorem dX6_behindBlanks_27 : decode cX6_behindBlanks 27 = .ok (.if_icmp .ne 9, 3) := by decide +kernel
theorem dX6_behindBlanks_30 : decode cX6_behindBlanks 30 = .ok (.iinc 2 1, 3) := by decide +kernel
theorem dX6_behindBlanks_33 : decode cX6_behindBlanks 33 = .ok (.goto (-31), 3) := by decide +kernel
theorem dX6_behindBlanks_36 : decode cX6_behindBlanks 36 = .ok (.iload_n 2, 1) := by decide +kernel
theorem dX6_behindBlanks_37 : decode cX6_behindBlanks 37 = .ok (.ireturn, 1) := by decide +kernel
