theorem dX1_init_0 : decode cX1_init 0 = .ok (.aload_n 0, 1) := by decide +kernel
theorem dX1_init_1 : decode cX1_init 1 = .ok (.invokespecial 3, 3) := by decide +kernel
theorem dX1_init_4 : decode cX1_init 4 = .ok (.aload_n 0, 1) := by decide +kernel
theorem dX1_init_5 : decode cX1_init 5 = .ok (.bipush 60, 2) := by decide +kernel
theorem dX1_init_7 : decode cX1_init 7 = .ok (.newarray .int, 2) := by decide +kernel
theorem dX1_init_9 : decode cX1_init 9 = .ok (.putfield 9, 3) := by decide +kernel
theorem dX1_init_12 : decode cX1_init 12 = .ok (.aload_n 0, 1) := by decide +kernel
theorem dX1_init_13 : decode cX1_init 13 = .ok (.sipush 400, 3) := by decide +kernel
theorem dX1_init_16 : decode cX1_init 16 = .ok (.newarray .int, 2) := by decide +kernel
theorem dX1_init_18 : decode cX1_init 18 = .ok (.putfield 15, 3) := by decide +kernel
theorem dX1_init_21 : decode cX1_init 21 = .ok (.aload_n 0, 1) := by decide +kernel
theorem dX1_init_22 : decode cX1_init 22 = .ok (.bipush 10, 2) := by decide +kernel
theorem dX1_init_24 : decode cX1_init 24 = .ok (.newarray .int, 2) := by decide +kernel
theorem dX1_init_26 : decode cX1_init 26 = .ok (.putfield 18, 3) := by decide +kernel
theorem dX1_init_29 : decode cX1_init 29 = .ok (.aload_n 0, 1) := by decide +kernel
theorem dX1_init_30 : decode cX1_init 30 = .ok (.bipush 10, 2) := by decide +kernel
theorem dX1_init_32 : decode cX1_init 32 = .ok (.newarray .int, 2) := by decide +kernel
theorem dX1_init_34 : decode cX1_init 34 = .ok (.putfield 21, 3) := by decide +kernel
theorem dX1_init_37 : decode cX1_init 37 = .ok (.aload_n 0, 1) := by decide +kernel
theorem dX1_init_38 : decode cX1_init 38 = .ok (.bipush 10, 2) := by decide +kernel
theorem dX1_init_40 : decode cX1_init 40 = .ok (.newarray .int, 2) := by decide +kernel
theorem dX1_init_42 : decode cX1_init 42 = .ok (.putfield 24, 3) := by decide +kernel
theorem dX1_init_45 : decode cX1_init 45 = .ok (.aload_n 0, 1) := by decide +kernel
theorem dX1_init_46 : decode cX1_init 46 = .ok (.bipush 10, 2) := by decide +kernel
theorem dX1_init_48 : decode cX1_init 48 = .ok (.newarray .int, 2) := by decide +kernel
theorem dX1_init_50 : decode cX1_init 50 = .ok (.putfield 27, 3) := by decide +kernel
theorem dX1_init_53 : decode cX1_init 53 = .ok (.aload_n 0, 1) := by decide +kernel
theorem dX1_init_54 : decode cX1_init 54 = .ok (.bipush 30, 2) := by decide +kernel
theorem dX1_init_56 : decode cX1_init 56 = .ok (.newarray .int, 2) := by decide +kernel
theorem dX1_init_58 : decode cX1_init 58 = .ok (.putfield 30, 3) := by decide +kernel
theorem dX1_init_61 : decode cX1_init 61 = .ok (.aload_n 0, 1) := by decide +kernel
theorem dX1_init_62 : decode cX1_init 62 = .ok (.bipush 30, 2) := by decide +kernel
theorem dX1_init_64 : decode cX1_init 64 = .ok (.newarray .int, 2) := by decide +kernel
theorem dX1_init_66 : decode cX1_init 66 = .ok (.putfield 33, 3) := by decide +kernel
theorem dX1_init_69 : decode cX1_init 69 = .ok (.aload_n 0, 1) := by decide +kernel
theorem dX1_init_70 : decode cX1_init 70 = .ok (.bipush 30, 2) := by decide +kernel
theorem dX1_init_72 : decode cX1_init 72 = .ok (.newarray .int, 2) := by decide +kernel
theorem dX1_init_74 : decode cX1_init 74 = .ok (.putfield 36, 3) := by decide +kernel
theorem dX1_init_77 : decode cX1_init 77 = .ok (.aload_n 0, 1) := by decide +kernel
theorem dX1_init_78 : decode cX1_init 78 = .ok (.bipush 30, 2) := by decide +kernel
theorem dX1_init_80 : decode cX1_init 80 = .ok (.newarray .int, 2) := by decide +kernel
theorem dX1_init_82 : decode cX1_init 82 = .ok (.putfield 39, 3) := by decide +kernel
theorem dX1_init_85 : decode cX1_init 85 = .ok (.aload_n 0, 1) := by decide +kernel
theorem dX1_init_86 : decode cX1_init 86 = .ok (.bipush 40, 2) := by decide +kernel
theorem dX1_init_88 : decode cX1_init 88 = .ok (.newarray .int, 2) := by decide +kernel
theorem dX1_init_90 : decode cX1_init 90 = .ok (.putfield 42, 3) := by decide +kernel
theorem dX1_init_93 : decode cX1_init 93 = .ok (.return_, 1) := by decide +kernel
theorem dX1_clear_0 : decode cX1_clear 0 = .ok (.aload_n 0, 1) := by decide +kernel
theorem dX1_clear_1 : decode cX1_clear 1 = .ok (.iconst 0, 1) := by decide +kernel
theorem dX1_clear_2 : decode cX1_clear 2 = .ok (.putfield 45, 3) := by decide +kernel
theorem dX1_clear_5 : decode cX1_clear 5 = .ok (.aload_n 0, 1) := by decide +kernel
theorem dX1_clear_6 : decode cX1_clear 6 = .ok (.iconst 0, 1) := by decide +kernel
theorem dX1_clear_7 : decode cX1_clear 7 = .ok (.putfield 49, 3) := by decide +kernel
theorem dX1_clear_10 : decode cX1_clear 10 = .ok (.return_, 1) := by decide +kernel
theorem dX1_copyFrom_0 : decode cX1_copyFrom 0 = .ok (.aload_n 0, 1) := by decide +kernel
theorem dX1_copyFrom_1 : decode cX1_copyFrom 1 = .ok (.aload_n 1, 1) := by decide +kernel
theorem dX1_copyFrom_2 : decode cX1_copyFrom 2 = .ok (.getfield 45, 3) := by decide +kernel
theorem dX1_copyFrom_5 : decode cX1_copyFrom 5 = .ok (.putfield 45, 3) := by decide +kernel
theorem dX1_copyFrom_8 : decode cX1_copyFrom 8 = .ok (.aload_n 1, 1) := by decide +kernel
theorem dX1_copyFrom_9 : decode cX1_copyFrom 9 = .ok (.getfield 9, 3) := by decide +kernel
theorem dX1_copyFrom_12 : decode cX1_copyFrom 12 = .ok (.iconst 0, 1) := by decide +kernel
theorem dX1_copyFrom_13 : decode cX1_copyFrom 13 = .ok (.aload_n 0, 1) := by decide +kernel
theorem dX1_copyFrom_14 : decode cX1_copyFrom 14 = .ok (.getfield 9, 3) := by decide +kernel
theorem dX1_copyFrom_17 : decode cX1_copyFrom 17 = .ok (.iconst 0, 1) := by decide +kernel
theorem dX1_copyFrom_18 : decode cX1_copyFrom 18 = .ok (.bipush 60, 2) := by decide +kernel
theorem dX1_copyFrom_20 : decode cX1_copyFrom 20 = .ok (.invokestatic 52, 3) := by decide +kernel
theorem dX1_copyFrom_23 : decode cX1_copyFrom 23 = .ok (.aload_n 1, 1) := by decide +kernel
theorem dX1_copyFrom_24 : decode cX1_copyFrom 24 = .ok (.getfield 15, 3) := by decide +kernel
theorem dX1_copyFrom_27 : decode cX1_copyFrom 27 = .ok (.iconst 0, 1) := by decide +kernel
theorem dX1_copyFrom_28 : decode cX1_copyFrom 28 = .ok (.aload_n 0, 1) := by decide +kernel
theorem dX1_copyFrom_29 : decode cX1_copyFrom 29 = .ok (.getfield 15, 3) := by decide +kernel
theorem dX1_copyFrom_32 : decode cX1_copyFrom 32 = .ok (.iconst 0, 1) := by decide +kernel
theorem dX1_copyFrom_33 : decode cX1_copyFrom 33 = .ok (.sipush 400, 3) := by decide +kernel
theorem dX1_copyFrom_36 : decode cX1_copyFrom 36 = .ok (.invokestatic 52, 3) := by decide +kernel
theorem dX1_copyFrom_39 : decode cX1_copyFrom 39 = .ok (.aload_n 1, 1) := by decide +kernel
theorem dX1_copyFrom_40 : decode cX1_copyFrom 40 = .ok (.getfield 18, 3) := by decide +kernel
theorem dX1_copyFrom_43 : decode cX1_copyFrom 43 = .ok (.iconst 0, 1) := by decide +kernel
theorem dX1_copyFrom_44 : decode cX1_copyFrom 44 = .ok (.aload_n 0, 1) := by decide +kernel
theorem dX1_copyFrom_45 : decode cX1_copyFrom 45 = .ok (.getfield 18, 3) := by decide +kernel
theorem dX1_copyFrom_48 : decode cX1_copyFrom 48 = .ok (.iconst 0, 1) := by decide +kernel
theorem dX1_copyFrom_49 : decode cX1_copyFrom 49 = .ok (.bipush 10, 2) := by decide +kernel
theorem dX1_copyFrom_51 : decode cX1_copyFrom 51 = .ok (.invokestatic 52, 3) := by decide +kernel
theorem dX1_copyFrom_54 : decode cX1_copyFrom 54 = .ok (.aload_n 1, 1) := by decide +kernel
theorem dX1_copyFrom_55 : decode cX1_copyFrom 55 = .ok (.getfield 21, 3) := by decide +kernel
theorem dX1_copyFrom_58 : decode cX1_copyFrom 58 = .ok (.iconst 0, 1) := by decide +kernel
theorem dX1_copyFrom_59 : decode cX1_copyFrom 59 = .ok (.aload_n 0, 1) := by decide +kernel
theorem dX1_copyFrom_60 : decode cX1_copyFrom 60 = .ok (.getfield 21, 3) := by decide +kernel
theorem dX1_copyFrom_63 : decode cX1_copyFrom 63 = .ok (.iconst 0, 1) := by decide +kernel
theorem dX1_copyFrom_64 : decode cX1_copyFrom 64 = .ok (.bipush 10, 2) := by decide +kernel
theorem dX1_copyFrom_66 : decode cX1_copyFrom 66 = .ok (.invokestatic 52, 3) := by decide +kernel
theorem dX1_copyFrom_69 : decode cX1_copyFrom 69 = .ok (.aload_n 1, 1) := by decide +kernel
theorem dX1_copyFrom_70 : decode cX1_copyFrom 70 = .ok (.getfield 24, 3) := by decide +kernel
theorem dX1_copyFrom_73 : decode cX1_copyFrom 73 = .ok (.iconst 0, 1) := by decide +kernel
theorem dX1_copyFrom_74 : decode cX1_copyFrom 74 = .ok (.aload_n 0, 1) := by decide +kernel
theorem dX1_copyFrom_75 : decode cX1_copyFrom 75 = .ok (.getfield 24, 3) := by decide +kernel
theorem dX1_copyFrom_78 : decode cX1_copyFrom 78 = .ok (.iconst 0, 1) := by decide +kernel
theorem dX1_copyFrom_79 : decode cX1_copyFrom 79 = .ok (.bipush 10, 2) := by decide +kernel
theorem dX1_copyFrom_81 : decode cX1_copyFrom 81 = .ok (.invokestatic 52, 3) := by decide +kernel
theorem dX1_copyFrom_84 : decode cX1_copyFrom 84 = .ok (.aload_n 1, 1) := by decide +kernel
theorem dX1_copyFrom_85 : decode cX1_copyFrom 85 = .ok (.getfield 27, 3) := by decide +kernel
theorem dX1_copyFrom_88 : decode cX1_copyFrom 88 = .ok (.iconst 0, 1) := by decide +kernel
theorem dX1_copyFrom_89 : decode cX1_copyFrom 89 = .ok (.aload_n 0, 1) := by decide +kernel
theorem dX1_copyFrom_90 : decode cX1_copyFrom 90 = .ok (.getfield 27, 3) := by decide +kernel
theorem dX1_copyFrom_93 : decode cX1_copyFrom 93 = .ok (.iconst 0, 1) := by decide +kernel
theorem dX1_copyFrom_94 : decode cX1_copyFrom 94 = .ok (.bipush 10, 2) := by decide +kernel
theorem dX1_copyFrom_96 : decode cX1_copyFrom 96 = .ok (.invokestatic 52, 3) := by decide +kernel
theorem dX1_copyFrom_99 : decode cX1_copyFrom 99 = .ok (.aload_n 0, 1) := by decide +kernel
theorem dX1_copyFrom_100 : decode cX1_copyFrom 100 = .ok (.aload_n 1, 1) := by decide +kernel
theorem dX1_copyFrom_101 : decode cX1_copyFrom 101 = .ok (.getfield 49, 3) := by decide +kernel
theorem dX1_copyFrom_104 : decode cX1_copyFrom 104 = .ok (.putfield 49, 3) := by decide +kernel
theorem dX1_copyFrom_107 : decode cX1_copyFrom 107 = .ok (.aload_n 1, 1) := by decide +kernel
theorem dX1_copyFrom_108 : decode cX1_copyFrom 108 = .ok (.getfield 30, 3) := by decide +kernel
theorem dX1_copyFrom_111 : decode cX1_copyFrom 111 = .ok (.iconst 0, 1) := by decide +kernel
theorem dX1_copyFrom_112 : decode cX1_copyFrom 112 = .ok (.aload_n 0, 1) := by decide +kernel
theorem dX1_copyFrom_113 : decode cX1_copyFrom 113 = .ok (.getfield 30, 3) := by decide +kernel
theorem dX1_copyFrom_116 : decode cX1_copyFrom 116 = .ok (.iconst 0, 1) := by decide +kernel
theorem dX1_copyFrom_117 : decode cX1_copyFrom 117 = .ok (.bipush 30, 2) := by decide +kernel
theorem dX1_copyFrom_119 : decode cX1_copyFrom 119 = .ok (.invokestatic 52, 3) := by decide +kernel
theorem dX1_copyFrom_122 : decode cX1_copyFrom 122 = .ok (.aload_n 1, 1) := by decide +kernel
theorem dX1_copyFrom_123 : decode cX1_copyFrom 123 = .ok (.getfield 33, 3) := by decide +kernel
theorem dX1_copyFrom_126 : decode cX1_copyFrom 126 = .ok (.iconst 0, 1) := by decide +kernel
theorem dX1_copyFrom_127 : decode cX1_copyFrom 127 = .ok (.aload_n 0, 1) := by decide +kernel
theorem dX1_copyFrom_128 : decode cX1_copyFrom 128 = .ok (.getfield 33, 3) := by decide +kernel
theorem dX1_copyFrom_131 : decode cX1_copyFrom 131 = .ok (.iconst 0, 1) := by decide +kernel
theorem dX1_copyFrom_132 : decode cX1_copyFrom 132 = .ok (.bipush 30, 2) := by decide +kernel
theorem dX1_copyFrom_134 : decode cX1_copyFrom 134 = .ok (.invokestatic 52, 3) := by decide +kernel
theorem dX1_copyFrom_137 : decode cX1_copyFrom 137 = .ok (.aload_n 1, 1) := by decide +kernel
theorem dX1_copyFrom_138 : decode cX1_copyFrom 138 = .ok (.getfield 36, 3) := by decide +kernel
theorem dX1_copyFrom_141 : decode cX1_copyFrom 141 = .ok (.iconst 0, 1) := by decide +kernel
theorem dX1_copyFrom_142 : decode cX1_copyFrom 142 = .ok (.aload_n 0, 1) := by decide +kernel
theorem dX1_copyFrom_143 : decode cX1_copyFrom 143 = .ok (.getfield 36, 3) := by decide +kernel
theorem dX1_copyFrom_146 : decode cX1_copyFrom 146 = .ok (.iconst 0, 1) := by decide +kernel
theorem dX1_copyFrom_147 : decode cX1_copyFrom 147 = .ok (.bipush 30, 2) := by decide +kernel
theorem dX1_copyFrom_149 : decode cX1_copyFrom 149 = .ok (.invokestatic 52, 3) := by decide +kernel
theorem dX1_copyFrom_152 : decode cX1_copyFrom 152 = .ok (.aload_n 1, 1) := by decide +kernel
theorem dX1_copyFrom_153 : decode cX1_copyFrom 153 = .ok (.getfield 39, 3) := by decide +kernel
theorem dX1_copyFrom_156 : decode cX1_copyFrom 156 = .ok (.iconst 0, 1) := by decide +kernel
theorem dX1_copyFrom_157 : decode cX1_copyFrom 157 = .ok (.aload_n 0, 1) := by decide +kernel
theorem dX1_copyFrom_158 : decode cX1_copyFrom 158 = .ok (.getfield 39, 3) := by decide +kernel
theorem dX1_copyFrom_161 : decode cX1_copyFrom 161 = .ok (.iconst 0, 1) := by decide +kernel
theorem dX1_copyFrom_162 : decode cX1_copyFrom 162 = .ok (.bipush 30, 2) := by decide +kernel
theorem dX1_copyFrom_164 : decode cX1_copyFrom 164 = .ok (.invokestatic 52, 3) := by decide +kernel
theorem dX1_copyFrom_167 : decode cX1_copyFrom 167 = .ok (.return_, 1) := by decide +kernel
theorem dX1_has_0 : decode cX1_has 0 = .ok (.iload_n 1, 1) := by decide +kernel
theorem dX1_has_1 : decode cX1_has 1 = .ok (.ifCond .lt 15, 3) := by decide +kernel
theorem dX1_has_4 : decode cX1_has 4 = .ok (.iload_n 1, 1) := by decide +kernel
theorem dX1_has_5 : decode cX1_has 5 = .ok (.aload_n 0, 1) := by decide +kernel
theorem dX1_has_6 : decode cX1_has 6 = .ok (.getfield 45, 3) := by decide +kernel
theorem dX1_has_9 : decode cX1_has 9 = .ok (.if_icmp .ge 7, 3) := by decide +kernel
theorem dX1_has_12 : decode cX1_has 12 = .ok (.iconst 1, 1) := by decide +kernel
theorem dX1_has_13 : decode cX1_has 13 = .ok (.goto 4, 3) := by decide +kernel
theorem dX1_has_16 : decode cX1_has 16 = .ok (.iconst 0, 1) := by decide +kernel
theorem dX1_has_17 : decode cX1_has 17 = .ok (.ireturn, 1) := by decide +kernel
theorem dX1_make_0 : decode cX1_make 0 = .ok (.aload_n 0, 1) := by decide +kernel
theorem dX1_make_1 : decode cX1_make 1 = .ok (.getfield 45, 3) := by decide +kernel
theorem dX1_make_4 : decode cX1_make 4 = .ok (.istore 5, 2) := by decide +kernel
theorem dX1_make_6 : decode cX1_make 6 = .ok (.iconst 0, 1) := by decide +kernel
theorem dX1_make_7 : decode cX1_make 7 = .ok (.istore 6, 2) := by decide +kernel
theorem dX1_make_9 : decode cX1_make 9 = .ok (.iload 6, 2) := by decide +kernel
theorem dX1_make_11 : decode cX1_make 11 = .ok (.iload_n 2, 1) := by decide +kernel
theorem dX1_make_12 : decode cX1_make 12 = .ok (.if_icmp .ge 37, 3) := by decide +kernel
theorem dX1_make_15 : decode cX1_make 15 = .ok (.aload_n 0, 1) := by decide +kernel
theorem dX1_make_16 : decode cX1_make 16 = .ok (.getfield 15, 3) := by decide +kernel
theorem dX1_make_19 : decode cX1_make 19 = .ok (.iload 5, 2) := by decide +kernel
theorem dX1_make_21 : decode cX1_make 21 = .ok (.bipush 40, 2) := by decide +kernel
theorem dX1_make_23 : decode cX1_make 23 = .ok (.imul, 1) := by decide +kernel
theorem dX1_make_24 : decode cX1_make 24 = .ok (.iload 6, 2) := by decide +kernel
theorem dX1_make_26 : decode cX1_make 26 = .ok (.iadd, 1) := by decide +kernel
theorem dX1_make_27 : decode cX1_make 27 = .ok (.aload_n 1, 1) := by decide +kernel
theorem dX1_make_28 : decode cX1_make 28 = .ok (.iload 6, 2) := by decide +kernel
theorem dX1_make_30 : decode cX1_make 30 = .ok (.iaload, 1) := by decide +kernel
theorem dX1_make_31 : decode cX1_make 31 = .ok (.iastore, 1) := by decide +kernel
theorem dX1_make_32 : decode cX1_make 32 = .ok (.aload_n 0, 1) := by decide +kernel
theorem dX1_make_33 : decode cX1_make 33 = .ok (.getfield 9, 3) := by decide +kernel
theorem dX1_make_36 : decode cX1_make 36 = .ok (.aload_n 1, 1) := by decide +kernel
theorem dX1_make_37 : decode cX1_make 37 = .ok (.iload 6, 2) := by decide +kernel
theorem dX1_make_39 : decode cX1_make 39 = .ok (.iaload, 1) := by decide +kernel
theorem dX1_make_40 : decode cX1_make 40 = .ok (.iload 5, 2) := by decide +kernel
theorem dX1_make_42 : decode cX1_make 42 = .ok (.iastore, 1) := by decide +kernel
theorem dX1_make_43 : decode cX1_make 43 = .ok (.iinc 6 1, 3) := by decide +kernel
theorem dX1_make_46 : decode cX1_make 46 = .ok (.goto (-37), 3) := by decide +kernel
theorem dX1_make_49 : decode cX1_make 49 = .ok (.aload_n 0, 1) := by decide +kernel
theorem dX1_make_50 : decode cX1_make 50 = .ok (.getfield 18, 3) := by decide +kernel
theorem dX1_make_53 : decode cX1_make 53 = .ok (.iload 5, 2) := by decide +kernel
theorem dX1_make_55 : decode cX1_make 55 = .ok (.iload_n 2, 1) := by decide +kernel
theorem dX1_make_56 : decode cX1_make 56 = .ok (.iastore, 1) := by decide +kernel
theorem dX1_make_57 : decode cX1_make 57 = .ok (.aload_n 0, 1) := by decide +kernel
theorem dX1_make_58 : decode cX1_make 58 = .ok (.getfield 21, 3) := by decide +kernel
theorem dX1_make_61 : decode cX1_make 61 = .ok (.iload 5, 2) := by decide +kernel
theorem dX1_make_63 : decode cX1_make 63 = .ok (.iload_n 3, 1) := by decide +kernel
theorem dX1_make_64 : decode cX1_make 64 = .ok (.iastore, 1) := by decide +kernel
theorem dX1_make_65 : decode cX1_make 65 = .ok (.aload_n 0, 1) := by decide +kernel
theorem dX1_make_66 : decode cX1_make 66 = .ok (.getfield 24, 3) := by decide +kernel
theorem dX1_make_69 : decode cX1_make 69 = .ok (.iload 5, 2) := by decide +kernel
theorem dX1_make_71 : decode cX1_make 71 = .ok (.iload 4, 2) := by decide +kernel
theorem dX1_make_73 : decode cX1_make 73 = .ok (.iastore, 1) := by decide +kernel
theorem dX1_make_74 : decode cX1_make 74 = .ok (.aload_n 0, 1) := by decide +kernel
theorem dX1_make_75 : decode cX1_make 75 = .ok (.getfield 27, 3) := by decide +kernel
theorem dX1_make_78 : decode cX1_make 78 = .ok (.iload 5, 2) := by decide +kernel
theorem dX1_make_80 : decode cX1_make 80 = .ok (.iload 4, 2) := by decide +kernel
theorem dX1_make_82 : decode cX1_make 82 = .ok (.iastore, 1) := by decide +kernel
theorem dX1_make_83 : decode cX1_make 83 = .ok (.aload_n 0, 1) := by decide +kernel
theorem dX1_make_84 : decode cX1_make 84 = .ok (.dup, 1) := by decide +kernel
theorem dX1_make_85 : decode cX1_make 85 = .ok (.getfield 45, 3) := by decide +kernel
theorem dX1_make_88 : decode cX1_make 88 = .ok (.iconst 1, 1) := by decide +kernel
theorem dX1_make_89 : decode cX1_make 89 = .ok (.iadd, 1) := by decide +kernel
theorem dX1_make_90 : decode cX1_make 90 = .ok (.putfield 45, 3) := by decide +kernel
theorem dX1_make_93 : decode cX1_make 93 = .ok (.iload 5, 2) := by decide +kernel
theorem dX1_make_95 : decode cX1_make 95 = .ok (.ireturn, 1) := by decide +kernel
theorem dX1_exchange_0 : decode cX1_exchange 0 = .ok (.aload_n 0, 1) := by decide +kernel
theorem dX1_exchange_1 : decode cX1_exchange 1 = .ok (.iload_n 1, 1) := by decide +kernel
theorem dX1_exchange_2 : decode cX1_exchange 2 = .ok (.iload_n 2, 1) := by decide +kernel
theorem dX1_exchange_3 : decode cX1_exchange 3 = .ok (.invokevirtual 58, 3) := by decide +kernel
theorem dX1_exchange_6 : decode cX1_exchange 6 = .ok (.istore 5, 2) := by decide +kernel
theorem dX1_exchange_8 : decode cX1_exchange 8 = .ok (.iload 5, 2) := by decide +kernel
theorem dX1_exchange_10 : decode cX1_exchange 10 = .ok (.iconst (-1), 1) := by decide +kernel
theorem dX1_exchange_11 : decode cX1_exchange 11 = .ok (.if_icmp .eq 12, 3) := by decide +kernel
theorem dX1_exchange_14 : decode cX1_exchange 14 = .ok (.aload_n 0, 1) := by decide +kernel
theorem dX1_exchange_15 : decode cX1_exchange 15 = .ok (.getfield 49, 3) := by decide +kernel
theorem dX1_exchange_18 : decode cX1_exchange 18 = .ok (.bipush 30, 2) := by decide +kernel
theorem dX1_exchange_20 : decode cX1_exchange 20 = .ok (.if_icmp .lt 5, 3) := by decide +kernel
theorem dX1_exchange_23 : decode cX1_exchange 23 = .ok (.iconst 0, 1) := by decide +kernel
theorem dX1_exchange_24 : decode cX1_exchange 24 = .ok (.ireturn, 1) := by decide +kernel
theorem dX1_exchange_25 : decode cX1_exchange 25 = .ok (.aload_n 0, 1) := by decide +kernel
theorem dX1_exchange_26 : decode cX1_exchange 26 = .ok (.getfield 30, 3) := by decide +kernel
theorem dX1_exchange_29 : decode cX1_exchange 29 = .ok (.aload_n 0, 1) := by decide +kernel
theorem dX1_exchange_30 : decode cX1_exchange 30 = .ok (.getfield 49, 3) := by decide +kernel
theorem dX1_exchange_33 : decode cX1_exchange 33 = .ok (.iload_n 1, 1) := by decide +kernel
theorem dX1_exchange_34 : decode cX1_exchange 34 = .ok (.iastore, 1) := by decide +kernel
theorem dX1_exchange_35 : decode cX1_exchange 35 = .ok (.aload_n 0, 1) := by decide +kernel
theorem dX1_exchange_36 : decode cX1_exchange 36 = .ok (.getfield 33, 3) := by decide +kernel
theorem dX1_exchange_39 : decode cX1_exchange 39 = .ok (.aload_n 0, 1) := by decide +kernel
theorem dX1_exchange_40 : decode cX1_exchange 40 = .ok (.getfield 49, 3) := by decide +kernel
theorem dX1_exchange_43 : decode cX1_exchange 43 = .ok (.iload 5, 2) := by decide +kernel
theorem dX1_exchange_45 : decode cX1_exchange 45 = .ok (.iastore, 1) := by decide +kernel
theorem dX1_exchange_46 : decode cX1_exchange 46 = .ok (.aload_n 0, 1) := by decide +kernel
theorem dX1_exchange_47 : decode cX1_exchange 47 = .ok (.getfield 36, 3) := by decide +kernel
theorem dX1_exchange_50 : decode cX1_exchange 50 = .ok (.aload_n 0, 1) := by decide +kernel
theorem dX1_exchange_51 : decode cX1_exchange 51 = .ok (.getfield 49, 3) := by decide +kernel
theorem dX1_exchange_54 : decode cX1_exchange 54 = .ok (.iload_n 2, 1) := by decide +kernel
theorem dX1_exchange_55 : decode cX1_exchange 55 = .ok (.iastore, 1) := by decide +kernel
theorem dX1_exchange_56 : decode cX1_exchange 56 = .ok (.aload_n 0, 1) := by decide +kernel
theorem dX1_exchange_57 : decode cX1_exchange 57 = .ok (.getfield 39, 3) := by decide +kernel
theorem dX1_exchange_60 : decode cX1_exchange 60 = .ok (.aload_n 0, 1) := by decide +kernel
theorem dX1_exchange_61 : decode cX1_exchange 61 = .ok (.getfield 49, 3) := by decide +kernel
theorem dX1_exchange_64 : decode cX1_exchange 64 = .ok (.iload 4, 2) := by decide +kernel
theorem dX1_exchange_66 : decode cX1_exchange 66 = .ok (.iastore, 1) := by decide +kernel
theorem dX1_exchange_67 : decode cX1_exchange 67 = .ok (.aload_n 0, 1) := by decide +kernel
theorem dX1_exchange_68 : decode cX1_exchange 68 = .ok (.dup, 1) := by decide +kernel
theorem dX1_exchange_69 : decode cX1_exchange 69 = .ok (.getfield 49, 3) := by decide +kernel
theorem dX1_exchange_72 : decode cX1_exchange 72 = .ok (.iconst 1, 1) := by decide +kernel
theorem dX1_exchange_73 : decode cX1_exchange 73 = .ok (.iadd, 1) := by decide +kernel
theorem dX1_exchange_74 : decode cX1_exchange 74 = .ok (.putfield 49, 3) := by decide +kernel
theorem dX1_exchange_77 : decode cX1_exchange 77 = .ok (.aload_n 0, 1) := by decide +kernel
theorem dX1_exchange_78 : decode cX1_exchange 78 = .ok (.getfield 15, 3) := by decide +kernel
theorem dX1_exchange_81 : decode cX1_exchange 81 = .ok (.iload_n 1, 1) := by decide +kernel
theorem dX1_exchange_82 : decode cX1_exchange 82 = .ok (.bipush 40, 2) := by decide +kernel
theorem dX1_exchange_84 : decode cX1_exchange 84 = .ok (.imul, 1) := by decide +kernel
theorem dX1_exchange_85 : decode cX1_exchange 85 = .ok (.iload 5, 2) := by decide +kernel
theorem dX1_exchange_87 : decode cX1_exchange 87 = .ok (.iadd, 1) := by decide +kernel
theorem dX1_exchange_88 : decode cX1_exchange 88 = .ok (.iload_n 3, 1) := by decide +kernel
theorem dX1_exchange_89 : decode cX1_exchange 89 = .ok (.iastore, 1) := by decide +kernel
theorem dX1_exchange_90 : decode cX1_exchange 90 = .ok (.aload_n 0, 1) := by decide +kernel
theorem dX1_exchange_91 : decode cX1_exchange 91 = .ok (.getfield 9, 3) := by decide +kernel
theorem dX1_exchange_94 : decode cX1_exchange 94 = .ok (.iload_n 2, 1) := by decide +kernel
theorem dX1_exchange_95 : decode cX1_exchange 95 = .ok (.iconst (-1), 1) := by decide +kernel
theorem dX1_exchange_96 : decode cX1_exchange 96 = .ok (.iastore, 1) := by decide +kernel
theorem dX1_exchange_97 : decode cX1_exchange 97 = .ok (.aload_n 0, 1) := by decide +kernel
theorem dX1_exchange_98 : decode cX1_exchange 98 = .ok (.getfield 9, 3) := by decide +kernel
theorem dX1_exchange_101 : decode cX1_exchange 101 = .ok (.iload_n 3, 1) := by decide +kernel
theorem dX1_exchange_102 : decode cX1_exchange 102 = .ok (.iload_n 1, 1) := by decide +kernel
theorem dX1_exchange_103 : decode cX1_exchange 103 = .ok (.iastore, 1) := by decide +kernel
theorem dX1_exchange_104 : decode cX1_exchange 104 = .ok (.aload_n 0, 1) := by decide +kernel
theorem dX1_exchange_105 : decode cX1_exchange 105 = .ok (.getfield 27, 3) := by decide +kernel
theorem dX1_exchange_108 : decode cX1_exchange 108 = .ok (.iload_n 1, 1) := by decide +kernel
theorem dX1_exchange_109 : decode cX1_exchange 109 = .ok (.iload 4, 2) := by decide +kernel
theorem dX1_exchange_111 : decode cX1_exchange 111 = .ok (.iastore, 1) := by decide +kernel
theorem dX1_exchange_112 : decode cX1_exchange 112 = .ok (.iconst 1, 1) := by decide +kernel
theorem dX1_exchange_113 : decode cX1_exchange 113 = .ok (.ireturn, 1) := by decide +kernel
theorem dX1_cellAt_0 : decode cX1_cellAt 0 = .ok (.aload_n 0, 1) := by decide +kernel
theorem dX1_cellAt_1 : decode cX1_cellAt 1 = .ok (.getfield 15, 3) := by decide +kernel
theorem dX1_cellAt_4 : decode cX1_cellAt 4 = .ok (.iload_n 1, 1) := by decide +kernel
theorem dX1_cellAt_5 : decode cX1_cellAt 5 = .ok (.bipush 40, 2) := by decide +kernel
theorem dX1_cellAt_7 : decode cX1_cellAt 7 = .ok (.imul, 1) := by decide +kernel
theorem dX1_cellAt_8 : decode cX1_cellAt 8 = .ok (.iload_n 2, 1) := by decide +kernel
theorem dX1_cellAt_9 : decode cX1_cellAt 9 = .ok (.iadd, 1) := by decide +kernel
theorem dX1_cellAt_10 : decode cX1_cellAt 10 = .ok (.iaload, 1) := by decide +kernel
theorem dX1_cellAt_11 : decode cX1_cellAt 11 = .ok (.ireturn, 1) := by decide +kernel
theorem dX1_placeOf_0 : decode cX1_placeOf 0 = .ok (.iconst 0, 1) := by decide +kernel
theorem dX1_placeOf_1 : decode cX1_placeOf 1 = .ok (.istore_n 3, 1) := by decide +kernel
theorem dX1_placeOf_2 : decode cX1_placeOf 2 = .ok (.iload_n 3, 1) := by decide +kernel
theorem dX1_placeOf_3 : decode cX1_placeOf 3 = .ok (.aload_n 0, 1) := by decide +kernel
theorem dX1_placeOf_4 : decode cX1_placeOf 4 = .ok (.getfield 18, 3) := by decide +kernel
theorem dX1_placeOf_7 : decode cX1_placeOf 7 = .ok (.iload_n 1, 1) := by decide +kernel
theorem dX1_placeOf_8 : decode cX1_placeOf 8 = .ok (.iaload, 1) := by decide +kernel
theorem dX1_placeOf_9 : decode cX1_placeOf 9 = .ok (.if_icmp .ge 21, 3) := by decide +kernel
theorem dX1_placeOf_12 : decode cX1_placeOf 12 = .ok (.aload_n 0, 1) := by decide +kernel
theorem dX1_placeOf_13 : decode cX1_placeOf 13 = .ok (.iload_n 1, 1) := by decide +kernel
theorem dX1_placeOf_14 : decode cX1_placeOf 14 = .ok (.iload_n 3, 1) := by decide +kernel
theorem dX1_placeOf_15 : decode cX1_placeOf 15 = .ok (.invokevirtual 62, 3) := by decide +kernel
theorem dX1_placeOf_18 : decode cX1_placeOf 18 = .ok (.iload_n 2, 1) := by decide +kernel
theorem dX1_placeOf_19 : decode cX1_placeOf 19 = .ok (.if_icmp .ne 5, 3) := by decide +kernel
theorem dX1_placeOf_22 : decode cX1_placeOf 22 = .ok (.iload_n 3, 1) := by decide +kernel
theorem dX1_placeOf_23 : decode cX1_placeOf 23 = .ok (.ireturn, 1) := by decide +kernel
theorem dX1_placeOf_24 : decode cX1_placeOf 24 = .ok (.iinc 3 1, 3) := by decide +kernel
theorem dX1_placeOf_27 : decode cX1_placeOf 27 = .ok (.goto (-25), 3) := by decide +kernel
theorem dX1_placeOf_30 : decode cX1_placeOf 30 = .ok (.iconst (-1), 1) := by decide +kernel
theorem dX1_placeOf_31 : decode cX1_placeOf 31 = .ok (.ireturn, 1) := by decide +kernel
theorem dX1_rowSize_0 : decode cX1_rowSize 0 = .ok (.aload_n 0, 1) := by decide +kernel
theorem dX1_rowSize_1 : decode cX1_rowSize 1 = .ok (.getfield 18, 3) := by decide +kernel
theorem dX1_rowSize_4 : decode cX1_rowSize 4 = .ok (.iload_n 1, 1) := by decide +kernel
theorem dX1_rowSize_5 : decode cX1_rowSize 5 = .ok (.iaload, 1) := by decide +kernel
theorem dX1_rowSize_6 : decode cX1_rowSize 6 = .ok (.aload_n 0, 1) := by decide +kernel
theorem dX1_rowSize_7 : decode cX1_rowSize 7 = .ok (.getfield 21, 3) := by decide +kernel
theorem dX1_rowSize_10 : decode cX1_rowSize 10 = .ok (.iload_n 1, 1) := by decide +kernel
theorem dX1_rowSize_11 : decode cX1_rowSize 11 = .ok (.iaload, 1) := by decide +kernel
theorem dX1_rowSize_12 : decode cX1_rowSize 12 = .ok (.invokestatic 65, 3) := by decide +kernel
theorem dX1_rowSize_15 : decode cX1_rowSize 15 = .ok (.ireturn, 1) := by decide +kernel
theorem dX1_holdOf_0 : decode cX1_holdOf 0 = .ok (.aload_n 0, 1) := by decide +kernel
theorem dX1_holdOf_1 : decode cX1_holdOf 1 = .ok (.iload_n 1, 1) := by decide +kernel
theorem dX1_holdOf_2 : decode cX1_holdOf 2 = .ok (.invokevirtual 68, 3) := by decide +kernel
theorem dX1_holdOf_5 : decode cX1_holdOf 5 = .ok (.istore 4, 2) := by decide +kernel
theorem dX1_holdOf_7 : decode cX1_holdOf 7 = .ok (.iconst 0, 1) := by decide +kernel
theorem dX1_holdOf_8 : decode cX1_holdOf 8 = .ok (.istore 5, 2) := by decide +kernel
theorem dX1_holdOf_10 : decode cX1_holdOf 10 = .ok (.iconst 0, 1) := by decide +kernel
theorem dX1_holdOf_11 : decode cX1_holdOf 11 = .ok (.istore 6, 2) := by decide +kernel
theorem dX1_holdOf_13 : decode cX1_holdOf 13 = .ok (.iload 6, 2) := by decide +kernel
theorem dX1_holdOf_15 : decode cX1_holdOf 15 = .ok (.iload 4, 2) := by decide +kernel
theorem dX1_holdOf_17 : decode cX1_holdOf 17 = .ok (.if_icmp .ge 31, 3) := by decide +kernel
theorem dX1_holdOf_20 : decode cX1_holdOf 20 = .ok (.iload 5, 2) := by decide +kernel
theorem dX1_holdOf_22 : decode cX1_holdOf 22 = .ok (.aload_n 3, 1) := by decide +kernel
theorem dX1_holdOf_23 : decode cX1_holdOf 23 = .ok (.getfield 72, 3) := by decide +kernel
theorem dX1_holdOf_26 : decode cX1_holdOf 26 = .ok (.aload_n 0, 1) := by decide +kernel
theorem dX1_holdOf_27 : decode cX1_holdOf 27 = .ok (.iload_n 1, 1) := by decide +kernel
theorem dX1_holdOf_28 : decode cX1_holdOf 28 = .ok (.iload_n 2, 1) := by decide +kernel
theorem dX1_holdOf_29 : decode cX1_holdOf 29 = .ok (.iload 4, 2) := by decide +kernel
theorem dX1_holdOf_31 : decode cX1_holdOf 31 = .ok (.imul, 1) := by decide +kernel
theorem dX1_holdOf_32 : decode cX1_holdOf 32 = .ok (.iload 6, 2) := by decide +kernel
theorem dX1_holdOf_34 : decode cX1_holdOf 34 = .ok (.iadd, 1) := by decide +kernel
theorem dX1_holdOf_35 : decode cX1_holdOf 35 = .ok (.invokevirtual 62, 3) := by decide +kernel
theorem dX1_holdOf_38 : decode cX1_holdOf 38 = .ok (.iaload, 1) := by decide +kernel
theorem dX1_holdOf_39 : decode cX1_holdOf 39 = .ok (.iadd, 1) := by decide +kernel
theorem dX1_holdOf_40 : decode cX1_holdOf 40 = .ok (.istore 5, 2) := by decide +kernel
theorem dX1_holdOf_42 : decode cX1_holdOf 42 = .ok (.iinc 6 1, 3) := by decide +kernel
theorem dX1_holdOf_45 : decode cX1_holdOf 45 = .ok (.goto (-32), 3) := by decide +kernel
theorem dX1_holdOf_48 : decode cX1_holdOf 48 = .ok (.iload 5, 2) := by decide +kernel
theorem dX1_holdOf_50 : decode cX1_holdOf 50 = .ok (.ireturn, 1) := by decide +kernel
theorem dX1_flowOf_0 : decode cX1_flowOf 0 = .ok (.aload_n 0, 1) := by decide +kernel
theorem dX1_flowOf_1 : decode cX1_flowOf 1 = .ok (.iload_n 1, 1) := by decide +kernel
theorem dX1_flowOf_2 : decode cX1_flowOf 2 = .ok (.invokevirtual 68, 3) := by decide +kernel
theorem dX1_flowOf_5 : decode cX1_flowOf 5 = .ok (.istore 4, 2) := by decide +kernel
theorem dX1_flowOf_7 : decode cX1_flowOf 7 = .ok (.iconst 0, 1) := by decide +kernel
theorem dX1_flowOf_8 : decode cX1_flowOf 8 = .ok (.istore 5, 2) := by decide +kernel
theorem dX1_flowOf_10 : decode cX1_flowOf 10 = .ok (.iconst 0, 1) := by decide +kernel
theorem dX1_flowOf_11 : decode cX1_flowOf 11 = .ok (.istore 6, 2) := by decide +kernel
theorem dX1_flowOf_13 : decode cX1_flowOf 13 = .ok (.iload 6, 2) := by decide +kernel
theorem dX1_flowOf_15 : decode cX1_flowOf 15 = .ok (.iload 4, 2) := by decide +kernel
theorem dX1_flowOf_17 : decode cX1_flowOf 17 = .ok (.if_icmp .ge 30, 3) := by decide +kernel
theorem dX1_flowOf_20 : decode cX1_flowOf 20 = .ok (.iload 5, 2) := by decide +kernel
theorem dX1_flowOf_22 : decode cX1_flowOf 22 = .ok (.aload_n 3, 1) := by decide +kernel
theorem dX1_flowOf_23 : decode cX1_flowOf 23 = .ok (.aload_n 0, 1) := by decide +kernel
theorem dX1_flowOf_24 : decode cX1_flowOf 24 = .ok (.iload_n 1, 1) := by decide +kernel
theorem dX1_flowOf_25 : decode cX1_flowOf 25 = .ok (.iload_n 2, 1) := by decide +kernel
theorem dX1_flowOf_26 : decode cX1_flowOf 26 = .ok (.iload 4, 2) := by decide +kernel
theorem dX1_flowOf_28 : decode cX1_flowOf 28 = .ok (.imul, 1) := by decide +kernel
theorem dX1_flowOf_29 : decode cX1_flowOf 29 = .ok (.iload 6, 2) := by decide +kernel
theorem dX1_flowOf_31 : decode cX1_flowOf 31 = .ok (.iadd, 1) := by decide +kernel
theorem dX1_flowOf_32 : decode cX1_flowOf 32 = .ok (.invokevirtual 62, 3) := by decide +kernel
theorem dX1_flowOf_35 : decode cX1_flowOf 35 = .ok (.invokevirtual 77, 3) := by decide +kernel
theorem dX1_flowOf_38 : decode cX1_flowOf 38 = .ok (.iadd, 1) := by decide +kernel
theorem dX1_flowOf_39 : decode cX1_flowOf 39 = .ok (.istore 5, 2) := by decide +kernel
theorem dX1_flowOf_41 : decode cX1_flowOf 41 = .ok (.iinc 6 1, 3) := by decide +kernel
theorem dX1_flowOf_44 : decode cX1_flowOf 44 = .ok (.goto (-31), 3) := by decide +kernel
theorem dX1_flowOf_47 : decode cX1_flowOf 47 = .ok (.iload 5, 2) := by decide +kernel
theorem dX1_flowOf_49 : decode cX1_flowOf 49 = .ok (.ireturn, 1) := by decide +kernel
theorem dX1_cyclesOf_0 : decode cX1_cyclesOf 0 = .ok (.aload_n 0, 1) := by decide +kernel
theorem dX1_cyclesOf_1 : decode cX1_cyclesOf 1 = .ok (.iload_n 1, 1) := by decide +kernel
theorem dX1_cyclesOf_2 : decode cX1_cyclesOf 2 = .ok (.iload_n 2, 1) := by decide +kernel
theorem dX1_cyclesOf_3 : decode cX1_cyclesOf 3 = .ok (.aload_n 3, 1) := by decide +kernel
theorem dX1_cyclesOf_4 : decode cX1_cyclesOf 4 = .ok (.invokevirtual 80, 3) := by decide +kernel
theorem dX1_cyclesOf_7 : decode cX1_cyclesOf 7 = .ok (.aload_n 0, 1) := by decide +kernel
theorem dX1_cyclesOf_8 : decode cX1_cyclesOf 8 = .ok (.iload_n 1, 1) := by decide +kernel
theorem dX1_cyclesOf_9 : decode cX1_cyclesOf 9 = .ok (.iload_n 2, 1) := by decide +kernel
theorem dX1_cyclesOf_10 : decode cX1_cyclesOf 10 = .ok (.aload_n 3, 1) := by decide +kernel
theorem dX1_cyclesOf_11 : decode cX1_cyclesOf 11 = .ok (.invokevirtual 84, 3) := by decide +kernel
theorem dX1_cyclesOf_14 : decode cX1_cyclesOf 14 = .ok (.aload 4, 2) := by decide +kernel
theorem dX1_cyclesOf_16 : decode cX1_cyclesOf 16 = .ok (.invokestatic 86, 3) := by decide +kernel
theorem dX1_cyclesOf_19 : decode cX1_cyclesOf 19 = .ok (.ireturn, 1) := by decide +kernel
theorem dX1_cyclesBy_0 : decode cX1_cyclesBy 0 = .ok (.ldc2_w 90, 3) := by decide +kernel
theorem dX1_cyclesBy_3 : decode cX1_cyclesBy 3 = .ok (.aload_n 2, 1) := by decide +kernel
theorem dX1_cyclesBy_4 : decode cX1_cyclesBy 4 = .ok (.getfield 92, 3) := by decide +kernel
theorem dX1_cyclesBy_7 : decode cX1_cyclesBy 7 = .ok (.iconst 0, 1) := by decide +kernel
theorem dX1_cyclesBy_8 : decode cX1_cyclesBy 8 = .ok (.iaload, 1) := by decide +kernel
theorem dX1_cyclesBy_9 : decode cX1_cyclesBy 9 = .ok (.i2l, 1) := by decide +kernel
theorem dX1_cyclesBy_10 : decode cX1_cyclesBy 10 = .ok (.lmul, 1) := by decide +kernel
theorem dX1_cyclesBy_11 : decode cX1_cyclesBy 11 = .ok (.aload_n 2, 1) := by decide +kernel
theorem dX1_cyclesBy_12 : decode cX1_cyclesBy 12 = .ok (.getfield 92, 3) := by decide +kernel
theorem dX1_cyclesBy_15 : decode cX1_cyclesBy 15 = .ok (.iconst 1, 1) := by decide +kernel
theorem dX1_cyclesBy_16 : decode cX1_cyclesBy 16 = .ok (.iaload, 1) := by decide +kernel
theorem dX1_cyclesBy_17 : decode cX1_cyclesBy 17 = .ok (.i2l, 1) := by decide +kernel
theorem dX1_cyclesBy_18 : decode cX1_cyclesBy 18 = .ok (.ldc 97, 2) := by decide +kernel
theorem dX1_cyclesBy_20 : decode cX1_cyclesBy 20 = .ok (.iload_n 1, 1) := by decide +kernel
theorem dX1_cyclesBy_21 : decode cX1_cyclesBy 21 = .ok (.invokestatic 65, 3) := by decide +kernel
theorem dX1_cyclesBy_24 : decode cX1_cyclesBy 24 = .ok (.i2l, 1) := by decide +kernel
theorem dX1_cyclesBy_25 : decode cX1_cyclesBy 25 = .ok (.lmul, 1) := by decide +kernel
theorem dX1_cyclesBy_26 : decode cX1_cyclesBy 26 = .ok (.ldc2_w 90, 3) := by decide +kernel
theorem dX1_cyclesBy_29 : decode cX1_cyclesBy 29 = .ok (.ldiv, 1) := by decide +kernel
theorem dX1_cyclesBy_30 : decode cX1_cyclesBy 30 = .ok (.ladd, 1) := by decide +kernel
theorem dX1_cyclesBy_31 : decode cX1_cyclesBy 31 = .ok (.lstore_n 3, 1) := by decide +kernel
theorem dX1_cyclesBy_32 : decode cX1_cyclesBy 32 = .ok (.iload_n 0, 1) := by decide +kernel
theorem dX1_cyclesBy_33 : decode cX1_cyclesBy 33 = .ok (.aload_n 2, 1) := by decide +kernel
theorem dX1_cyclesBy_34 : decode cX1_cyclesBy 34 = .ok (.getfield 92, 3) := by decide +kernel
theorem dX1_cyclesBy_37 : decode cX1_cyclesBy 37 = .ok (.iconst 2, 1) := by decide +kernel
theorem dX1_cyclesBy_38 : decode cX1_cyclesBy 38 = .ok (.iaload, 1) := by decide +kernel
theorem dX1_cyclesBy_39 : decode cX1_cyclesBy 39 = .ok (.isub, 1) := by decide +kernel
theorem dX1_cyclesBy_40 : decode cX1_cyclesBy 40 = .ok (.i2l, 1) := by decide +kernel
theorem dX1_cyclesBy_41 : decode cX1_cyclesBy 41 = .ok (.ldc2_w 98, 3) := by decide +kernel
theorem dX1_cyclesBy_44 : decode cX1_cyclesBy 44 = .ok (.lmul, 1) := by decide +kernel
theorem dX1_cyclesBy_45 : decode cX1_cyclesBy 45 = .ok (.lstore 5, 2) := by decide +kernel
theorem dX1_cyclesBy_47 : decode cX1_cyclesBy 47 = .ok (.lload 5, 2) := by decide +kernel
theorem dX1_cyclesBy_49 : decode cX1_cyclesBy 49 = .ok (.lconst 0, 1) := by decide +kernel
theorem dX1_cyclesBy_50 : decode cX1_cyclesBy 50 = .ok (.lcmp, 1) := by decide +kernel
theorem dX1_cyclesBy_51 : decode cX1_cyclesBy 51 = .ok (.ifCond .ge 5, 3) := by decide +kernel
theorem dX1_cyclesBy_54 : decode cX1_cyclesBy 54 = .ok (.iconst 0, 1) := by decide +kernel
theorem dX1_cyclesBy_55 : decode cX1_cyclesBy 55 = .ok (.ireturn, 1) := by decide +kernel
theorem dX1_cyclesBy_56 : decode cX1_cyclesBy 56 = .ok (.iload_n 0, 1) := by decide +kernel
theorem dX1_cyclesBy_57 : decode cX1_cyclesBy 57 = .ok (.i2l, 1) := by decide +kernel
theorem dX1_cyclesBy_58 : decode cX1_cyclesBy 58 = .ok (.lload_n 3, 1) := by decide +kernel
theorem dX1_cyclesBy_59 : decode cX1_cyclesBy 59 = .ok (.lmul, 1) := by decide +kernel
theorem dX1_cyclesBy_60 : decode cX1_cyclesBy 60 = .ok (.lstore 7, 2) := by decide +kernel
theorem dX1_cyclesBy_62 : decode cX1_cyclesBy 62 = .ok (.lload 7, 2) := by decide +kernel
theorem dX1_cyclesBy_64 : decode cX1_cyclesBy 64 = .ok (.lconst 0, 1) := by decide +kernel
theorem dX1_cyclesBy_65 : decode cX1_cyclesBy 65 = .ok (.lcmp, 1) := by decide +kernel
theorem dX1_cyclesBy_66 : decode cX1_cyclesBy 66 = .ok (.ifCond .gt 6, 3) := by decide +kernel
theorem dX1_cyclesBy_69 : decode cX1_cyclesBy 69 = .ok (.ldc 100, 2) := by decide +kernel
theorem dX1_cyclesBy_71 : decode cX1_cyclesBy 71 = .ok (.ireturn, 1) := by decide +kernel
theorem dX1_cyclesBy_72 : decode cX1_cyclesBy 72 = .ok (.lload 5, 2) := by decide +kernel
theorem dX1_cyclesBy_74 : decode cX1_cyclesBy 74 = .ok (.lload 7, 2) := by decide +kernel
theorem dX1_cyclesBy_76 : decode cX1_cyclesBy 76 = .ok (.ldiv, 1) := by decide +kernel
theorem dX1_cyclesBy_77 : decode cX1_cyclesBy 77 = .ok (.lconst 1, 1) := by decide +kernel
theorem dX1_cyclesBy_78 : decode cX1_cyclesBy 78 = .ok (.ladd, 1) := by decide +kernel
theorem dX1_cyclesBy_79 : decode cX1_cyclesBy 79 = .ok (.lstore 9, 2) := by decide +kernel
theorem dX1_cyclesBy_81 : decode cX1_cyclesBy 81 = .ok (.lload 9, 2) := by decide +kernel
theorem dX1_cyclesBy_83 : decode cX1_cyclesBy 83 = .ok (.ldc2_w 101, 3) := by decide +kernel
theorem dX1_cyclesBy_86 : decode cX1_cyclesBy 86 = .ok (.lcmp, 1) := by decide +kernel
theorem dX1_cyclesBy_87 : decode cX1_cyclesBy 87 = .ok (.ifCond .ge 9, 3) := by decide +kernel
theorem dX1_cyclesBy_90 : decode cX1_cyclesBy 90 = .ok (.lload 9, 2) := by decide +kernel
theorem dX1_cyclesBy_92 : decode cX1_cyclesBy 92 = .ok (.l2i, 1) := by decide +kernel
theorem dX1_cyclesBy_93 : decode cX1_cyclesBy 93 = .ok (.goto 5, 3) := by decide +kernel
theorem dX1_cyclesBy_96 : decode cX1_cyclesBy 96 = .ok (.ldc 100, 2) := by decide +kernel
theorem dX1_cyclesBy_98 : decode cX1_cyclesBy 98 = .ok (.ireturn, 1) := by decide +kernel
theorem dX1_endingRow_0 : decode cX1_endingRow 0 = .ok (.iconst 0, 1) := by decide +kernel
theorem dX1_endingRow_1 : decode cX1_endingRow 1 = .ok (.istore 4, 2) := by decide +kernel
theorem dX1_endingRow_3 : decode cX1_endingRow 3 = .ok (.ldc 103, 2) := by decide +kernel
theorem dX1_endingRow_5 : decode cX1_endingRow 5 = .ok (.istore 5, 2) := by decide +kernel
theorem dX1_endingRow_7 : decode cX1_endingRow 7 = .ok (.iconst 0, 1) := by decide +kernel
theorem dX1_endingRow_8 : decode cX1_endingRow 8 = .ok (.istore 6, 2) := by decide +kernel
theorem dX1_endingRow_10 : decode cX1_endingRow 10 = .ok (.iload 6, 2) := by decide +kernel
theorem dX1_endingRow_12 : decode cX1_endingRow 12 = .ok (.aload_n 0, 1) := by decide +kernel
theorem dX1_endingRow_13 : decode cX1_endingRow 13 = .ok (.getfield 21, 3) := by decide +kernel
theorem dX1_endingRow_16 : decode cX1_endingRow 16 = .ok (.iload_n 1, 1) := by decide +kernel
theorem dX1_endingRow_17 : decode cX1_endingRow 17 = .ok (.iaload, 1) := by decide +kernel
theorem dX1_endingRow_18 : decode cX1_endingRow 18 = .ok (.if_icmp .ge 35, 3) := by decide +kernel
theorem dX1_endingRow_21 : decode cX1_endingRow 21 = .ok (.aload_n 0, 1) := by decide +kernel
theorem dX1_endingRow_22 : decode cX1_endingRow 22 = .ok (.iload_n 1, 1) := by decide +kernel
theorem dX1_endingRow_23 : decode cX1_endingRow 23 = .ok (.iload 6, 2) := by decide +kernel
theorem dX1_endingRow_25 : decode cX1_endingRow 25 = .ok (.aload_n 2, 1) := by decide +kernel
theorem dX1_endingRow_26 : decode cX1_endingRow 26 = .ok (.aload_n 3, 1) := by decide +kernel
theorem dX1_endingRow_27 : decode cX1_endingRow 27 = .ok (.invokevirtual 104, 3) := by decide +kernel
theorem dX1_endingRow_30 : decode cX1_endingRow 30 = .ok (.istore 7, 2) := by decide +kernel
theorem dX1_endingRow_32 : decode cX1_endingRow 32 = .ok (.iload 7, 2) := by decide +kernel
theorem dX1_endingRow_34 : decode cX1_endingRow 34 = .ok (.iload 5, 2) := by decide +kernel
theorem dX1_endingRow_36 : decode cX1_endingRow 36 = .ok (.if_icmp .ge 11, 3) := by decide +kernel
theorem dX1_endingRow_39 : decode cX1_endingRow 39 = .ok (.iload 7, 2) := by decide +kernel
theorem dX1_endingRow_41 : decode cX1_endingRow 41 = .ok (.istore 5, 2) := by decide +kernel
theorem dX1_endingRow_43 : decode cX1_endingRow 43 = .ok (.iload 6, 2) := by decide +kernel
theorem dX1_endingRow_45 : decode cX1_endingRow 45 = .ok (.istore 4, 2) := by decide +kernel
theorem dX1_endingRow_47 : decode cX1_endingRow 47 = .ok (.iinc 6 1, 3) := by decide +kernel
theorem dX1_endingRow_50 : decode cX1_endingRow 50 = .ok (.goto (-40), 3) := by decide +kernel
theorem dX1_endingRow_53 : decode cX1_endingRow 53 = .ok (.iload 4, 2) := by decide +kernel
theorem dX1_endingRow_55 : decode cX1_endingRow 55 = .ok (.ireturn, 1) := by decide +kernel
theorem dX1_bestPair_0 : decode cX1_bestPair 0 = .ok (.iconst 0, 1) := by decide +kernel
theorem dX1_bestPair_1 : decode cX1_bestPair 1 = .ok (.istore 6, 2) := by decide +kernel
theorem dX1_bestPair_3 : decode cX1_bestPair 3 = .ok (.iload 6, 2) := by decide +kernel
theorem dX1_bestPair_5 : decode cX1_bestPair 5 = .ok (.aload_n 0, 1) := by decide +kernel
theorem dX1_bestPair_6 : decode cX1_bestPair 6 = .ok (.getfield 21, 3) := by decide +kernel
theorem dX1_bestPair_9 : decode cX1_bestPair 9 = .ok (.iload_n 1, 1) := by decide +kernel
theorem dX1_bestPair_10 : decode cX1_bestPair 10 = .ok (.iaload, 1) := by decide +kernel
theorem dX1_bestPair_11 : decode cX1_bestPair 11 = .ok (.if_icmp .ge 27, 3) := by decide +kernel
theorem dX1_bestPair_14 : decode cX1_bestPair 14 = .ok (.aload_n 0, 1) := by decide +kernel
theorem dX1_bestPair_15 : decode cX1_bestPair 15 = .ok (.getfield 42, 3) := by decide +kernel
theorem dX1_bestPair_18 : decode cX1_bestPair 18 = .ok (.iload 6, 2) := by decide +kernel
theorem dX1_bestPair_20 : decode cX1_bestPair 20 = .ok (.aload_n 0, 1) := by decide +kernel
theorem dX1_bestPair_21 : decode cX1_bestPair 21 = .ok (.iload_n 1, 1) := by decide +kernel
theorem dX1_bestPair_22 : decode cX1_bestPair 22 = .ok (.iload 6, 2) := by decide +kernel
theorem dX1_bestPair_24 : decode cX1_bestPair 24 = .ok (.aload 4, 2) := by decide +kernel
theorem dX1_bestPair_26 : decode cX1_bestPair 26 = .ok (.aload 5, 2) := by decide +kernel
theorem dX1_bestPair_28 : decode cX1_bestPair 28 = .ok (.invokevirtual 104, 3) := by decide +kernel
theorem dX1_bestPair_31 : decode cX1_bestPair 31 = .ok (.iastore, 1) := by decide +kernel
theorem dX1_bestPair_32 : decode cX1_bestPair 32 = .ok (.iinc 6 1, 3) := by decide +kernel
theorem dX1_bestPair_35 : decode cX1_bestPair 35 = .ok (.goto (-32), 3) := by decide +kernel
theorem dX1_bestPair_38 : decode cX1_bestPair 38 = .ok (.aload_n 0, 1) := by decide +kernel
theorem dX1_bestPair_39 : decode cX1_bestPair 39 = .ok (.iconst (-1), 1) := by decide +kernel
theorem dX1_bestPair_40 : decode cX1_bestPair 40 = .ok (.putfield 108, 3) := by decide +kernel
theorem dX1_bestPair_43 : decode cX1_bestPair 43 = .ok (.iconst 0, 1) := by decide +kernel
theorem dX1_bestPair_44 : decode cX1_bestPair 44 = .ok (.istore 6, 2) := by decide +kernel
theorem dX1_bestPair_46 : decode cX1_bestPair 46 = .ok (.iconst 0, 1) := by decide +kernel
theorem dX1_bestPair_47 : decode cX1_bestPair 47 = .ok (.istore 7, 2) := by decide +kernel
theorem dX1_bestPair_49 : decode cX1_bestPair 49 = .ok (.iload 7, 2) := by decide +kernel
theorem dX1_bestPair_51 : decode cX1_bestPair 51 = .ok (.aload_n 0, 1) := by decide +kernel
theorem dX1_bestPair_52 : decode cX1_bestPair 52 = .ok (.getfield 18, 3) := by decide +kernel
theorem dX1_bestPair_55 : decode cX1_bestPair 55 = .ok (.iload_n 1, 1) := by decide +kernel
theorem dX1_bestPair_56 : decode cX1_bestPair 56 = .ok (.iaload, 1) := by decide +kernel
theorem dX1_bestPair_57 : decode cX1_bestPair 57 = .ok (.if_icmp .ge 167, 3) := by decide +kernel
theorem dX1_bestPair_60 : decode cX1_bestPair 60 = .ok (.iload 7, 2) := by decide +kernel
theorem dX1_bestPair_62 : decode cX1_bestPair 62 = .ok (.aload_n 0, 1) := by decide +kernel
theorem dX1_bestPair_63 : decode cX1_bestPair 63 = .ok (.iload_n 1, 1) := by decide +kernel
theorem dX1_bestPair_64 : decode cX1_bestPair 64 = .ok (.invokevirtual 68, 3) := by decide +kernel
theorem dX1_bestPair_67 : decode cX1_bestPair 67 = .ok (.invokestatic 65, 3) := by decide +kernel
theorem dX1_bestPair_70 : decode cX1_bestPair 70 = .ok (.istore 8, 2) := by decide +kernel
theorem dX1_bestPair_72 : decode cX1_bestPair 72 = .ok (.aload_n 0, 1) := by decide +kernel
theorem dX1_bestPair_73 : decode cX1_bestPair 73 = .ok (.iload 8, 2) := by decide +kernel
theorem dX1_bestPair_75 : decode cX1_bestPair 75 = .ok (.aload_n 0, 1) := by decide +kernel
theorem dX1_bestPair_76 : decode cX1_bestPair 76 = .ok (.getfield 21, 3) := by decide +kernel
theorem dX1_bestPair_79 : decode cX1_bestPair 79 = .ok (.iload_n 1, 1) := by decide +kernel
theorem dX1_bestPair_80 : decode cX1_bestPair 80 = .ok (.iaload, 1) := by decide +kernel
theorem dX1_bestPair_81 : decode cX1_bestPair 81 = .ok (.invokevirtual 111, 3) := by decide +kernel
theorem dX1_bestPair_84 : decode cX1_bestPair 84 = .ok (.istore 9, 2) := by decide +kernel
theorem dX1_bestPair_86 : decode cX1_bestPair 86 = .ok (.aload_n 0, 1) := by decide +kernel
theorem dX1_bestPair_87 : decode cX1_bestPair 87 = .ok (.iload_n 1, 1) := by decide +kernel
theorem dX1_bestPair_88 : decode cX1_bestPair 88 = .ok (.iload 7, 2) := by decide +kernel
theorem dX1_bestPair_90 : decode cX1_bestPair 90 = .ok (.invokevirtual 62, 3) := by decide +kernel
theorem dX1_bestPair_93 : decode cX1_bestPair 93 = .ok (.istore 10, 2) := by decide +kernel
theorem dX1_bestPair_95 : decode cX1_bestPair 95 = .ok (.aload_n 0, 1) := by decide +kernel
theorem dX1_bestPair_96 : decode cX1_bestPair 96 = .ok (.iload_n 1, 1) := by decide +kernel
theorem dX1_bestPair_97 : decode cX1_bestPair 97 = .ok (.iload 8, 2) := by decide +kernel
theorem dX1_bestPair_99 : decode cX1_bestPair 99 = .ok (.aload 4, 2) := by decide +kernel
theorem dX1_bestPair_101 : decode cX1_bestPair 101 = .ok (.invokevirtual 80, 3) := by decide +kernel
theorem dX1_bestPair_104 : decode cX1_bestPair 104 = .ok (.aload 4, 2) := by decide +kernel
theorem dX1_bestPair_106 : decode cX1_bestPair 106 = .ok (.getfield 72, 3) := by decide +kernel
theorem dX1_bestPair_109 : decode cX1_bestPair 109 = .ok (.iload 10, 2) := by decide +kernel
theorem dX1_bestPair_111 : decode cX1_bestPair 111 = .ok (.iaload, 1) := by decide +kernel
theorem dX1_bestPair_112 : decode cX1_bestPair 112 = .ok (.isub, 1) := by decide +kernel
theorem dX1_bestPair_113 : decode cX1_bestPair 113 = .ok (.istore 11, 2) := by decide +kernel
theorem dX1_bestPair_115 : decode cX1_bestPair 115 = .ok (.aload_n 0, 1) := by decide +kernel
theorem dX1_bestPair_116 : decode cX1_bestPair 116 = .ok (.iload_n 1, 1) := by decide +kernel
theorem dX1_bestPair_117 : decode cX1_bestPair 117 = .ok (.iload 8, 2) := by decide +kernel
theorem dX1_bestPair_119 : decode cX1_bestPair 119 = .ok (.aload 4, 2) := by decide +kernel
theorem dX1_bestPair_121 : decode cX1_bestPair 121 = .ok (.invokevirtual 84, 3) := by decide +kernel
theorem dX1_bestPair_124 : decode cX1_bestPair 124 = .ok (.aload 4, 2) := by decide +kernel
theorem dX1_bestPair_126 : decode cX1_bestPair 126 = .ok (.iload 10, 2) := by decide +kernel
theorem dX1_bestPair_128 : decode cX1_bestPair 128 = .ok (.invokevirtual 77, 3) := by decide +kernel
theorem dX1_bestPair_131 : decode cX1_bestPair 131 = .ok (.isub, 1) := by decide +kernel
theorem dX1_bestPair_132 : decode cX1_bestPair 132 = .ok (.istore 12, 2) := by decide +kernel
theorem dX1_bestPair_134 : decode cX1_bestPair 134 = .ok (.iconst 0, 1) := by decide +kernel
theorem dX1_bestPair_135 : decode cX1_bestPair 135 = .ok (.istore 13, 2) := by decide +kernel
theorem dX1_bestPair_137 : decode cX1_bestPair 137 = .ok (.iload 13, 2) := by decide +kernel
theorem dX1_bestPair_139 : decode cX1_bestPair 139 = .ok (.iload_n 3, 1) := by decide +kernel
theorem dX1_bestPair_140 : decode cX1_bestPair 140 = .ok (.if_icmp .ge 78, 3) := by decide +kernel
theorem dX1_bestPair_143 : decode cX1_bestPair 143 = .ok (.iload 11, 2) := by decide +kernel
theorem dX1_bestPair_145 : decode cX1_bestPair 145 = .ok (.aload 4, 2) := by decide +kernel
theorem dX1_bestPair_147 : decode cX1_bestPair 147 = .ok (.getfield 72, 3) := by decide +kernel
theorem dX1_bestPair_150 : decode cX1_bestPair 150 = .ok (.aload_n 2, 1) := by decide +kernel
theorem dX1_bestPair_151 : decode cX1_bestPair 151 = .ok (.iload 13, 2) := by decide +kernel
theorem dX1_bestPair_153 : decode cX1_bestPair 153 = .ok (.iaload, 1) := by decide +kernel
theorem dX1_bestPair_154 : decode cX1_bestPair 154 = .ok (.iaload, 1) := by decide +kernel
theorem dX1_bestPair_155 : decode cX1_bestPair 155 = .ok (.iadd, 1) := by decide +kernel
theorem dX1_bestPair_156 : decode cX1_bestPair 156 = .ok (.iload 12, 2) := by decide +kernel
theorem dX1_bestPair_158 : decode cX1_bestPair 158 = .ok (.aload 4, 2) := by decide +kernel
theorem dX1_bestPair_160 : decode cX1_bestPair 160 = .ok (.aload_n 2, 1) := by decide +kernel
theorem dX1_bestPair_161 : decode cX1_bestPair 161 = .ok (.iload 13, 2) := by decide +kernel
theorem dX1_bestPair_163 : decode cX1_bestPair 163 = .ok (.iaload, 1) := by decide +kernel
theorem dX1_bestPair_164 : decode cX1_bestPair 164 = .ok (.invokevirtual 77, 3) := by decide +kernel
theorem dX1_bestPair_167 : decode cX1_bestPair 167 = .ok (.iadd, 1) := by decide +kernel
theorem dX1_bestPair_168 : decode cX1_bestPair 168 = .ok (.aload 5, 2) := by decide +kernel
theorem dX1_bestPair_170 : decode cX1_bestPair 170 = .ok (.invokestatic 86, 3) := by decide +kernel
theorem dX1_bestPair_173 : decode cX1_bestPair 173 = .ok (.istore 14, 2) := by decide +kernel
theorem dX1_bestPair_175 : decode cX1_bestPair 175 = .ok (.iload 14, 2) := by decide +kernel
theorem dX1_bestPair_177 : decode cX1_bestPair 177 = .ok (.iload 9, 2) := by decide +kernel
theorem dX1_bestPair_179 : decode cX1_bestPair 179 = .ok (.invokestatic 114, 3) := by decide +kernel
theorem dX1_bestPair_182 : decode cX1_bestPair 182 = .ok (.aload_n 0, 1) := by decide +kernel
theorem dX1_bestPair_183 : decode cX1_bestPair 183 = .ok (.getfield 108, 3) := by decide +kernel
theorem dX1_bestPair_186 : decode cX1_bestPair 186 = .ok (.if_icmp .le 26, 3) := by decide +kernel
theorem dX1_bestPair_189 : decode cX1_bestPair 189 = .ok (.aload_n 0, 1) := by decide +kernel
theorem dX1_bestPair_190 : decode cX1_bestPair 190 = .ok (.iload 14, 2) := by decide +kernel
theorem dX1_bestPair_192 : decode cX1_bestPair 192 = .ok (.iload 9, 2) := by decide +kernel
theorem dX1_bestPair_194 : decode cX1_bestPair 194 = .ok (.invokestatic 114, 3) := by decide +kernel
theorem dX1_bestPair_197 : decode cX1_bestPair 197 = .ok (.putfield 108, 3) := by decide +kernel
theorem dX1_bestPair_200 : decode cX1_bestPair 200 = .ok (.iload 10, 2) := by decide +kernel
theorem dX1_bestPair_202 : decode cX1_bestPair 202 = .ok (.bipush 8, 2) := by decide +kernel
theorem dX1_bestPair_204 : decode cX1_bestPair 204 = .ok (.ishl, 1) := by decide +kernel
theorem dX1_bestPair_205 : decode cX1_bestPair 205 = .ok (.aload_n 2, 1) := by decide +kernel
theorem dX1_bestPair_206 : decode cX1_bestPair 206 = .ok (.iload 13, 2) := by decide +kernel
theorem dX1_bestPair_208 : decode cX1_bestPair 208 = .ok (.iaload, 1) := by decide +kernel
theorem dX1_bestPair_209 : decode cX1_bestPair 209 = .ok (.ior, 1) := by decide +kernel
theorem dX1_bestPair_210 : decode cX1_bestPair 210 = .ok (.istore 6, 2) := by decide +kernel
theorem dX1_bestPair_212 : decode cX1_bestPair 212 = .ok (.iinc 13 1, 3) := by decide +kernel
theorem dX1_bestPair_215 : decode cX1_bestPair 215 = .ok (.goto (-78), 3) := by decide +kernel
theorem dX1_bestPair_218 : decode cX1_bestPair 218 = .ok (.iinc 7 1, 3) := by decide +kernel
theorem dX1_bestPair_221 : decode cX1_bestPair 221 = .ok (.goto (-172), 3) := by decide +kernel
theorem dX1_bestPair_224 : decode cX1_bestPair 224 = .ok (.iload 6, 2) := by decide +kernel
theorem dX1_bestPair_226 : decode cX1_bestPair 226 = .ok (.ireturn, 1) := by decide +kernel
theorem dX1_leastBut_0 : decode cX1_leastBut 0 = .ok (.ldc 100, 2) := by decide +kernel
theorem dX1_leastBut_2 : decode cX1_leastBut 2 = .ok (.istore_n 3, 1) := by decide +kernel
theorem dX1_leastBut_3 : decode cX1_leastBut 3 = .ok (.iconst 0, 1) := by decide +kernel
theorem dX1_leastBut_4 : decode cX1_leastBut 4 = .ok (.istore 4, 2) := by decide +kernel
theorem dX1_leastBut_6 : decode cX1_leastBut 6 = .ok (.iload 4, 2) := by decide +kernel
theorem dX1_leastBut_8 : decode cX1_leastBut 8 = .ok (.iload_n 2, 1) := by decide +kernel
theorem dX1_leastBut_9 : decode cX1_leastBut 9 = .ok (.if_icmp .ge 27, 3) := by decide +kernel
theorem dX1_leastBut_12 : decode cX1_leastBut 12 = .ok (.iload 4, 2) := by decide +kernel
theorem dX1_leastBut_14 : decode cX1_leastBut 14 = .ok (.iload_n 1, 1) := by decide +kernel
theorem dX1_leastBut_15 : decode cX1_leastBut 15 = .ok (.if_icmp .eq 15, 3) := by decide +kernel
theorem dX1_leastBut_18 : decode cX1_leastBut 18 = .ok (.iload_n 3, 1) := by decide +kernel
theorem dX1_leastBut_19 : decode cX1_leastBut 19 = .ok (.aload_n 0, 1) := by decide +kernel
theorem dX1_leastBut_20 : decode cX1_leastBut 20 = .ok (.getfield 42, 3) := by decide +kernel
theorem dX1_leastBut_23 : decode cX1_leastBut 23 = .ok (.iload 4, 2) := by decide +kernel
theorem dX1_leastBut_25 : decode cX1_leastBut 25 = .ok (.iaload, 1) := by decide +kernel
theorem dX1_leastBut_26 : decode cX1_leastBut 26 = .ok (.invokestatic 114, 3) := by decide +kernel
theorem dX1_leastBut_29 : decode cX1_leastBut 29 = .ok (.istore_n 3, 1) := by decide +kernel
theorem dX1_leastBut_30 : decode cX1_leastBut 30 = .ok (.iinc 4 1, 3) := by decide +kernel
theorem dX1_leastBut_33 : decode cX1_leastBut 33 = .ok (.goto (-27), 3) := by decide +kernel
theorem dX1_leastBut_36 : decode cX1_leastBut 36 = .ok (.iload_n 3, 1) := by decide +kernel
theorem dX1_leastBut_37 : decode cX1_leastBut 37 = .ok (.ireturn, 1) := by decide +kernel
theorem dX1_shortOf_0 : decode cX1_shortOf 0 = .ok (.aload_n 0, 1) := by decide +kernel
theorem dX1_shortOf_1 : decode cX1_shortOf 1 = .ok (.getfield 9, 3) := by decide +kernel
theorem dX1_shortOf_4 : decode cX1_shortOf 4 = .ok (.iload_n 1, 1) := by decide +kernel
theorem dX1_shortOf_5 : decode cX1_shortOf 5 = .ok (.iaload, 1) := by decide +kernel
theorem dX1_shortOf_6 : decode cX1_shortOf 6 = .ok (.istore 4, 2) := by decide +kernel
theorem dX1_shortOf_8 : decode cX1_shortOf 8 = .ok (.aload_n 0, 1) := by decide +kernel
theorem dX1_shortOf_9 : decode cX1_shortOf 9 = .ok (.iload 4, 2) := by decide +kernel
theorem dX1_shortOf_11 : decode cX1_shortOf 11 = .ok (.iload_n 1, 1) := by decide +kernel
theorem dX1_shortOf_12 : decode cX1_shortOf 12 = .ok (.invokevirtual 58, 3) := by decide +kernel
theorem dX1_shortOf_15 : decode cX1_shortOf 15 = .ok (.istore 5, 2) := by decide +kernel
theorem dX1_shortOf_17 : decode cX1_shortOf 17 = .ok (.iload 5, 2) := by decide +kernel
theorem dX1_shortOf_19 : decode cX1_shortOf 19 = .ok (.iconst (-1), 1) := by decide +kernel
theorem dX1_shortOf_20 : decode cX1_shortOf 20 = .ok (.if_icmp .ne 5, 3) := by decide +kernel
theorem dX1_shortOf_23 : decode cX1_shortOf 23 = .ok (.iconst (-1), 1) := by decide +kernel
theorem dX1_shortOf_24 : decode cX1_shortOf 24 = .ok (.ireturn, 1) := by decide +kernel
theorem dX1_shortOf_25 : decode cX1_shortOf 25 = .ok (.aload_n 0, 1) := by decide +kernel
theorem dX1_shortOf_26 : decode cX1_shortOf 26 = .ok (.iload 4, 2) := by decide +kernel
theorem dX1_shortOf_28 : decode cX1_shortOf 28 = .ok (.invokevirtual 68, 3) := by decide +kernel
theorem dX1_shortOf_31 : decode cX1_shortOf 31 = .ok (.istore 6, 2) := by decide +kernel
theorem dX1_shortOf_33 : decode cX1_shortOf 33 = .ok (.iload 5, 2) := by decide +kernel
theorem dX1_shortOf_35 : decode cX1_shortOf 35 = .ok (.iload 6, 2) := by decide +kernel
theorem dX1_shortOf_37 : decode cX1_shortOf 37 = .ok (.invokestatic 65, 3) := by decide +kernel
theorem dX1_shortOf_40 : decode cX1_shortOf 40 = .ok (.iload 6, 2) := by decide +kernel
theorem dX1_shortOf_42 : decode cX1_shortOf 42 = .ok (.imul, 1) := by decide +kernel
theorem dX1_shortOf_43 : decode cX1_shortOf 43 = .ok (.istore 7, 2) := by decide +kernel
theorem dX1_shortOf_45 : decode cX1_shortOf 45 = .ok (.iconst 0, 1) := by decide +kernel
theorem dX1_shortOf_46 : decode cX1_shortOf 46 = .ok (.istore 8, 2) := by decide +kernel
theorem dX1_shortOf_48 : decode cX1_shortOf 48 = .ok (.iconst 0, 1) := by decide +kernel
theorem dX1_shortOf_49 : decode cX1_shortOf 49 = .ok (.istore 9, 2) := by decide +kernel
theorem dX1_shortOf_51 : decode cX1_shortOf 51 = .ok (.iload 7, 2) := by decide +kernel
theorem dX1_shortOf_53 : decode cX1_shortOf 53 = .ok (.istore 10, 2) := by decide +kernel
theorem dX1_shortOf_55 : decode cX1_shortOf 55 = .ok (.iload 10, 2) := by decide +kernel
theorem dX1_shortOf_57 : decode cX1_shortOf 57 = .ok (.iload 7, 2) := by decide +kernel
theorem dX1_shortOf_59 : decode cX1_shortOf 59 = .ok (.iload 6, 2) := by decide +kernel
theorem dX1_shortOf_61 : decode cX1_shortOf 61 = .ok (.iadd, 1) := by decide +kernel
theorem dX1_shortOf_62 : decode cX1_shortOf 62 = .ok (.if_icmp .ge 69, 3) := by decide +kernel
theorem dX1_shortOf_65 : decode cX1_shortOf 65 = .ok (.aload_n 0, 1) := by decide +kernel
theorem dX1_shortOf_66 : decode cX1_shortOf 66 = .ok (.iload 4, 2) := by decide +kernel
theorem dX1_shortOf_68 : decode cX1_shortOf 68 = .ok (.iload 10, 2) := by decide +kernel
theorem dX1_shortOf_70 : decode cX1_shortOf 70 = .ok (.invokevirtual 62, 3) := by decide +kernel
theorem dX1_shortOf_73 : decode cX1_shortOf 73 = .ok (.istore 11, 2) := by decide +kernel
theorem dX1_shortOf_75 : decode cX1_shortOf 75 = .ok (.iload 11, 2) := by decide +kernel
theorem dX1_shortOf_77 : decode cX1_shortOf 77 = .ok (.iload_n 1, 1) := by decide +kernel
theorem dX1_shortOf_78 : decode cX1_shortOf 78 = .ok (.if_icmp .eq 47, 3) := by decide +kernel
theorem dX1_shortOf_81 : decode cX1_shortOf 81 = .ok (.ldc 119, 2) := by decide +kernel
theorem dX1_shortOf_83 : decode cX1_shortOf 83 = .ok (.aload_n 2, 1) := by decide +kernel
theorem dX1_shortOf_84 : decode cX1_shortOf 84 = .ok (.getfield 120, 3) := by decide +kernel
theorem dX1_shortOf_87 : decode cX1_shortOf 87 = .ok (.iload_n 1, 1) := by decide +kernel
theorem dX1_shortOf_88 : decode cX1_shortOf 88 = .ok (.iaload, 1) := by decide +kernel
theorem dX1_shortOf_89 : decode cX1_shortOf 89 = .ok (.aload_n 2, 1) := by decide +kernel
theorem dX1_shortOf_90 : decode cX1_shortOf 90 = .ok (.getfield 120, 3) := by decide +kernel
theorem dX1_shortOf_93 : decode cX1_shortOf 93 = .ok (.iload 11, 2) := by decide +kernel
theorem dX1_shortOf_95 : decode cX1_shortOf 95 = .ok (.iaload, 1) := by decide +kernel
theorem dX1_shortOf_96 : decode cX1_shortOf 96 = .ok (.iadd, 1) := by decide +kernel
theorem dX1_shortOf_97 : decode cX1_shortOf 97 = .ok (.invokestatic 65, 3) := by decide +kernel
theorem dX1_shortOf_100 : decode cX1_shortOf 100 = .ok (.istore 12, 2) := by decide +kernel
theorem dX1_shortOf_102 : decode cX1_shortOf 102 = .ok (.iload 8, 2) := by decide +kernel
theorem dX1_shortOf_104 : decode cX1_shortOf 104 = .ok (.iload 12, 2) := by decide +kernel
theorem dX1_shortOf_106 : decode cX1_shortOf 106 = .ok (.iload_n 3, 1) := by decide +kernel
theorem dX1_shortOf_107 : decode cX1_shortOf 107 = .ok (.if_icmp .le 7, 3) := by decide +kernel
theorem dX1_shortOf_110 : decode cX1_shortOf 110 = .ok (.iconst 1, 1) := by decide +kernel
theorem dX1_shortOf_111 : decode cX1_shortOf 111 = .ok (.goto 4, 3) := by decide +kernel
theorem dX1_shortOf_114 : decode cX1_shortOf 114 = .ok (.iconst 0, 1) := by decide +kernel
theorem dX1_shortOf_115 : decode cX1_shortOf 115 = .ok (.iadd, 1) := by decide +kernel
theorem dX1_shortOf_116 : decode cX1_shortOf 116 = .ok (.istore 8, 2) := by decide +kernel
theorem dX1_shortOf_118 : decode cX1_shortOf 118 = .ok (.iload 9, 2) := by decide +kernel
theorem dX1_shortOf_120 : decode cX1_shortOf 120 = .ok (.iload 12, 2) := by decide +kernel
theorem dX1_shortOf_122 : decode cX1_shortOf 122 = .ok (.iadd, 1) := by decide +kernel
theorem dX1_shortOf_123 : decode cX1_shortOf 123 = .ok (.istore 9, 2) := by decide +kernel
theorem dX1_shortOf_125 : decode cX1_shortOf 125 = .ok (.iinc 10 1, 3) := by decide +kernel
theorem dX1_shortOf_128 : decode cX1_shortOf 128 = .ok (.goto (-73), 3) := by decide +kernel
theorem dX1_shortOf_131 : decode cX1_shortOf 131 = .ok (.bipush 10, 2) := by decide +kernel
theorem dX1_shortOf_133 : decode cX1_shortOf 133 = .ok (.iload 8, 2) := by decide +kernel
theorem dX1_shortOf_135 : decode cX1_shortOf 135 = .ok (.imul, 1) := by decide +kernel
theorem dX1_shortOf_136 : decode cX1_shortOf 136 = .ok (.iload 9, 2) := by decide +kernel
theorem dX1_shortOf_138 : decode cX1_shortOf 138 = .ok (.iload_n 3, 1) := by decide +kernel
theorem dX1_shortOf_139 : decode cX1_shortOf 139 = .ok (.if_icmp .le 7, 3) := by decide +kernel
theorem dX1_shortOf_142 : decode cX1_shortOf 142 = .ok (.iconst 1, 1) := by decide +kernel
theorem dX1_shortOf_143 : decode cX1_shortOf 143 = .ok (.goto 4, 3) := by decide +kernel
theorem dX1_shortOf_146 : decode cX1_shortOf 146 = .ok (.iconst 0, 1) := by decide +kernel
theorem dX1_shortOf_147 : decode cX1_shortOf 147 = .ok (.iadd, 1) := by decide +kernel
theorem dX1_shortOf_148 : decode cX1_shortOf 148 = .ok (.ireturn, 1) := by decide +kernel
theorem dX1_everHad_0 : decode cX1_everHad 0 = .ok (.iconst 0, 1) := by decide +kernel
theorem dX1_everHad_1 : decode cX1_everHad 1 = .ok (.istore 4, 2) := by decide +kernel
theorem dX1_everHad_3 : decode cX1_everHad 3 = .ok (.iload 4, 2) := by decide +kernel
theorem dX1_everHad_5 : decode cX1_everHad 5 = .ok (.aload_n 0, 1) := by decide +kernel
theorem dX1_everHad_6 : decode cX1_everHad 6 = .ok (.getfield 49, 3) := by decide +kernel
theorem dX1_everHad_9 : decode cX1_everHad 9 = .ok (.if_icmp .ge 35, 3) := by decide +kernel
theorem dX1_everHad_12 : decode cX1_everHad 12 = .ok (.aload_n 0, 1) := by decide +kernel
theorem dX1_everHad_13 : decode cX1_everHad 13 = .ok (.getfield 30, 3) := by decide +kernel
theorem dX1_everHad_16 : decode cX1_everHad 16 = .ok (.iload 4, 2) := by decide +kernel
theorem dX1_everHad_18 : decode cX1_everHad 18 = .ok (.iaload, 1) := by decide +kernel
theorem dX1_everHad_19 : decode cX1_everHad 19 = .ok (.iload_n 1, 1) := by decide +kernel
theorem dX1_everHad_20 : decode cX1_everHad 20 = .ok (.if_icmp .ne 18, 3) := by decide +kernel
theorem dX1_everHad_23 : decode cX1_everHad 23 = .ok (.aload_n 3, 1) := by decide +kernel
theorem dX1_everHad_24 : decode cX1_everHad 24 = .ok (.aload_n 0, 1) := by decide +kernel
theorem dX1_everHad_25 : decode cX1_everHad 25 = .ok (.getfield 36, 3) := by decide +kernel
theorem dX1_everHad_28 : decode cX1_everHad 28 = .ok (.iload 4, 2) := by decide +kernel
theorem dX1_everHad_30 : decode cX1_everHad 30 = .ok (.iaload, 1) := by decide +kernel
theorem dX1_everHad_31 : decode cX1_everHad 31 = .ok (.iaload, 1) := by decide +kernel
theorem dX1_everHad_32 : decode cX1_everHad 32 = .ok (.iload_n 2, 1) := by decide +kernel
theorem dX1_everHad_33 : decode cX1_everHad 33 = .ok (.if_icmp .ne 5, 3) := by decide +kernel
theorem dX1_everHad_36 : decode cX1_everHad 36 = .ok (.iconst 1, 1) := by decide +kernel
theorem dX1_everHad_37 : decode cX1_everHad 37 = .ok (.ireturn, 1) := by decide +kernel
theorem dX1_everHad_38 : decode cX1_everHad 38 = .ok (.iinc 4 1, 3) := by decide +kernel
theorem dX1_everHad_41 : decode cX1_everHad 41 = .ok (.goto (-38), 3) := by decide +kernel
theorem dX1_everHad_44 : decode cX1_everHad 44 = .ok (.aload_n 0, 1) := by decide +kernel
theorem dX1_everHad_45 : decode cX1_everHad 45 = .ok (.iload_n 1, 1) := by decide +kernel
theorem dX1_everHad_46 : decode cX1_everHad 46 = .ok (.iload_n 2, 1) := by decide +kernel
theorem dX1_everHad_47 : decode cX1_everHad 47 = .ok (.sipush 999, 3) := by decide +kernel
theorem dX1_everHad_50 : decode cX1_everHad 50 = .ok (.aload_n 3, 1) := by decide +kernel
theorem dX1_everHad_51 : decode cX1_everHad 51 = .ok (.invokevirtual 123, 3) := by decide +kernel
theorem dX1_everHad_54 : decode cX1_everHad 54 = .ok (.ireturn, 1) := by decide +kernel
theorem dX1_hadOn_0 : decode cX1_hadOn 0 = .ok (.aload_n 0, 1) := by decide +kernel
theorem dX1_hadOn_1 : decode cX1_hadOn 1 = .ok (.getfield 24, 3) := by decide +kernel
theorem dX1_hadOn_4 : decode cX1_hadOn 4 = .ok (.iload_n 1, 1) := by decide +kernel
theorem dX1_hadOn_5 : decode cX1_hadOn 5 = .ok (.iaload, 1) := by decide +kernel
theorem dX1_hadOn_6 : decode cX1_hadOn 6 = .ok (.iload_n 3, 1) := by decide +kernel
theorem dX1_hadOn_7 : decode cX1_hadOn 7 = .ok (.if_icmp .le 5, 3) := by decide +kernel
theorem dX1_hadOn_10 : decode cX1_hadOn 10 = .ok (.iconst 0, 1) := by decide +kernel
theorem dX1_hadOn_11 : decode cX1_hadOn 11 = .ok (.ireturn, 1) := by decide +kernel
theorem dX1_hadOn_12 : decode cX1_hadOn 12 = .ok (.iconst 0, 1) := by decide +kernel
theorem dX1_hadOn_13 : decode cX1_hadOn 13 = .ok (.istore 5, 2) := by decide +kernel
theorem dX1_hadOn_15 : decode cX1_hadOn 15 = .ok (.iload 5, 2) := by decide +kernel
theorem dX1_hadOn_17 : decode cX1_hadOn 17 = .ok (.aload_n 0, 1) := by decide +kernel
theorem dX1_hadOn_18 : decode cX1_hadOn 18 = .ok (.getfield 18, 3) := by decide +kernel
theorem dX1_hadOn_21 : decode cX1_hadOn 21 = .ok (.iload_n 1, 1) := by decide +kernel
theorem dX1_hadOn_22 : decode cX1_hadOn 22 = .ok (.iaload, 1) := by decide +kernel
theorem dX1_hadOn_23 : decode cX1_hadOn 23 = .ok (.if_icmp .ge 26, 3) := by decide +kernel
theorem dX1_hadOn_26 : decode cX1_hadOn 26 = .ok (.aload 4, 2) := by decide +kernel
theorem dX1_hadOn_28 : decode cX1_hadOn 28 = .ok (.aload_n 0, 1) := by decide +kernel
theorem dX1_hadOn_29 : decode cX1_hadOn 29 = .ok (.iload_n 1, 1) := by decide +kernel
theorem dX1_hadOn_30 : decode cX1_hadOn 30 = .ok (.iload 5, 2) := by decide +kernel
theorem dX1_hadOn_32 : decode cX1_hadOn 32 = .ok (.iload_n 3, 1) := by decide +kernel
theorem dX1_hadOn_33 : decode cX1_hadOn 33 = .ok (.invokevirtual 127, 3) := by decide +kernel
theorem dX1_hadOn_36 : decode cX1_hadOn 36 = .ok (.iaload, 1) := by decide +kernel
theorem dX1_hadOn_37 : decode cX1_hadOn 37 = .ok (.iload_n 2, 1) := by decide +kernel
theorem dX1_hadOn_38 : decode cX1_hadOn 38 = .ok (.if_icmp .ne 5, 3) := by decide +kernel
theorem dX1_hadOn_41 : decode cX1_hadOn 41 = .ok (.iconst 1, 1) := by decide +kernel
theorem dX1_hadOn_42 : decode cX1_hadOn 42 = .ok (.ireturn, 1) := by decide +kernel
theorem dX1_hadOn_43 : decode cX1_hadOn 43 = .ok (.iinc 5 1, 3) := by decide +kernel
theorem dX1_hadOn_46 : decode cX1_hadOn 46 = .ok (.goto (-31), 3) := by decide +kernel
theorem dX1_hadOn_49 : decode cX1_hadOn 49 = .ok (.iconst 0, 1) := by decide +kernel
theorem dX1_hadOn_50 : decode cX1_hadOn 50 = .ok (.ireturn, 1) := by decide +kernel
theorem dX1_cellOn_0 : decode cX1_cellOn 0 = .ok (.iconst 0, 1) := by decide +kernel
theorem dX1_cellOn_1 : decode cX1_cellOn 1 = .ok (.istore 4, 2) := by decide +kernel
theorem dX1_cellOn_3 : decode cX1_cellOn 3 = .ok (.iload 4, 2) := by decide +kernel
theorem dX1_cellOn_5 : decode cX1_cellOn 5 = .ok (.aload_n 0, 1) := by decide +kernel
theorem dX1_cellOn_6 : decode cX1_cellOn 6 = .ok (.getfield 49, 3) := by decide +kernel
theorem dX1_cellOn_9 : decode cX1_cellOn 9 = .ok (.if_icmp .ge 50, 3) := by decide +kernel
theorem dX1_cellOn_12 : decode cX1_cellOn 12 = .ok (.aload_n 0, 1) := by decide +kernel
theorem dX1_cellOn_13 : decode cX1_cellOn 13 = .ok (.getfield 30, 3) := by decide +kernel
theorem dX1_cellOn_16 : decode cX1_cellOn 16 = .ok (.iload 4, 2) := by decide +kernel
theorem dX1_cellOn_18 : decode cX1_cellOn 18 = .ok (.iaload, 1) := by decide +kernel
theorem dX1_cellOn_19 : decode cX1_cellOn 19 = .ok (.iload_n 1, 1) := by decide +kernel
theorem dX1_cellOn_20 : decode cX1_cellOn 20 = .ok (.if_icmp .ne 33, 3) := by decide +kernel
theorem dX1_cellOn_23 : decode cX1_cellOn 23 = .ok (.aload_n 0, 1) := by decide +kernel
theorem dX1_cellOn_24 : decode cX1_cellOn 24 = .ok (.getfield 33, 3) := by decide +kernel
theorem dX1_cellOn_27 : decode cX1_cellOn 27 = .ok (.iload 4, 2) := by decide +kernel
theorem dX1_cellOn_29 : decode cX1_cellOn 29 = .ok (.iaload, 1) := by decide +kernel
theorem dX1_cellOn_30 : decode cX1_cellOn 30 = .ok (.iload_n 2, 1) := by decide +kernel
theorem dX1_cellOn_31 : decode cX1_cellOn 31 = .ok (.if_icmp .ne 22, 3) := by decide +kernel
theorem dX1_cellOn_34 : decode cX1_cellOn 34 = .ok (.aload_n 0, 1) := by decide +kernel
theorem dX1_cellOn_35 : decode cX1_cellOn 35 = .ok (.getfield 39, 3) := by decide +kernel
theorem dX1_cellOn_38 : decode cX1_cellOn 38 = .ok (.iload 4, 2) := by decide +kernel
theorem dX1_cellOn_40 : decode cX1_cellOn 40 = .ok (.iaload, 1) := by decide +kernel
theorem dX1_cellOn_41 : decode cX1_cellOn 41 = .ok (.iload_n 3, 1) := by decide +kernel
theorem dX1_cellOn_42 : decode cX1_cellOn 42 = .ok (.if_icmp .le 11, 3) := by decide +kernel
theorem dX1_cellOn_45 : decode cX1_cellOn 45 = .ok (.aload_n 0, 1) := by decide +kernel
theorem dX1_cellOn_46 : decode cX1_cellOn 46 = .ok (.getfield 36, 3) := by decide +kernel
theorem dX1_cellOn_49 : decode cX1_cellOn 49 = .ok (.iload 4, 2) := by decide +kernel
theorem dX1_cellOn_51 : decode cX1_cellOn 51 = .ok (.iaload, 1) := by decide +kernel
theorem dX1_cellOn_52 : decode cX1_cellOn 52 = .ok (.ireturn, 1) := by decide +kernel
theorem dX1_cellOn_53 : decode cX1_cellOn 53 = .ok (.iinc 4 1, 3) := by decide +kernel
theorem dX1_cellOn_56 : decode cX1_cellOn 56 = .ok (.goto (-53), 3) := by decide +kernel
theorem dX1_cellOn_59 : decode cX1_cellOn 59 = .ok (.aload_n 0, 1) := by decide +kernel
theorem dX1_cellOn_60 : decode cX1_cellOn 60 = .ok (.iload_n 1, 1) := by decide +kernel
theorem dX1_cellOn_61 : decode cX1_cellOn 61 = .ok (.iload_n 2, 1) := by decide +kernel
theorem dX1_cellOn_62 : decode cX1_cellOn 62 = .ok (.invokevirtual 62, 3) := by decide +kernel
theorem dX1_cellOn_65 : decode cX1_cellOn 65 = .ok (.ireturn, 1) := by decide +kernel
